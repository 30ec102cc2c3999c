theorem ctI_ofF {l : Launch} {y : MethodName} {b : ByteArray} {mL : Nat} {rt : FieldType} {z : Int} {k : Nat × Nat} {K : KK} {av : List Value} {ws ws' : va_W} (hy : plainFor y = true) (hlen : (lg_sl av).length ≤ mL) (hn9 : narrow rt (.int (iI z)) = .int (iI z))
    (body : ∀ x : Cx, OK l (rmK k) K x b mL y.cls → va_D (cx_A x) ws → ReI l (rmK k) K x b z ws' → GG l (rmK k) K x ws 0 (lv_args 0 av) []) : CtI l y b mL rt k K av ws z ws' := by
  intro sz
  refine va_MetF (cc := b) (maxL := mL) (ret := some rt) hy rfl ?_
  intro p e s m args below meth c s₁ B hml hv
  obtain ⟨rfl, hsz, hP, hK, hD0⟩ := hv
  have hlocks := B.notSynchronized
  have hts0 := atoms_spec (ws := .code y b mL (some rt) :: TT) B.pre
  have hts : ∀ w ∈ TT, w.before av.toArray s = true := fun w hw => hts0 w (List.mem_cons_of_mem _ hw)
  have hown : s.vm.findClass y.cls = some m.cls := findClass_of_methodNamed B.named
  have hr := B.returns
  subst hsz
  rw [lg_entry_eq]
  refine body (p, e, s, m, av.toArray, below, meth, c, MQ below _ av.toArray s 0 0 (va_A ws s.heap.size), va_A ws s.heap.size, 0, 0) ⟨⟨⟨B.exec, B.bytes, hml, hown, hts⟩, hK⟩, fun q h => Or.inr h, Nat.zero_le _, Nat.zero_le _, rfl⟩ hD0.self ?_ s.heap [] _ hP va_S.rf (by rw [show (cx_c (p, e, s, m, av.toArray, below, meth, c, _, _, _, _)).maxLocals = mL from hml]; exact lv_entry av hlen)
  intro H locs ls pc hP9 hS9 hdg
  exact W.zret B.exec B.bytes hr hn9 (fun t ht hW => ⟨⟨iI z, (), rfl, rfl, by show va_P _ _ _ t.heap; rw [ht]; exact hP9⟩, hS9.F ht⟩) hS9.2.2 hdg
theorem ctV_ofF {l : Launch} {y : MethodName} {b : ByteArray} {mL : Nat}  {k : Nat × Nat} {K : KK} {av : List Value} {ws ws' : va_W} (hy : plainFor y = true) (hlen : (lg_sl av).length ≤ mL) 
    (body : ∀ x : Cx, OK l (rmK k) K x b mL y.cls → va_D (cx_A x) ws → ReV l (rmK k) K x b ws' → GG l (rmK k) K x ws 0 (lv_args 0 av) []) : CtV l y b mL k K av ws ws' := by
  intro sz
  refine va_MetF (cc := b) (maxL := mL) (ret := none) hy rfl ?_
  intro p e s m args below meth c s₁ B hml hv
  obtain ⟨rfl, hsz, hP, hK, hD0⟩ := hv
  have hlocks := B.notSynchronized
  have hts0 := atoms_spec (ws := .code y b mL (none) :: TT) B.pre
  have hts : ∀ w ∈ TT, w.before av.toArray s = true := fun w hw => hts0 w (List.mem_cons_of_mem _ hw)
  have hown : s.vm.findClass y.cls = some m.cls := findClass_of_methodNamed B.named
  have hr := B.returns
  subst hsz
  rw [lg_entry_eq]
  refine body (p, e, s, m, av.toArray, below, meth, c, MQ below _ av.toArray s 0 0 (va_A ws s.heap.size), va_A ws s.heap.size, 0, 0) ⟨⟨⟨B.exec, B.bytes, hml, hown, hts⟩, hK⟩, fun q h => Or.inr h, Nat.zero_le _, Nat.zero_le _, rfl⟩ hD0.self ?_ s.heap [] _ hP va_S.rf (by rw [show (cx_c (p, e, s, m, av.toArray, below, meth, c, _, _, _, _)).maxLocals = mL from hml]; exact lv_entry av hlen)
  intro H locs ls pc hP9 hS9 hdg
  exact W.vret B.exec B.bytes hr (fun t ht hW => ⟨⟨(), rfl, trivial, by show va_P _ _ _ t.heap; rw [ht]; exact hP9⟩, hS9.F ht⟩) hS9.2.2 hdg
theorem ctL_ofF {l : Launch} {y : MethodName} {b : ByteArray} {mL : Nat} {z : Int64} {k : Nat × Nat} {K : KK} {av : List Value} {ws ws' : va_W} (hy : plainFor y = true) (hlen : (lg_sl av).length ≤ mL) 
    (body : ∀ x : Cx, OK l (rmK k) K x b mL y.cls → va_D (cx_A x) ws → ReL l (rmK k) K x b z ws' → GG l (rmK k) K x ws 0 (lv_args 0 av) []) : CtL l y b mL k K av ws z ws' := by
  intro sz
  refine va_MetF (cc := b) (maxL := mL) (ret := some .long) hy rfl ?_
  intro p e s m args below meth c s₁ B hml hv
  obtain ⟨rfl, hsz, hP, hK, hD0⟩ := hv
  have hlocks := B.notSynchronized
  have hts0 := atoms_spec (ws := .code y b mL (some .long) :: TT) B.pre
  have hts : ∀ w ∈ TT, w.before av.toArray s = true := fun w hw => hts0 w (List.mem_cons_of_mem _ hw)
  have hown : s.vm.findClass y.cls = some m.cls := findClass_of_methodNamed B.named
  have hr := B.returns
  subst hsz
  rw [lg_entry_eq]
  refine body (p, e, s, m, av.toArray, below, meth, c, MQ below _ av.toArray s 0 0 (va_A ws s.heap.size), va_A ws s.heap.size, 0, 0) ⟨⟨⟨B.exec, B.bytes, hml, hown, hts⟩, hK⟩, fun q h => Or.inr h, Nat.zero_le _, Nat.zero_le _, rfl⟩ hD0.self ?_ s.heap [] _ hP va_S.rf (by rw [show (cx_c (p, e, s, m, av.toArray, below, meth, c, _, _, _, _)).maxLocals = mL from hml]; exact lv_entry av hlen)
  intro H locs ls pc hP9 hS9 hdg
  exact W.lret B.exec B.bytes hr (fun t ht hW => ⟨⟨z, (), rfl, rfl, by show va_P _ _ _ t.heap; rw [ht]; exact hP9⟩, hS9.F ht⟩) hS9.2.2 hdg
