/-! BASE 5: making cells: a context with other counts, new arrays and objects, constructors -/
def cxw (x : Cx) (k z : Nat) : Cx := (cx_p x, cx_e x, cx_s x, cx_m x, cx_a x, cx_b x, cx_t x, cx_c x, cx_Q x, cx_A x, k, z)
section GN
variable {l : Launch} {R : Room} {K : KK} {x : Cx} {cc : ByteArray} {nL : Nat} {own : String} {ws : va_W} {pc : Nat} {lv : List (Nat × Value)} {st : List Value} {k z k' z' : Nat}
theorem ok_w (X : OK l R K (cxw x k z) cc nL own) (hk : k' ≤ R.cells) (hz : z' ≤ R.slots) : OK l R K (cxw x k' z') cc nL own := ⟨X.1, X.2.1, hk, hz, rfl⟩
theorem gx_newi (X : OK l R K (cxw x k z) cc nL own) (hD : va_D (cx_A x) ws) (hT : Cond.arrayClass .int ∈ TT) (n : Nat) {v : Int} (hv : v = n) (hn : n ≤ 1000000) (ek : k + 1 = k') (ez : z + n = z') (hc : k' ≤ R.cells) (hs : z' ≤ R.slots) (hdg : decode cc pc = .ok (.newarray .int, 2)) (kk : ∀ q : Nat, OK l R K (cxw x k' z') cc nL own → va_D (cx_A x) (ws ++ [(q, zA K n (fun _ => 0))]) → GG l R K (cxw x k' z') (ws ++ [(q, zA K n (fun _ => 0))]) (pc + 2) lv (.ref q :: st)) : GG l R K (cxw x k z) ws pc lv (.int (iI v) :: st) := by
  subst hv; subst ek; subst ez
  intro H locs ls hP hS hl
  have nn : ¬ iI (n : Int) < 0 := by rw [← iI_z, iI_lt ⟨by omega, by omega⟩ ok_z]; omega
  have cN : (iI (n : Int)).toNatClampNeg = n := by rw [iI_clamp ⟨by omega, by omega⟩]; omega
  refine va_newa (atype := .int) (ty := .int) (a0 := (n, .inl (ia fun _ => 0))) X.1.1.1 X.1.1.2.1 (X.1.1.2.2.2.2 _ hT) rfl X.1.2 hP hD hS X.2.1 (fun _ => rfl) nn cN (by show n * 4 ≤ 536870912; omega) hc hs hdg (fun q cA H1 hK1 hP1 hD1 hS1 => ?_)
  have e : cA = K.2.1 := Option.some.inj ((hK1.2 3 (cA, .int) rfl).2.symm.trans (X.1.2.2 0 (K.2.1, .int) rfl).2)
  subst e
  exact kk q (ok_w X hc hs) hD1 H1 locs ls hP1 hS1 hl
theorem gx_newl (X : OK l R K (cxw x k z) cc nL own) (hD : va_D (cx_A x) ws) (hT : Cond.arrayClass .long ∈ TT) (n : Nat) {v : Int} (hv : v = n) (hn : n ≤ 1000000) (ek : k + 1 = k') (ez : z + n = z') (hc : k' ≤ R.cells) (hs : z' ≤ R.slots) (hdg : decode cc pc = .ok (.newarray .long, 2)) (kk : ∀ q : Nat, OK l R K (cxw x k' z') cc nL own → va_D (cx_A x) (ws ++ [(q, zL K n (fun _ => 0))]) → GG l R K (cxw x k' z') (ws ++ [(q, zL K n (fun _ => 0))]) (pc + 2) lv (.ref q :: st)) : GG l R K (cxw x k z) ws pc lv (.int (iI v) :: st) := by
  subst hv; subst ek; subst ez
  intro H locs ls hP hS hl
  have nn : ¬ iI (n : Int) < 0 := by rw [← iI_z, iI_lt ⟨by omega, by omega⟩ ok_z]; omega
  have cN : (iI (n : Int)).toNatClampNeg = n := by rw [iI_clamp ⟨by omega, by omega⟩]; omega
  refine va_newa (atype := .long) (ty := .long) (a0 := (n, .inr (.inl (la fun _ => 0)))) X.1.1.1 X.1.1.2.1 (X.1.1.2.2.2.2 _ hT) rfl X.1.2 hP hD hS X.2.1 (fun _ => rfl) nn cN (by show n * 8 ≤ 536870912; omega) hc hs hdg (fun q cA H1 hK1 hP1 hD1 hS1 => ?_)
  have e : cA = K.2.2.1 := Option.some.inj ((hK1.2 3 (cA, .long) rfl).2.symm.trans (X.1.2.2 1 (K.2.2.1, .long) rfl).2)
  subst e
  exact kk q (ok_w X hc hs) hD1 H1 locs ls hP1 hS1 hl
theorem gx_newq (X : OK l R K (cxw x k z) cc nL own) (hD : va_D (cx_A x) ws) {i : Nat} (hcl : Cond.classLink own i "TurnedCards$Card" ∈ TT) (hAO : va_AO "TurnedCards$Card" (cx_s x)) (n : Nat) {v : Int} (hv : v = n) (hn : n ≤ 1000000) (ek : k + 1 = k') (ez : z + n = z') (hc : k' ≤ R.cells) (hs : z' ≤ R.slots) (hdg : decode cc pc = .ok (.anewarray i, 3)) (kk : ∀ q : Nat, OK l R K (cxw x k' z') cc nL own → va_D (cx_A x) (ws ++ [(q, zR K n (fun _ => none))]) → GG l R K (cxw x k' z') (ws ++ [(q, zR K n (fun _ => none))]) (pc + 3) lv (.ref q :: st)) : GG l R K (cxw x k z) ws pc lv (.int (iI v) :: st) := by
  subst hv; subst ek; subst ez
  intro H locs ls hP hS hl
  have nn : ¬ iI (n : Int) < 0 := by rw [← iI_z, iI_lt ⟨by omega, by omega⟩ ok_z]; omega
  have cN : (iI (n : Int)).toNatClampNeg = n := by rw [iI_clamp ⟨by omega, by omega⟩]; omega
  refine va_newq (C := "TurnedCards$Card") X.1.1.1 X.1.1.2.1 X.1.1.2.2.2.1 (X.1.1.2.2.2.2 _ hcl) hAO X.1.2 hP hD hS X.2.1 nn cN (by omega) hc hs hdg (fun q cA H1 hK1 hP1 hD1 hS1 => ?_)
  obtain ⟨_, _, _, _, _, f1⟩ := (hK1.2 3 (cA, .object "TurnedCards$Card") rfl).2
  obtain ⟨_, _, _, _, _, f2⟩ := (X.1.2.2 2 (K.2.2.2, .object "TurnedCards$Card") rfl).2
  have e : cA = K.2.2.2 := Option.some.inj (f1.symm.trans f2)
  subst e
  exact kk q (ok_w X hc hs) hD1 H1 locs ls hP1 hS1 hl
theorem gx_new (X : OK l R K (cxw x k z) cc nL own) (hD : va_D (cx_A x) ws) {C : String} {T : u_T} {N ci index : Nat} (hin : ∀ w ∈ u_ws C T N, w ∈ TT) (ty : Nat → FieldType) (hty : ∀ k, k < N → parseFieldDescriptor (T k).2.2.1 = some (ty k)) (hcl : Cond.classLink own index C ∈ TT) (hinst : Cond.instantiable C N ∈ TT) (hini : Cond.initialized C ∈ TT) (hc9 : vwCl[ci]? = some (C, T, N)) {fs : List Value} (hfs : ∀ j, j < N → defaultValue (ty j) = vp_V fs j) (ek : k + 1 = k') (ez : z + N = z') (hc : k' ≤ R.cells) (hs : z' ≤ R.slots) (hdg : decode cc pc = .ok (.new index, 3)) (kk : ∀ q : Nat, OK l R K (cxw x k' z') cc nL own → va_D (cx_A x) (ws ++ [(q, .inr (ci, fs))]) → GG l R K (cxw x k' z') (ws ++ [(q, .inr (ci, fs))]) (pc + 3) lv (.ref q :: st)) : GG l R K (cxw x k z) ws pc lv st := by
  subst ek; subst ez
  intro H locs ls hP hS hl
  exact va_new X.1.1.1 X.1.1.2.1 X.1.1.2.2.2.2 hin ty hty X.1.1.2.2.2.1 (X.1.1.2.2.2.2 _ hcl) (X.1.1.2.2.2.2 _ hinst) (X.1.1.2.2.2.2 _ hini) X.1.2 hP hD hS X.2.1 hc9 hfs hc hs hdg (fun q H1 hP1 hD1 hS1 => kk q (ok_w X hc hs) hD1 H1 locs ls hP1 hS1 hl)
theorem gx_objInit (X : OK l R K x cc nL own) {i a : Nat} (h1 : Cond.methodLink own i objectInit ∈ TT) (h2 : Cond.instanceMethod objectInit ∈ TT) (h3 : Cond.code objectInit ⟨#[0xb1]⟩ 1 none ∈ TT) (hf : 1 ≤ R.frames) (hr : (st.map fun v => v.category).sum + 12 ≤ R.locals) (hdg : decode cc pc = .ok (.invokespecial i, 3)) (kk : GG l R K x ws (pc + 3) lv st) : GG l R K x ws pc lv (.ref a :: st) := by
  intro H locs ls hP hS hl
  refine W.objInit X.1.1.1 X.1.1.2.1 X.1.1.2.2.2.1 (X.1.1.2.2.2.2 _ h1) (X.1.1.2.2.2.2 _ h2) (X.1.1.2.2.2.2 _ h3) rfl (by show ls.size = _; rw [hl.1]) rfl hdg hf (by show 2 * 0 + _ + 12 ≤ _; omega) ?_
  exact kk H locs ls hP hS hl
theorem gx_putF (X : OK l R K x cc nL own) {ref C : String} {T : u_T} {N ci index : Nat} {a : Nat} (hin : ∀ w ∈ u_ws C T N, w ∈ TT) (ty0 : Nat → FieldType) (hty : ∀ k, k < N → parseFieldDescriptor (T k).2.2.1 = some (ty0 k)) (hnm : ∀ a, a < N → ∀ b, b < N → a ≠ b → (T a).2.1 ≠ (T b).2.1) (hD : va_D (cx_A x) ws) (q0 : Nat) {fs : List Value} (he : ws[q0]? = some (a, .inr (ci, fs))) (hc : vwCl[ci]? = some (C, T, N)) (p : Nat) (hk : p < N) (hlink : Cond.fieldLink own index ref (T p).2.1 (T p).2.2.1 ∈ TT) (href : (T p).1 = ref) (hfin : (T p).2.2.2 = true) (hni : (cx_t x).name = "<init>") (hdecl : (T p).1 = own) {ty : FieldType} {v : Value} (hd : parseFieldDescriptor (T p).2.2.1 = some ty) (hn : narrow ty v = v) (hfit : fits ty v = true) (hl9 : p < fs.length) {ws' : va_W} (hset : ws.set q0 (a, .inr (ci, fs.set p v)) = ws') (hdg : decode cc pc = .ok (.putfield index, 3)) (kk : GG l R K x ws' (pc + 3) lv st) : GG l R K x ws pc lv (v :: .ref a :: st) := by
  intro H locs ls hP hS hl
  subst hset
  exact va_putF X.1.1.1 X.1.1.2.1 X.1.1.2.2.2.2 hin ty0 hty hnm X.1.1.2.2.2.1 X.1.2 hP hD hS q0 he hc p hk (X.1.1.2.2.2.2 _ hlink) (fun _ h9 => href ▸ h9) hfin hni hdecl hd hn hfit hl9 hdg (fun H1 locs1 hP1 _ hS1 => kk H1 locs1 ls hP1 hS1 hl)
theorem gx_aast (X : OK l R K x cc nL own) (hD : va_D (cx_A x) ws) {a n v : Nat} {f : Nat → Option Nat} {i : Int} {vs : List Value} (q0 qk : Nat) (ha : ws[q0]? = some (a, zR K n f)) (hv : ws[qk]? = some (v, .inr (0, vs))) (hi : 0 ≤ i ∧ i < (n : Int) ∧ i ≤ 2147483647) {ws' : va_W} (hset : ws.set q0 (a, zR K n (va_up f i.toNat (some v))) = ws') (hdg : decode cc pc = .ok (.aastore, 1)) (kk : GG l R K x ws' (pc + 1) lv st) : GG l R K x ws pc lv (.ref v :: .int (iI i) :: .ref a :: st) := by
  intro H locs ls hP hS hl
  subst hset
  refine va_astq X.1.1.1 X.1.1.2.1 X.1.2 hP hD hS q0 2 qk 0 ha rfl hv rfl (iI_in hi.1 hi.2.1 hi.2.2) hdg (fun H1 locs1 hP1 _ hS1 => ?_)
  rw [iI_clamp ⟨by omega, hi.2.2⟩] at hP1
  exact kk H1 locs1 ls hP1 hS1 hl
theorem gx_mem {ws' : va_W} (h : ∀ q ∈ ws', q ∈ ws) (kk : GG l R K x ws' pc lv st) : GG l R K x ws pc lv st := fun H locs ls hP hS hl => kk H locs ls (jn_sub h hP) hS hl
end GN
