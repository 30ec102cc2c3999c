/-- a constructor's contract: mc cells of ms slots are made; what stands then is named by α -/
def rmN (k : Nat × Nat) (mc ms : Nat) : Room := { frames := k.1, cells := mc, slots := ms, locals := k.2 }
def CtN {α : Type} (l : Launch) (y : MethodName) (b : ByteArray) (mL : Nat) (k : Nat × Nat) (mc ms : Nat) (K : KK) (av : List Value) (ws : va_W) (Pr : State → Prop) (W' : α → va_W) (Po : α → Prop) : Prop :=
  ∀ sz, Met l y (.code y b mL none :: TT) (rmN k mc ms) (va_Pc av (fun U => pw K ws sz U ∧ Pr U)) (va_Qv (S := α) Po (fun u t => va_P K.1 vwCl (W' u) t.heap ∧ va_D (va_A ws sz) (W' u)) (va_A ws sz)) mc ms (va_A ws sz)
def ReN {α : Type} (l : Launch) (R : Room) (K : KK) (x : Cx) (cc : ByteArray) (W' : α → va_W) (Po : α → Prop) : Prop := ∀ (u : α) (k z : Nat), Po u → k ≤ R.cells → z ≤ R.slots → va_D (cx_A x) (W' u) → ReV l R K (cxw x k z) cc (W' u)
theorem ctN_of {α : Type} {l : Launch} {y : MethodName} {b : ByteArray} {mL : Nat} {k : Nat × Nat} {mc ms : Nat} {K : KK} {av : List Value} {ws : va_W} {Pr : State → Prop} {W' : α → va_W} {Po : α → Prop} (hy : plainName y.cls = true) (hlen : (lg_sl av).length ≤ mL) (hyn : y.name = "<init>")
    (body : ∀ x : Cx, OK l (rmN k mc ms) K (cxw x 0 0) b mL y.cls → va_D (cx_A x) ws → (cx_t x).name = "<init>" → Pr (cx_s x) → ReN l (rmN k mc ms) K x b W' Po → GG l (rmN k mc ms) K (cxw x 0 0) ws 0 (lv_args 0 av) []) : CtN l y b mL k mc ms K av ws Pr W' Po := by
  intro sz
  refine Met.ofW (cc := b) (maxL := mL) (ret := none) hy rfl ?_
  intro p e s m args below meth c s₁ B hml hv
  obtain ⟨rfl, ⟨hsz, hP, hK, hD0⟩, hPr⟩ := hv
  have hts0 := atoms_spec (ws := .code y b mL (none) :: TT) B.pre
  have hts : ∀ w ∈ TT, w.before av.toArray s = true := fun w hw => hts0 w (List.mem_cons_of_mem _ hw)
  have hown : s.vm.findClass y.cls = some m.cls := findClass_of_methodNamed B.named
  have hr := B.returns
  have hni : meth.name = "<init>" := (name_of_methodNamed B.named B.method).1.trans hyn
  subst hsz
  rw [lg_entry_eq]
  refine body (p, e, s, m, av.toArray, below, meth, c, MQ below _ av.toArray s mc ms (va_A ws s.heap.size), va_A ws s.heap.size, 0, 0) ⟨⟨⟨B.exec, B.bytes, hml, hown, hts⟩, hK⟩, fun q h => Or.inr h, Nat.zero_le _, Nat.zero_le _, rfl⟩ hD0.self hni hPr ?_ s.heap [] _ hP va_S.rf (by rw [show (cx_c (cxw (p, e, s, m, av.toArray, below, meth, c, _, _, _, _) 0 0)).maxLocals = mL from hml]; exact lv_entry av hlen)
  intro u k9 z9 hPo hk9 hz9 hD9 H locs ls pc hP9 hS9 hdg
  refine W.widen (k := mc) (n := ms) hk9 hz9 ?_
  exact W.vret B.exec B.bytes hr (fun t ht hW => ⟨⟨u, rfl, hPo, by show va_P _ _ _ t.heap; rw [ht]; exact hP9, hD9⟩, hS9.F ht⟩) hS9.2.2 hdg
/-- what came back stands beside the rest -/
theorem join_r {A : Nat → Prop} {D : va_G} {cl : List vw_C} {wr wc wc' : va_W} {H H1 : Heap} (hP : va_P D cl (wr ++ wc) H) (hD : va_D A (wr ++ wc)) (hk : ∀ q : Nat, q < H.size → ¬ va_A wc H.size q → H1[q]? = H[q]?) (hf : ∀ q, va_A wc H.size q → A q) (hP1 : va_P D cl wc' H1) (hD1 : va_D (va_A wc H.size) wc') : va_P D cl (wr ++ wc') H1 ∧ va_D A (wr ++ wc') := by
  refine ⟨jn_P (jn_r hD) hP hP1 hk, fun i j p q hi hj e => ?_, fun m q hm => ?_⟩
  · have mix : ∀ (i j : Nat) (p q : Nat × va_E), wr[i]? = some p → wc'[j]? = some q → p.1 = q.1 → False := by
      intro i j p q hi hj e
      have il := (List.getElem?_eq_some_iff.mp hi).1
      have hi2 : (wr ++ wc)[i]? = some p := by rw [List.getElem?_append_left il]; exact hi
      rcases hD1.2 j q hj with ⟨m, e9, hm⟩ | h9
      · have := hD.1 i (wr.length + m) p (q.1, e9) hi2 (by rw [List.getElem?_append_right (by omega), Nat.add_sub_cancel_left]; exact hm) e
        omega
      · have := (hP i p hi2).lt
        omega
    by_cases h1 : i < wr.length
    · rw [List.getElem?_append_left h1] at hi
      by_cases h2 : j < wr.length
      · rw [List.getElem?_append_left h2] at hj
        exact hD.1 i j p q (by rw [List.getElem?_append_left h1]; exact hi) (by rw [List.getElem?_append_left h2]; exact hj) e
      · rw [List.getElem?_append_right (by omega)] at hj
        exact absurd (mix i _ p q hi hj e) id
    · rw [List.getElem?_append_right (by omega)] at hi
      by_cases h2 : j < wr.length
      · rw [List.getElem?_append_left h2] at hj
        exact absurd (mix j _ q p hj hi e.symm) id
      · rw [List.getElem?_append_right (by omega)] at hj
        have := hD1.1 _ _ p q hi hj e
        omega
  · by_cases h1 : m < wr.length
    · rw [List.getElem?_append_left h1] at hm
      exact hD.2 m q (by rw [List.getElem?_append_left h1]; exact hm)
    · rw [List.getElem?_append_right (by omega)] at hm
      exact hf _ (hD1.2 _ q hm)
/-- the same cells in another order -/
theorem va_D_pw {A : Nat → Prop} {ws : va_W} : va_D A ws ↔ (ws.Pairwise (fun p q => p.1 ≠ q.1) ∧ ∀ q ∈ ws, A q.1) := by
  constructor
  · intro h
    refine ⟨(List.pairwise_iff_getElem).mpr (fun i j hi hj hij e => ?_), fun q hq => ?_⟩
    · have := h.1 i j ws[i] ws[j] (List.getElem?_eq_getElem hi) (List.getElem?_eq_getElem hj) e
      omega
    · obtain ⟨i, hi⟩ := List.getElem?_of_mem hq
      exact h.2 i q hi
  · intro h
    have hp := (List.pairwise_iff_getElem).mp h.1
    refine ⟨fun i j p q hi hj e => ?_, fun k q hk => h.2 q (List.mem_of_getElem? hk)⟩
    obtain ⟨hil, ei⟩ := List.getElem?_eq_some_iff.mp hi
    obtain ⟨hjl, ej⟩ := List.getElem?_eq_some_iff.mp hj
    subst ei; subst ej
    rcases Nat.lt_trichotomy i j with h1 | h1 | h1
    · exact absurd e (hp i j hil hjl h1)
    · exact h1
    · exact absurd e.symm (hp j i hjl hil h1)
theorem va_D_perm {A : Nat → Prop} {ws ws' : va_W} (h : va_D A ws) (p : ws.Perm ws') : va_D A ws' := by
  rw [va_D_pw] at h ⊢
  exact ⟨h.1.perm p (fun {_ _} q => Ne.symm q), fun q hq => h.2 q ((p.mem_iff).mpr hq)⟩
theorem perm4 {α : Type} (A C P W : List α) : (((A ++ C) ++ P) ++ W).Perm ((A ++ W) ++ (P ++ C)) := by
  rw [List.append_assoc, List.append_assoc, List.append_assoc]
  refine List.Perm.append_left A ?_
  refine (List.perm_append_comm (l₁ := C) (l₂ := P ++ W)).trans ?_
  rw [← List.append_assoc W P C]
  exact List.Perm.append_right C List.perm_append_comm
theorem pwN_blind {K : KK} {ws : va_W} {sz : Nat} {av : List Value} {Pr : State → Prop} (hb : ∀ (U : State) (g : JFrame) (mk : MethodId) (a : Array Value), Pr U → Pr (U.calling g mk a)) : FrameBlind (va_Pc av (fun U => pw K ws sz U ∧ Pr U)) := fun a U g mk q => by
  obtain ⟨q0, ⟨q1, qP, qK, qD⟩, qR⟩ := q
  exact ⟨q0, ⟨q1, qP, va_K.moved (u := U) (U := U.calling g mk a) (Vm.Alike.refl U.vm) qK, qD⟩, hb U g mk a qR⟩
