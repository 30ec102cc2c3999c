/-- what a call takes along, by places -/
theorem jn_pos {A0 : Nat → Prop} {ws wc wc' ws' : va_W} (pos : Nat → Nat) (hD : va_D A0 ws) (hp : ∀ (k : Nat) (q : Nat × va_E), wc[k]? = some q → ws[pos k]? = some q) (inj : ∀ k1 k2 : Nat, k1 < wc.length → k2 < wc.length → pos k1 = pos k2 → k1 = k2) (h' : ∀ (m : Nat) (q : Nat × va_E), ws'[m]? = some q → q ∈ wc' ∨ (ws[m]? = some q ∧ ∀ k, k < wc.length → m ≠ pos k)) : Jn ws wc wc' ws' := by
  refine ⟨fun q h => ?_, fun q h => ?_, fun A hA => ?_⟩
  · obtain ⟨k, hk⟩ := List.getElem?_of_mem h
    exact List.mem_of_getElem? (hp k q hk)
  · obtain ⟨m, hm⟩ := List.getElem?_of_mem h
    rcases h' m q hm with h1 | ⟨h1, h2⟩
    · exact Or.inl h1
    · right
      refine ⟨List.mem_of_getElem? h1, fun h3 => ?_⟩
      obtain ⟨q2, h4, h5⟩ := List.mem_map.mp h3
      obtain ⟨k, hk⟩ := List.getElem?_of_mem h4
      exact h2 k (List.getElem?_eq_some_iff.mp hk).1 (hD.1 m (pos k) q q2 h1 (hp k q2 hk) h5.symm)
  · refine ⟨fun i j p q hi hj e => ?_, fun _ _ _ => trivial⟩
    exact inj i j (List.getElem?_eq_some_iff.mp hi).1 (List.getElem?_eq_some_iff.mp hj).1 (hA.1 (pos i) (pos j) p q (hp i p hi) (hp j q hj) e)
theorem wT_len (K : KK) (u r : Nat → Nat) (ca : Nat → Nat → Nat) (T : TS) : (wT K u r ca T).length = 150 := by
  unfold wT
  rw [List.length_append, List.length_append]
  show 3 + (3 + (wCs K ca T.2.2.2).length) = 150
  unfold wCs
  rw [fl_len _ (fun _ => rfl) 16]
/-- a place of the world is one of the first six, or a card's -/
theorem wT_cases {m : Nat} (h : m < 150) : m < 6 ∨ ∃ (j : Int) (k : Nat), (0 ≤ j ∧ j < 16) ∧ k < 9 ∧ m = 6 + (9 * j.toNat + k) := by
  by_cases e : m < 6
  · exact Or.inl e
  · refine Or.inr ⟨(((m - 6) / 9 : Nat) : Int), (m - 6) % 9, by omega, by omega, by omega⟩
theorem wT_six (K : KK) (u r : Nat → Nat) (ca : Nat → Nat → Nat) (T T' : TS) (h1 : T'.1 = T.1) (h2 : T'.2.1 = T.2.1) (h3 : T'.2.2.1 = T.2.2.1) {m : Nat} (hm : m < 6) : (wT K u r ca T')[m]? = (wT K u r ca T)[m]? := by
  have h : m = 0 ∨ m = 1 ∨ m = 2 ∨ m = 3 ∨ m = 4 ∨ m = 5 := by omega
  unfold wT
  rw [h1, h2, h3]
  rcases h with rfl | rfl | rfl | rfl | rfl | rfl <;> rfl
/-- a call that takes card i along -/
theorem jn_card {A0 : Nat → Prop} (K : KK) (u r : Nat → Nat) (ca : Nat → Nat → Nat) (T : TS) {i : Int} (hi : 0 ≤ i ∧ i < 16) (S' : Sta) (hD : va_D A0 (wT K u r ca T)) : Jn (wT K u r ca T) (wC K (ca i.toNat) (T.2.2.2 i)) (wC K (ca i.toNat) S') (wT K u r ca (tC T i S')) := by
  refine jn_pos (fun k => 6 + (9 * i.toNat + k)) hD (fun k q hk => ?_) (fun k1 k2 _ _ e => by omega) (fun m q hm => ?_)
  · have hl := (List.getElem?_eq_some_iff.mp hk).1
    rw [wC_len] at hl
    rw [wT_card K u r ca T hi hl]
    exact hk
  · have hl := (List.getElem?_eq_some_iff.mp hm).1
    rw [wT_len] at hl
    rcases wT_cases hl with h6 | ⟨j, k, hj, hk, rfl⟩
    · right
      refine ⟨by rw [← hm]; exact (wT_six K u r ca T (tC T i S') rfl rfl rfl h6).symm, fun k _ e => by omega⟩
    · rw [wT_card K u r ca (tC T i S') hj hk] at hm
      by_cases e : j = i
      · subst e
        left
        rw [show (tC T j S').2.2.2 j = S' from iu_same _ _ _] at hm
        exact List.mem_of_getElem? hm
      · right
        rw [show (tC T i S').2.2.2 j = T.2.2.2 j from iu_ne _ _ e] at hm
        refine ⟨by rw [wT_card K u r ca T hj hk]; exact hm, fun k2 hk2 e2 => ?_⟩
        rw [wC_len] at hk2
        omega
/-- a call that takes the planner and card i along -/
theorem jn_plan {A0 : Nat → Prop} (K : KK) (u r : Nat → Nat) (ca : Nat → Nat → Nat) (T : TS) {i : Int} (hi : 0 ≤ i ∧ i < 16) (S' : PS) (hD : va_D A0 (wT K u r ca T)) : Jn (wT K u r ca T) (wPC K r (ca i.toNat) (T.2.2.1, T.2.2.2 i)) (wPC K r (ca i.toNat) S') (wT K u r ca (tC (tP T S'.1) i S'.2)) := by
  refine jn_pos (fun k => if k < 3 then 3 + k else 6 + (9 * i.toNat + (k - 3))) hD (fun k q hk => ?_) (fun k1 k2 _ _ e => by split at e <;> split at e <;> omega) (fun m q hm => ?_)
  · have hl := (List.getElem?_eq_some_iff.mp hk).1
    have hl2 : k < 12 := hl
    by_cases e : k < 3
    · rw [if_pos e]
      rw [← hk]
      have h : k = 0 ∨ k = 1 ∨ k = 2 := by omega
      rcases h with rfl | rfl | rfl <;> rfl
    · rw [if_neg e, wT_card K u r ca T hi (by omega), ← hk]
      show _ = (wP K r T.2.2.1 ++ wC K (ca i.toNat) (T.2.2.2 i))[k]?
      rw [List.getElem?_append_right (by show 3 ≤ k; omega)]
      rfl
  · have hl := (List.getElem?_eq_some_iff.mp hm).1
    rw [wT_len] at hl
    rcases wT_cases hl with h6 | ⟨j, k, hj, hk, rfl⟩
    · by_cases h3 : m < 3
      · right
        refine ⟨?_, fun k _ e => by split at e <;> omega⟩
        rw [← hm]
        have h : m = 0 ∨ m = 1 ∨ m = 2 := by omega
        rcases h with rfl | rfl | rfl <;> rfl
      · left
        have h : m = 3 ∨ m = 4 ∨ m = 5 := by omega
        refine List.mem_append_left _ (List.mem_of_getElem? (i := m - 3) ?_)
        rw [← hm]
        rcases h with rfl | rfl | rfl <;> rfl
    · rw [wT_card K u r ca _ hj hk] at hm
      by_cases e : j = i
      · subst e
        left
        rw [show (tC (tP T S'.1) j S'.2).2.2.2 j = S'.2 from iu_same _ _ _] at hm
        exact List.mem_append_right _ (List.mem_of_getElem? hm)
      · right
        rw [show (tC (tP T S'.1) i S'.2).2.2.2 j = T.2.2.2 j from iu_ne _ _ e] at hm
        refine ⟨by rw [wT_card K u r ca T hj hk]; exact hm, fun k2 hk2 e2 => ?_⟩
        have hk3 : k2 < 12 := hk2
        split at e2 <;> omega
