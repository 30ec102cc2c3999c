/-! OPERATIONS on one card keep the relation -/
theorem rgC_mono {N M : Int} (a : N ≤ M) : ∀ (k : Nat) (v : Int), rgC N k v → rgC M k v := by
  intro k v h
  match k, h with
  | 0, h => exact h
  | 1, h => exact h
  | 2, h => exact h
  | 3, h => exact h
  | 4, h => exact h
  | 5, h => exact ⟨h.1, Int.le_trans h.2 a⟩
  | 6, h => exact h
  | 7, h => exact h
  | k + 8, _ => exact trivial
theorem sgC_mono {N M : Int} (a : N ≤ M) : ∀ (k : Nat) (v : Int), sgC N k v → sgC M k v := by
  intro k v h
  match k, h with
  | 0, h => exact h
  | 1, h => exact h
  | 2, h => exact h
  | 3, h => exact ⟨h.1, Int.le_trans h.2 a⟩
  | 4, h => exact h
  | 5, h => exact h
  | 6, h => exact h
  | k + 7, _ => exact trivial
theorem InvC_mono {N M : Int} {X : Sta} (h : InvC N X) (a : N ≤ M) (b : M ≤ 1000) : InvC M X := ⟨⟨Int.le_trans h.1.1 a, b⟩, fun j => sgC_mono a j _ (h.2.1 j), fun k j => rgC_mono a k _ (h.2.2 k j)⟩
theorem InvTC_mono {N M : Int} {T : TS} (h : InvTC N T) (a : N ≤ M) (b : M ≤ 1000) : InvTC M T := ⟨h.1, fun i => ⟨InvC_mono (h.2 i).1 a b, (h.2 i).2⟩⟩
theorem rgM_mono {N M : Int} (a : N ≤ M) : ∀ (k : Nat) (v : Int), rgM N k v → rgM M k v := by
  intro k v h
  match k, h with
  | 0, h => exact h
  | 1, h => exact h
  | 2, h => exact h
  | 3, h => exact h
  | 4, h => exact h
  | 5, h => exact h
  | 6, h => exact ⟨h.1, Int.le_trans h.2 a⟩
  | 7, h => exact h
  | 8, h => exact h
  | 9, h => exact h
  | 10, h => exact h
  | 11, h => exact ⟨h.1, Int.le_trans h.2 a⟩
  | 12, h => exact h
  | 13, h => exact h
  | 14, h => exact h
  | 15, h => exact h
  | 16, h => exact h
  | 17, h => exact h
  | 18, h => exact h
  | 19, h => exact h
  | k + 20, _ => exact trivial
theorem InvW_mono {N M : Int} {S : Sta} (h : InvW N S) (a : N ≤ M) (b : M ≤ 1000) : InvW M S := ⟨⟨⟨h.1.1.1, Int.le_trans h.1.1.2.1 a, b⟩, h.1.2⟩, fun k j => rgM_mono a k _ (h.2 k j)⟩
theorem Rel.mono {N M : Int} {T : TS} {S : Sta} (h : Rel N T S) (a : N ≤ M) (b : M ≤ 1000) : Rel M T S := ⟨⟨InvTC_mono h.it a b, h.itt, InvW_mono h.iw a b, h.iwt⟩, h.2⟩
theorem Rel.relP {N : Int} {T : TS} {S : Sta} (h : Rel N T S) {c : Int} (c0 : 0 ≤ c) (c1 : c < S.1 1) : RelP (S.1 2) (T.2.2.2 c) S c := ⟨h.now c0 c1, h.past c0 c1, h.ch c0 c1⟩
theorem Rel_one {N M : Int} {T : TS} {S : Sta} {c : Int} {X' S' : Sta} (h : Rel N T S) (a : N ≤ M) (b : M ≤ 1000) (hX : InvC M X') (hX2 : InvCT X') (hS : InvW M S') (hST : InvT S') (hsc : S'.1 = S.1) (own : RelP (S.1 2) X' S' c) (pl : X'.1 6 = 0 ∨ PlanIs X' (T.1 1) (T.1 2) (T.1 3)) (oth : ∀ c', 0 ≤ c' → c' < 16 → c' ≠ c → Sm S S' c') : Rel M (tC T c X') S' := by
  have s1 := InvM_s1 h.iw
  have s2 := InvM_s2 h.iw
  refine ⟨⟨InvTC.tC (InvTC_mono h.it a b) hX, InvTCT.tC h.itt hX2, hS, hST⟩, ?_, fun c' c0 c1 => ?_⟩
  · rw [hsc]
    exact h.sc
  · have c1 : c' < T.1 0 := c1
    have cw : c' < S.1 1 := by rw [← h.sc.1]; exact c1
    by_cases e : c' = c
    · subst e
      unfold RelC ChN
      rw [tC_at, hsc]
      exact ⟨own.1, own.2.1, own.2.2, pl⟩
    · have r := RelP_same s2.1 (oth c' c0 (by omega) e) (h.relP c0 cw)
      unfold RelC ChN
      rw [tC_ne T X' e, hsc]
      exact ⟨r.1, r.2.1, r.2.2, h.plan c0 cw⟩
theorem InvT_ne {S S' : Sta} (h : InvT S) (h4 : S'.2 4 = S.2 4) (h5 : S'.2 5 = S.2 5) : InvT S' := ⟨fun j => by rw [h4]; exact h.1 j, fun j => by rw [h5]; exact h.2 j⟩
section OPS
variable {N : Int} {T : TS} {S : Sta}
theorem s_thread (h : Rel N T S) (hN : N + 1 ≤ 1000) (c t v : Int) : (T_thread T c t v).1 = (M_thread S c t v).1 ∧ Rel (N + 1) (T_thread T c t v).2 (M_thread S c t v).2 := by
  have m := h.mono (M := N + 1) (by omega) hN
  unfold T_thread M_thread
  rcases h.card c with ⟨a, b, -⟩ | ⟨a, b, c0, c1⟩
  · rw [if_pos a, if_neg (show ¬ M_noCard S c = 0 by omega)]
    exact ⟨rfl, m⟩
  · rw [if_neg (show ¬ T_isCard T c = 0 by omega), if_pos b]
    rcases in_within t 0 3 with ⟨a, b, -⟩ | ⟨a, b, t0, t1⟩
    · rw [if_pos (show T_isThread t = 0 from a), if_pos b]
      exact ⟨rfl, m⟩
    · rw [if_neg (show ¬ T_isThread t = 0 from fun q => by have q2 : T_within t 0 3 = 0 := q; omega), if_neg (show ¬ M_in t 0 3 = 0 by omega)]
      rcases in_within v 0 7 with ⟨a, b, -⟩ | ⟨a, b, v0, v1⟩
      · rw [if_pos (show T_isColour v = 0 from a), if_pos b]
        exact ⟨rfl, m⟩
      · rw [if_neg (show ¬ T_isColour v = 0 from fun q => by have q2 : T_within v 0 7 = 0 := q; omega), if_neg (show ¬ M_in v 0 7 = 0 by omega), h.sc.2.1]
        by_cases p : S.1 2 ≤ 0
        · rw [if_pos p, if_pos p]
          have r := h.relP c0 c1
          have s2 := InvM_s2 h.iw
          refine ⟨r.1.1 t t0 t1, ?_⟩
          refine Rel_one h (by omega) hN (InvC.mI (k := 6) (InvC.mA (k := 1) (InvC_mono (InvTC_c h.it c) (by omega) hN) (show 0 ≤ v ∧ v ≤ 7 from ⟨v0, v1⟩)) (show (0 : Int) ≤ 0 ∧ (0 : Int) ≤ 1 by decide)) (h.itt c) (InvW.mA (k := 0) (InvW_mono h.iw (by omega) hN) (show 0 ≤ v ∧ v ≤ 7 from ⟨v0, v1⟩)) (InvT_ne h.iwt rfl rfl) rfl ⟨⟨fun t' a b => ?_, r.1.2.1, r.1.2.2.1, r.1.2.2.2⟩, fun k k0 k1 => by omega, ?_⟩ (Or.inl rfl) (fun c' a b e => ⟨fun t' q1 q2 => ⟨?_, rfl⟩, fun k q1 q2 => ?_, fun r q => rfl, fun k r q1 q2 q3 => ?_, fun r i q1 q2 q3 => rfl⟩)
          · rw [mI_ar, mA_rd, mA_rd]
            by_cases z : t' = t
            · rw [if_pos ⟨rfl, z⟩, if_pos (by omega)]
            · rw [if_neg (by omega), if_neg (by omega)]
              exact r.1.1 t' a b
          · have e0 : (S.1 2).toNat = 0 := by omega
            have q := r.2.2
            rw [e0] at q ⊢
            exact q
          · rw [mA_rd, if_neg (by omega)]
          · rw [mA_rd, if_neg (by omega)]
          · rw [mA_rd, if_neg (by omega)]
        · rw [if_neg p, if_neg p]
          exact ⟨rfl, m⟩
theorem s_way (h : Rel N T S) (hN : N + 1 ≤ 1000) (c v : Int) : (T_way T c v).1 = (M_way S c v).1 ∧ Rel (N + 1) (T_way T c v).2 (M_way S c v).2 := by
  have m := h.mono (M := N + 1) (by omega) hN
  unfold T_way M_way
  rcases h.card c with ⟨a, b, -⟩ | ⟨a, b, c0, c1⟩
  · rw [if_pos a, if_neg (show ¬ M_noCard S c = 0 by omega)]
    exact ⟨rfl, m⟩
  · rw [if_neg (show ¬ T_isCard T c = 0 by omega), if_pos b]
    rcases in_within v 0 1 with ⟨a, b, -⟩ | ⟨a, b, v0, v1⟩
    · rw [if_pos a, if_pos b]
      exact ⟨rfl, m⟩
    · rw [if_neg (show ¬ T_within v 0 1 = 0 by omega), if_neg (show ¬ M_in v 0 1 = 0 by omega), h.sc.2.1]
      by_cases p : S.1 2 ≤ 0
      · rw [if_pos p, if_pos p]
        have r := h.relP c0 c1
        have s2 := InvM_s2 h.iw
        refine ⟨r.1.2.2.1.1, ?_⟩
        refine Rel_one h (by omega) hN (InvC.mI (k := 6) (InvC.mI (k := 0) (InvC_mono (InvTC_c h.it c) (by omega) hN) (show 0 ≤ v ∧ v ≤ 1 from ⟨v0, v1⟩)) (show (0 : Int) ≤ 0 ∧ (0 : Int) ≤ 1 by decide)) (h.itt c) (InvW.mA (k := 2) (InvW_mono h.iw (by omega) hN) (show 0 ≤ v ∧ v ≤ 1 from ⟨v0, v1⟩)) (InvT_ne h.iwt rfl rfl) rfl ⟨⟨r.1.1, r.1.2.1, ⟨?_, r.1.2.2.1.2⟩, r.1.2.2.2⟩, fun k k0 k1 => by omega, ?_⟩ (Or.inl rfl) (fun c' a b e => ⟨fun t' q1 q2 => ⟨rfl, rfl⟩, fun k q1 q2 => ?_, fun r q => rfl, fun k r q1 q2 q3 => ?_, fun r i q1 q2 q3 => rfl⟩)
        · rw [mA_rd, if_pos (by omega)]
          rfl
        · have e0 : (S.1 2).toNat = 0 := by omega
          have q := r.2.2
          rw [e0] at q ⊢
          exact q
        · rw [mA_rd, if_neg (by omega)]
        · rw [mA_rd, if_neg (by omega)]
      · rw [if_neg p, if_neg p]
        exact ⟨rfl, m⟩
theorem C_turnOver_at (X : Sta) (i : Int) (h0 : 0 ≤ i) (h1 : i ≤ 3) : (C_turnOver X).2 0 i = X.2 0 (exP i) := by
  unfold C_turnOver C_exchange
  rw [mI_ar, mI_ar]
  rcases i4 h0 h1 with rfl | rfl | rfl | rfl <;> rfl
theorem exP_exP (i : Int) (h0 : 0 ≤ i) (h1 : i ≤ 3) : exP (exP i) = i := by
  rcases i4 h0 h1 with rfl | rfl | rfl | rfl <;> decide
theorem Lk_flip {t fr : Int} {a0 : Int → Int} {w0 x0 d0 f0 : Int} {a a' : Int → Int} {w x d f : Int} (h1 : ∀ i, 0 ≤ i → i ≤ 3 → a' i = a (exP i)) (h : Lk t fr a0 w0 x0 d0 f0 a w x d f) : Lk t fr a0 w0 x0 d0 f0 a' (1 - w) x d (f + 1) := by
  obtain ⟨l1, l2, l3, l4, l5, l6⟩ := h
  refine ⟨by omega, ?_, l3, l4, fun i i0 i1 => ?_, ?_⟩
  · by_cases e : (f - f0) % 2 = 0
    · rw [if_pos e] at l2
      rw [if_neg (by omega)]
      omega
    · rw [if_neg e] at l2
      rw [if_pos (by omega)]
      omega
  · have r := exP_rg i
    rw [h1 i i0 i1, l5 _ r.1 r.2]
    by_cases e : (f - f0) % 2 = 0
    · rw [if_pos e, if_neg (by omega)]
    · rw [if_neg e, if_pos (by omega), exP_exP i i0 i1]
  · rw [h1 0 (by decide) (by decide), h1 1 (by decide) (by decide)]
    rcases l6 with l6 | l6
    · exact Or.inr l6
    · exact Or.inl l6
theorem Opp_flip {a a' : Int → Int} (h : ∀ i, 0 ≤ i → i ≤ 3 → a' i = a (exP i)) (o : Opp a) : Opp a' := by
  obtain ⟨o1, o2, o3, o4⟩ := o
  have e0 : a' 0 = a 1 := h 0 (by decide) (by decide)
  have e1 : a' 1 = a 0 := h 1 (by decide) (by decide)
  have e2 : a' 2 = a 3 := h 2 (by decide) (by decide)
  have e3 : a' 3 = a 2 := h 3 (by decide) (by decide)
  unfold Opp
  omega
theorem Ch_flip {S S' : Sta} {c : Int} (n : Nat) {a a' : Int → Int} {w x d f : Int} (m : ∀ (k : Nat) (j : Int), 7 ≤ k → k ≤ 15 → S'.2 k j = S.2 k j) (ha : ∀ i, 0 ≤ i → i ≤ 3 → a' i = a (exP i)) (h : Ch S c n a w x d f) : Ch S' c n a' (1 - w) x d (f + 1) := by
  cases n with
  | zero => exact ⟨h.1, h.2.1, Opp_flip ha h.2.2⟩
  | succ n =>
    unfold Ch
    rw [m 8 _ (by decide) (by decide), m 9 _ (by decide) (by decide), m 10 _ (by decide) (by decide), m 11 _ (by decide) (by decide), m 12 _ (by decide) (by decide), m 13 _ (by decide) (by decide)]
    have e7 : (fun i : Int => S'.2 7 (4 * (16 * (n : Int) + c) + i)) = (fun i : Int => S.2 7 (4 * (16 * (n : Int) + c) + i)) := funext fun i => m 7 _ (by decide) (by decide)
    rw [e7]
    exact ⟨Lk_flip ha h.1, Ch_congr _ _ _ _ _ _ _ (fun k r a b _ _ => m k _ (by omega) b) (fun r i _ _ _ _ => m 7 _ (by decide) (by decide)) (fun i _ _ => rfl) h.2⟩
theorem M_flip_rd (S : Sta) (c : Int) (hc : M_noCard S c = 0) : (M_flip S c).1 = 1 - S.2 2 c ∧ (M_flip S c).2.1 = S.1 ∧ (∀ (k : Nat) (j : Int), ¬ (k = 1 ∧ (4 * c ≤ j ∧ j ≤ 4 * c + 3)) → ¬ ((k = 2 ∨ k = 6) ∧ j = c) → (M_flip S c).2.2 k j = S.2 k j) ∧ (∀ i, 0 ≤ i → i ≤ 3 → (M_flip S c).2.2 1 (4 * c + i) = S.2 1 (4 * c + exP i)) ∧ (M_flip S c).2.2 2 c = 1 - S.2 2 c ∧ (M_flip S c).2.2 6 c = S.2 6 c + 1 := by
  unfold M_flip
  rw [if_pos hc]
  refine ⟨rfl, rfl, fun k j h1 h2 => ?_, fun i i0 i1 => ?_, ?_, ?_⟩
  · rw [mA_rd, if_neg (by omega), mA_rd, if_neg (by omega), mA_rd, if_neg (by omega), mA_rd, if_neg (by omega), mA_rd, if_neg (by omega), mA_rd, if_neg (by omega)]
  · rw [mA_rd, if_neg (by omega), mA_rd, if_neg (by omega)]
    rcases i4 i0 i1 with rfl | rfl | rfl | rfl
    · rw [mA_rd, if_neg (by omega), mA_rd, if_neg (by omega), mA_rd, if_neg (by omega), mA_rd, if_pos (by omega)]
      rfl
    · rw [mA_rd, if_neg (by omega), mA_rd, if_neg (by omega), mA_rd, if_pos (by omega)]
      rw [show 4 * c + exP 1 = 4 * c by rw [show exP 1 = 0 by decide]; omega]
    · rw [mA_rd, if_neg (by omega), mA_rd, if_pos (by omega), mA_rd, if_neg (by omega), mA_rd, if_neg (by omega)]
      rfl
    · rw [mA_rd, if_pos (by omega), mA_rd, if_neg (by omega), mA_rd, if_neg (by omega)]
      rfl
  · rw [mA_rd, if_neg (by omega), mA_rd, if_pos (by omega)]
  · rw [mA_rd, if_pos (by omega)]
theorem s_flip (h : Rel N T S) (hN : N + 1 ≤ 1000) (c : Int) : (T_flip T c).1 = (M_flip S c).1 ∧ Rel (N + 1) (T_flip T c).2 (M_flip S c).2 := by
  have m := h.mono (M := N + 1) (by omega) hN
  rcases h.card c with ⟨a, b, -⟩ | ⟨a, b, c0, c1⟩
  · unfold T_flip M_flip
    rw [if_pos a, if_neg (show ¬ M_noCard S c = 0 by omega)]
    exact ⟨rfl, m⟩
  · have r := h.relP c0 c1
    have s1 := InvM_s1 h.iw
    have hx := InvTC_c h.it c
    obtain ⟨f1, f2, f3, f4, f5, f6⟩ := M_flip_rd S c b
    unfold T_flip
    rw [if_neg (show ¬ T_isCard T c = 0 by omega), f1]
    refine ⟨?_, ?_⟩
    · show 1 - (T.2.2.2 c).1 0 = _
      rw [r.1.2.2.1.1]
    · have hfl : 0 ≤ (T.2.2.2 c).1 3 ∧ (T.2.2.2 c).1 3 ≤ N := hx.2.1 3
      have way := InvM_a2 h.iw c
      have fl : 0 ≤ S.2 6 c ∧ S.2 6 c ≤ N := h.iw.2 6 c
      refine Rel_one h (by omega) hN (InvC.mI (k := 3) (C_turnOver_inv (InvC_mono hx (by omega) hN)) (show 0 ≤ _ ∧ _ ≤ N + 1 from ?_)) (h.itt c) ⟨by rw [f2]; exact ⟨⟨h.iw.1.1.1, by have := h.iw.1.1.2; omega, hN⟩, h.iw.1.2⟩, fun k j => ?_⟩ (InvT_ne h.iwt (funext fun j => f3 4 j (by omega) (by omega)) (funext fun j => f3 5 j (by omega) (by omega))) f2 ⟨⟨fun t a b => ?_, fun i a b => ?_, ⟨?_, ?_, ?_, ?_⟩, fun q a b => ?_⟩, fun k k0 k1 => ?_, ?_⟩ (Or.inl rfl) (fun c' a b e => ⟨fun t q1 q2 => ⟨f3 0 _ (by omega) (by omega), f3 1 _ (by omega) (by omega)⟩, fun k q1 q2 => f3 k _ (by omega) (by omega), fun q q1 => f3 16 _ (by omega) (by omega), fun k q q1 q2 q3 => f3 k _ (by omega) (by omega), fun q i q1 q2 q3 => f3 7 _ (by omega) (by omega)⟩)
      · show 0 ≤ (T.2.2.2 c).1 3 + 1 ∧ (T.2.2.2 c).1 3 + 1 ≤ N + 1
        omega
      · by_cases e1 : k = 1 ∧ (4 * c ≤ j ∧ j ≤ 4 * c + 3)
        · obtain ⟨rfl, e2, e3⟩ := e1
          have q := f4 (j - 4 * c) (by omega) (by omega)
          rw [show 4 * c + (j - 4 * c) = j by omega] at q
          rw [q]
          exact InvM_a1 h.iw _
        · by_cases e2 : (k = 2 ∨ k = 6) ∧ j = c
          · obtain ⟨e3, rfl⟩ := e2
            rcases e3 with rfl | rfl
            · rw [f5]
              show 0 ≤ 1 - S.2 2 j ∧ 1 - S.2 2 j ≤ 1
              omega
            · rw [f6]
              show 0 ≤ S.2 6 j + 1 ∧ S.2 6 j + 1 ≤ N + 1
              omega
          · rw [f3 k j e1 e2]
            exact rgM_mono (by omega) k _ (h.iw.2 k j)
      · rw [f3 0 _ (by omega) (by omega)]
        exact r.1.1 t a b
      · rw [f4 i a b, mI_ar, C_turnOver_at _ i a b]
        exact r.1.2.1 _ (exP_rg i).1 (exP_rg i).2
      · rw [f5]
        show 1 - (T.2.2.2 c).1 0 = _
        rw [r.1.2.2.1.1]
      · rw [f3 3 _ (by omega) (by omega)]
        exact r.1.2.2.1.2.1
      · rw [f3 4 _ (by omega) (by omega)]
        exact r.1.2.2.1.2.2.1
      · rw [f6]
        show (T.2.2.2 c).1 3 + 1 = _
        rw [r.1.2.2.1.2.2.2]
      · rw [f3 16 _ (by omega) (by omega)]
        exact r.1.2.2.2 q a b
      · rw [f3 12 _ (by omega) (by omega), f3 13 _ (by omega) (by omega), f3 14 _ (by omega) (by omega), f3 15 _ (by omega) (by omega), f3 11 _ (by omega) (by omega)]
        exact r.2.1 k k0 k1
      · rw [f5, f6, f3 4 _ (by omega) (by omega), f3 5 _ (by omega) (by omega)]
        exact Ch_flip _ (fun k j a b => f3 k j (by omega) (by omega)) (fun i a b => f4 i a b) r.2.2
/-! what a plan rests on -/
theorem byF_congr {X X' : Sta} {f : Int} (h0 : X'.1 0 = X.1 0) (a0 : X'.2 0 = X.2 0) (a1 : X'.2 1 = X.2 1) (a6 : X'.2 6 = X.2 6) (B : Int → Int → Int → Int → Int → Int) (r t sh n u d : Int) : byF X' f B r t sh n u d = byF X f B r t sh n u d := by
  unfold byF C_fits C_threadAfter
  rw [h0, a0, a1, a6]
theorem BF_congr {X X' : Sta} {f : Int} (h0 : X'.1 0 = X.1 0) (h2 : X'.1 2 = X.1 2) (a0 : X'.2 0 = X.2 0) (a1 : X'.2 1 = X.2 1) (a6 : X'.2 6 = X.2 6) : ∀ k : Nat, BF X' f k = BF X f k := by
  intro k
  induction k with
  | zero =>
    funext r t sh n u
    show J_abs (X'.1 2 + u) = J_abs (X.1 2 + u)
    rw [h2]
  | succ k ih =>
    funext r t sh n u
    show M_mn (M_mn (M_mn 1000000 (byF X' f (BF X' f k) r t sh n u 0)) (byF X' f (BF X' f k) r t sh n u 1)) (byF X' f (BF X' f k) r t sh n u 2) = M_mn (M_mn (M_mn 1000000 (byF X f (BF X f k) r t sh n u 0)) (byF X f (BF X f k) r t sh n u 1)) (byF X f (BF X f k) r t sh n u 2)
    rw [ih, byF_congr h0 a0 a1 a6, byF_congr h0 a0 a1 a6, byF_congr h0 a0 a1 a6]
theorem Gr_congr {X X' : Sta} {f : Int} {g g' : Int → Int} {e : Int} (h0 : X'.1 0 = X.1 0) (h2 : X'.1 2 = X.1 2) (a0 : X'.2 0 = X.2 0) (a1 : X'.2 1 = X.2 1) (a6 : X'.2 6 = X.2 6) : ∀ (k : Nat) (r t sh n u : Int), (∀ j, r ≤ j → j < r + (k : Int) → g' j = g j) → Gr X f g e k r t sh n u → Gr X' f g' e k r t sh n u := by
  intro k
  induction k with
  | zero =>
    intro r t sh n u _ h
    show e = X'.1 2 + u
    rw [h2]
    exact h
  | succ k ih =>
    intro r t sh n u hg h
    obtain ⟨h1, h3⟩ := h
    have eg : g' r = g r := hg r (Int.le_refl r) (by omega)
    have hg2 : ∀ j, r + 1 ≤ j → j < r + 1 + (k : Int) → g' j = g j := fun j q1 q2 => hg j (by omega) (by omega)
    refine ⟨?_, ?_⟩
    · rw [eg, h1]
      unfold gtF
      rw [BF_congr h0 h2 a0 a1 a6, BF_congr h0 h2 a0 a1 a6, byF_congr h0 a0 a1 a6, byF_congr h0 a0 a1 a6]
    · rw [eg]
      by_cases q : g r = 2
      · rw [if_pos q] at h3 ⊢
        exact ih _ _ _ _ _ hg2 h3
      · rw [if_neg q] at h3 ⊢
        have et : C_threadAfter X' (P_roundFrom t (g r)) (g r) = C_threadAfter X (P_roundFrom t (g r)) (g r) := by unfold C_threadAfter; rw [a0]
        rw [et, h0]
        exact ih _ _ _ _ _ hg2 h3
theorem C_idleBehind_l2_congr {X X' : Sta} (a2 : X'.2 2 = X.2 2) (p : Int) : ∀ (n : Nat) (v : Int), C_idleBehind_l2 X' p n v = C_idleBehind_l2 X p n v := by
  intro n
  induction n with
  | zero => intro v; rfl
  | succ n ih =>
    intro v
    rw [C_idleBehind_l2_s, C_idleBehind_l2_s, a2, ih]
theorem PlanIs_congr {X X' : Sta} {p h f : Int} (h0 : X'.1 0 = X.1 0) (h2 : X'.1 2 = X.1 2) (h4 : X'.1 4 = X.1 4) (h5 : X'.1 5 = X.1 5) (a0 : X'.2 0 = X.2 0) (a1 : X'.2 1 = X.2 1) (a2 : X'.2 2 = X.2 2) (a3 : X'.2 3 = X.2 3) (a6 : X'.2 6 = X.2 6) (a7 : X'.2 7 = X.2 7) (q : PlanIs X p h f) : PlanIs X' p h f := by
  have es : C_showing X' p = C_showing X p := by unfold C_showing; rw [a0, a3]
  have ei : C_idleBehind X' p = C_idleBehind X p := C_idleBehind_l2_congr a2 p 61 0
  unfold PlanIs
  rw [es, ei, h4, h5, a7, BF_congr h0 h2 a0 a1 a6]
  rcases q with q | ⟨q1, q2, q3⟩
  · exact Or.inl q
  · exact Or.inr ⟨q1, q2, Gr_congr h0 h2 a0 a1 a6 _ _ _ _ _ _ (fun _ _ _ => rfl) q3⟩
theorem s_pack (h : Rel N T S) (hN : N + 1 ≤ 1000) (c p : Int) : (T_pack T c p).1 = (M_pack S c p).1 ∧ Rel (N + 1) (T_pack T c p).2 (M_pack S c p).2 := by
  have m := h.mono (M := N + 1) (by omega) hN
  unfold T_pack M_pack
  rcases h.card c with ⟨a, b, -⟩ | ⟨a, b, c0, c1⟩
  · rw [if_pos a, if_neg (show ¬ M_noCard S c = 0 by omega)]
    exact ⟨rfl, m⟩
  · rw [if_neg (show ¬ T_isCard T c = 0 by omega), if_pos b]
    rcases in_within p 0 3 with ⟨a, b, -⟩ | ⟨a, b, v0, v1⟩
    · rw [if_pos (show T_isPack p = 0 from a), if_pos b]
      exact ⟨rfl, m⟩
    · rw [if_neg (show ¬ T_isPack p = 0 from fun q => by have q2 : T_within p 0 3 = 0 := q; omega), if_neg (show ¬ M_in p 0 3 = 0 by omega)]
      have r := h.relP c0 c1
      refine ⟨r.1.2.2.1.2.1, ?_⟩
      refine Rel_one h (by omega) hN (InvC.mI (k := 1) (InvC_mono (InvTC_c h.it c) (by omega) hN) (show 0 ≤ p ∧ p ≤ 3 from ⟨v0, v1⟩)) (h.itt c) (InvW.mA (k := 3) (InvW_mono h.iw (by omega) hN) (show 0 ≤ p ∧ p ≤ 3 from ⟨v0, v1⟩)) (InvT_ne h.iwt rfl rfl) rfl ⟨⟨r.1.1, r.1.2.1, ⟨r.1.2.2.1.1, ?_, r.1.2.2.1.2.2⟩, r.1.2.2.2⟩, r.2.1, Ch_congr (S := S) _ _ _ _ _ _ _ (fun k q a b _ _ => ?_) (fun _ _ _ _ _ _ => rfl) (fun _ _ _ => rfl) r.2.2⟩ ?_ (fun c' a b e => ⟨fun t' q1 q2 => ⟨rfl, rfl⟩, fun k q1 q2 => ?_, fun r q => rfl, fun k r q1 q2 q3 => ?_, fun r i q1 q2 q3 => rfl⟩)
      · rw [mA_rd, if_pos (by omega)]
        rfl
      · rw [mA_rd, if_neg (by omega)]
      · rcases h.plan c0 c1 with q | q
        · exact Or.inl q
        · exact Or.inr (PlanIs_congr (X := T.2.2.2 c) rfl rfl rfl rfl rfl rfl rfl rfl rfl rfl q)
      · rw [mA_rd, if_neg (by omega)]
      · rw [mA_rd, if_neg (by omega)]
theorem s_paint (h : Rel N T S) (hN : N + 1 ≤ 1000) (r0 c v : Int) : (T_paint T r0 c v).1 = (M_paint S r0 c v).1 ∧ Rel (N + 1) (T_paint T r0 c v).2 (M_paint S r0 c v).2 := by
  have m := h.mono (M := N + 1) (by omega) hN
  have s1 := InvM_s1 h.iw
  unfold T_paint M_paint
  rcases h.card c with ⟨a, b, -⟩ | ⟨a, b, c0, c1⟩
  · rw [if_pos a, if_neg (show ¬ M_noCard S c = 0 by omega)]
    exact ⟨rfl, m⟩
  · rw [if_neg (show ¬ T_isCard T c = 0 by omega), if_pos b]
    rcases in_within r0 0 29 with ⟨a, b, -⟩ | ⟨a, b, v0, v1⟩
    · rw [if_pos a, if_pos b]
      exact ⟨rfl, m⟩
    · rw [if_neg (show ¬ T_within r0 0 29 = 0 by omega), if_neg (show ¬ M_in r0 0 29 = 0 by omega)]
      have r := h.relP c0 c1
      have go : (-99 ≤ v ∧ v ≤ 7) → ((T.2.2.2 c).2 6 r0, tC T c (mI (mA (T.2.2.2 c) 6 r0 v) 6 0)).1 = (S.2 16 (16 * r0 + c), mA S 16 (16 * r0 + c) v).1 ∧ Rel (N + 1) ((T.2.2.2 c).2 6 r0, tC T c (mI (mA (T.2.2.2 c) 6 r0 v) 6 0)).2 (S.2 16 (16 * r0 + c), mA S 16 (16 * r0 + c) v).2 := by
        intro hv
        refine ⟨r.1.2.2.2 r0 v0 (by omega), ?_⟩
        refine Rel_one h (by omega) hN (InvC.mI (k := 6) (InvC.mA (k := 6) (InvC_mono (InvTC_c h.it c) (by omega) hN) hv) (show (0 : Int) ≤ 0 ∧ (0 : Int) ≤ 1 by decide)) (h.itt c) (InvW.mA (k := 16) (InvW_mono h.iw (by omega) hN) hv) (InvT_ne h.iwt rfl rfl) rfl ⟨⟨r.1.1, r.1.2.1, r.1.2.2.1, fun q a b => ?_⟩, r.2.1, Ch_congr (S := S) _ _ _ _ _ _ _ (fun k q a b _ _ => ?_) (fun _ _ _ _ _ _ => rfl) (fun _ _ _ => rfl) r.2.2⟩ (Or.inl rfl) (fun c' a b e => ⟨fun t' q1 q2 => ⟨rfl, rfl⟩, fun k q1 q2 => ?_, fun r q => ?_, fun k r q1 q2 q3 => ?_, fun r i q1 q2 q3 => rfl⟩)
        · rw [mI_ar, mA_rd, mA_rd]
          by_cases z : q = r0
          · rw [if_pos ⟨rfl, z⟩, if_pos (by omega)]
          · rw [if_neg (by omega), if_neg (by omega)]
            exact r.1.2.2.2 q a b
        · rw [mA_rd, if_neg (by omega)]
        · rw [mA_rd, if_neg (by omega)]
        · rw [mA_rd, if_neg (by omega)]
        · rw [mA_rd, if_neg (by omega)]
      by_cases e : v = -99
      · rw [if_pos e, if_pos e]
        exact go (by omega)
      · rw [if_neg e, if_neg e]
        rcases in_within v 0 7 with ⟨a, b, -⟩ | ⟨a, b, w0, w1⟩
        · rw [if_pos (show T_isColour v = 0 from a), if_pos b]
          exact ⟨rfl, m⟩
        · rw [if_neg (show ¬ T_isColour v = 0 from fun q => by have q2 : T_within v 0 7 = 0 := q; omega), if_neg (show ¬ M_in v 0 7 = 0 by omega)]
          exact go (by omega)
end OPS
