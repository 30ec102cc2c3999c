/-! the class's steps, cell by cell; a pick keeps the relation, card by card -/
theorem C_twistOf_eq (X : Sta) (t : Int) (hw : 0 ≤ X.1 0 ∧ X.1 0 ≤ 1) (ht : 0 ≤ t ∧ t ≤ 2) : C_twistOf X t = twP (X.1 0) t := by
  have s := C_sense_sp X
  unfold C_twistOf twP
  split
  · rfl
  · split <;> split <;> omega
theorem C_move_at (X : Sta) (t i : Int) (ht : 0 ≤ t ∧ t ≤ 2) (h0 : 0 ≤ i) (h1 : i ≤ 3) : (C_move X t).2 0 i = X.2 0 (rotP t i) := by
  unfold C_move
  have t3 : t = 0 ∨ t = 1 ∨ t = 2 := by omega
  rcases t3 with rfl | rfl | rfl
  · rw [if_pos rfl, mA_rd]
    rcases i4 h0 h1 with rfl | rfl | rfl | rfl <;> rfl
  · rw [if_neg (by decide), if_pos rfl, mA_rd]
    rcases i4 h0 h1 with rfl | rfl | rfl | rfl <;> rfl
  · rw [if_neg (by decide), if_neg (by decide)]
    rfl
theorem C_move_tw (X : Sta) (t : Int) (hw : 0 ≤ X.1 0 ∧ X.1 0 ≤ 1) (ht : 0 ≤ t ∧ t ≤ 2) : (C_move X t).1 2 = X.1 2 + twP (X.1 0) t ∧ (C_move X t).1 6 = 0 := by
  have e : C_twistOf (mI X 6 0) t = twP (X.1 0) t := C_twistOf_eq (mI X 6 0) t hw ht
  unfold C_move
  rw [e]
  split
  · exact ⟨rfl, rfl⟩
  · split
    · exact ⟨rfl, rfl⟩
    · exact ⟨rfl, rfl⟩
section TURNIN
variable (X : Sta) (p t : Int)
theorem C_turnIn_at (ht : 0 ≤ t ∧ t ≤ 2) (i : Int) (h0 : 0 ≤ i) (h1 : i ≤ 3) : (C_turnIn X p t).2 0 i = X.2 0 (rotP t i) := by
  unfold C_turnIn C_turnIn_m58
  rw [mA_rd, if_neg (by omega), C_move_at _ t i ht h0 h1, mA_rd, if_neg (by omega), mA_rd, if_neg (by omega), mA_rd, if_neg (by omega)]
theorem C_turnIn_sc (j : Nat) (hj : j ≠ 2) (hj6 : j ≠ 6) : (C_turnIn X p t).1 j = X.1 j := by
  unfold C_turnIn C_turnIn_m58
  rw [mA_sc, C_move_sc _ _ j (by simp [hj, hj6])]
  rfl
theorem C_turnIn_tw (hw : 0 ≤ X.1 0 ∧ X.1 0 ≤ 1) (ht : 0 ≤ t ∧ t ≤ 2) : (C_turnIn X p t).1 2 = X.1 2 + twP (X.1 0) t ∧ (C_turnIn X p t).1 6 = 0 := C_move_tw (mA (mA (mA X 5 p (X.1 3)) 2 p t) 4 p (C_slantOf (mA (mA X 5 p (X.1 3)) 2 p t) p t)) t hw ht
theorem C_turnIn_ne (k : Nat) (j : Int) (h0 : k ≠ 0) (h : k = 2 ∨ k = 3 ∨ k = 4 ∨ k = 5 → j ≠ p) : (C_turnIn X p t).2 k j = X.2 k j := by
  unfold C_turnIn C_turnIn_m58
  rw [mA_rd, if_neg (by omega), C_move_ar _ _ k h0, mA_rd, if_neg (by omega), mA_rd, if_neg (by omega), mA_rd, if_neg (by omega)]
theorem C_turnIn_new (ht : 0 ≤ t ∧ t ≤ 2) : (C_turnIn X p t).2 2 p = t ∧ (C_turnIn X p t).2 5 p = X.1 3 ∧ (C_turnIn X p t).2 4 p = (if t = 2 then (if p ≤ 0 then 0 else X.2 4 (p - 1)) else if t = X.1 0 then 0 else 1) ∧ (C_turnIn X p t).2 3 p = (if t = 2 then (if p ≤ 0 then X.2 0 0 else X.2 3 (p - 1)) else X.2 0 (rotP t t)) := by
  unfold C_turnIn C_turnIn_m58
  refine ⟨?_, ?_, ?_, ?_⟩
  · rw [mA_rd, if_neg (by omega), C_move_ar _ _ 2 (by decide), mA_rd, if_neg (by omega), mA_rd, if_pos (by omega)]
  · rw [mA_rd, if_neg (by omega), C_move_ar _ _ 5 (by decide), mA_rd, if_neg (by omega), mA_rd, if_neg (by omega), mA_rd, if_pos (by omega)]
  · rw [mA_rd, if_neg (by omega), C_move_ar _ _ 4 (by decide), mA_rd, if_pos (by omega)]
    have e4 : (mA (mA X 5 p (X.1 3)) 2 p t).2 4 (p - 1) = X.2 4 (p - 1) := by rw [mA_rd, if_neg (by omega), mA_rd, if_neg (by omega)]
    unfold C_slantOf
    rw [e4]
    rfl
  · rw [mA_rd, if_pos (by omega)]
    by_cases e : t = 2
    · rw [if_pos e, if_pos e]
      have e3 : ∀ v : Int, (mA (mA (mA X 5 p (X.1 3)) 2 p t) 4 p v).2 3 (p - 1) = X.2 3 (p - 1) := fun v => by rw [mA_rd, if_neg (by omega), mA_rd, if_neg (by omega), mA_rd, if_neg (by omega)]
      have e0 : ∀ v j : Int, (mA (mA (mA X 5 p (X.1 3)) 2 p t) 4 p v).2 0 j = X.2 0 j := fun v j => by rw [mA_rd, if_neg (by omega), mA_rd, if_neg (by omega), mA_rd, if_neg (by omega)]
      unfold C_showing
      rw [C_move_at _ t 0 ht (by decide) (by decide), C_move_ar _ _ 3 (by decide), e3, e0, e]
      rfl
    · rw [if_neg e, if_neg e, C_move_at _ t t ht (by omega) (by omega), mA_rd, if_neg (by omega), mA_rd, if_neg (by omega), mA_rd, if_neg (by omega)]
end TURNIN
def RelP (p : Int) (X S : Sta) (c : Int) : Prop := RCn X S c ∧ RCp X S c p ∧ Ch S c p.toNat (fun i => S.2 1 (4 * c + i)) (S.2 2 c) (S.2 4 c) (S.2 5 c) (S.2 6 c)
/-- card c's cells are the same in both -/
def Sm (S S' : Sta) (c : Int) : Prop := (∀ t, 0 ≤ t → t ≤ 3 → S'.2 0 (4 * c + t) = S.2 0 (4 * c + t) ∧ S'.2 1 (4 * c + t) = S.2 1 (4 * c + t)) ∧ (∀ k : Nat, 2 ≤ k → k ≤ 6 → S'.2 k c = S.2 k c) ∧ (∀ r, 0 ≤ r → S'.2 16 (16 * r + c) = S.2 16 (16 * r + c)) ∧ (∀ (k : Nat) (r : Int), 8 ≤ k → k ≤ 15 → 0 ≤ r → S'.2 k (16 * r + c) = S.2 k (16 * r + c)) ∧ (∀ r i, 0 ≤ r → 0 ≤ i → i ≤ 3 → S'.2 7 (4 * (16 * r + c) + i) = S.2 7 (4 * (16 * r + c) + i))
theorem Sm.rf (S : Sta) (c : Int) : Sm S S c := ⟨fun _ _ _ => ⟨rfl, rfl⟩, fun _ _ _ => rfl, fun _ _ => rfl, fun _ _ _ _ _ => rfl, fun _ _ _ _ _ => rfl⟩
theorem Sm.trans {S S' S'' : Sta} {c : Int} (h : Sm S S' c) (g : Sm S' S'' c) : Sm S S'' c := ⟨fun t a b => ⟨(g.1 t a b).1.trans (h.1 t a b).1, (g.1 t a b).2.trans (h.1 t a b).2⟩, fun k a b => (g.2.1 k a b).trans (h.2.1 k a b), fun r a => (g.2.2.1 r a).trans (h.2.2.1 r a), fun k r a b d => (g.2.2.2.1 k r a b d).trans (h.2.2.2.1 k r a b d), fun r i a b d => (g.2.2.2.2 r i a b d).trans (h.2.2.2.2 r i a b d)⟩
theorem Lk_congr {t fr : Int} {a0 a0' : Int → Int} {w0 x0 d0 f0 : Int} {a a' : Int → Int} {w x d f : Int} (h0 : ∀ i, 0 ≤ i → i ≤ 3 → a0' i = a0 i) (h1 : ∀ i, 0 ≤ i → i ≤ 3 → a' i = a i) (h : Lk t fr a0 w0 x0 d0 f0 a w x d f) : Lk t fr a0' w0 x0 d0 f0 a' w x d f := by
  obtain ⟨l1, l2, l3, l4, l5, l6⟩ := h
  refine ⟨l1, l2, l3, l4, fun i i0 i1 => ?_, ?_⟩
  · rw [h1 i i0 i1, l5 i i0 i1]
    have r := rotP_rg t (if (f - f0) % 2 = 0 then i else exP i) (by split; exact i0; exact (exP_rg i).1) (by split; exact i1; exact (exP_rg i).2)
    exact (h0 _ r.1 r.2).symm
  · rw [h1 0 (by decide) (by decide), h1 1 (by decide) (by decide)]
    exact l6
theorem Opp_congr {a a' : Int → Int} (h : ∀ i, 0 ≤ i → i ≤ 3 → a' i = a i) (o : Opp a) : Opp a' := by
  unfold Opp
  rw [h 0 (by decide) (by decide), h 1 (by decide) (by decide), h 2 (by decide) (by decide), h 3 (by decide) (by decide)]
  exact o
theorem Ch_congr {S S' : Sta} {c : Int} : ∀ (n : Nat) (a a' : Int → Int) (w x d f : Int), (∀ (k : Nat) (r : Int), 8 ≤ k → k ≤ 15 → 0 ≤ r → r < (n : Int) → S'.2 k (16 * r + c) = S.2 k (16 * r + c)) → (∀ r i, 0 ≤ r → r < (n : Int) → 0 ≤ i → i ≤ 3 → S'.2 7 (4 * (16 * r + c) + i) = S.2 7 (4 * (16 * r + c) + i)) → (∀ i, 0 ≤ i → i ≤ 3 → a' i = a i) → Ch S c n a w x d f → Ch S' c n a' w x d f := by
  intro n
  induction n with
  | zero => intro a a' w x d f _ _ ha h; exact ⟨h.1, h.2.1, Opp_congr ha h.2.2⟩
  | succ n ih =>
    intro a a' w x d f h8 h7 ha h
    have e := fun (k : Nat) (a : 8 ≤ k) (b : k ≤ 15) => h8 k (n : Int) a b (by omega) (by omega)
    have e7 := fun (i : Int) => h7 (n : Int) i (by omega) (by omega)
    unfold Ch
    rw [e 8 (by decide) (by decide), e 9 (by decide) (by decide), e 10 (by decide) (by decide), e 11 (by decide) (by decide), e 12 (by decide) (by decide), e 13 (by decide) (by decide)]
    exact ⟨Lk_congr e7 ha h.1, ih _ _ _ _ _ _ (fun k r a b q1 q2 => h8 k r a b q1 (by omega)) (fun r i q1 q2 => h7 r i q1 (by omega)) e7 h.2⟩
theorem RelP_same {p : Int} {X S S' : Sta} {c : Int} (p0 : 0 ≤ p) (m : Sm S S' c) (h : RelP p X S c) : RelP p X S' c := by
  obtain ⟨⟨n1, n2, n3, n4⟩, hp, hc⟩ := h
  obtain ⟨m1, m2, m3, m4, m5⟩ := m
  refine ⟨⟨fun t t0 t1 => (n1 t t0 t1).trans (m1 t t0 t1).1.symm, fun i i0 i1 => (n2 i i0 i1).trans (m1 i i0 i1).2.symm, ⟨n3.1.trans (m2 2 (by decide) (by decide)).symm, n3.2.1.trans (m2 3 (by decide) (by decide)).symm, n3.2.2.1.trans (m2 4 (by decide) (by decide)).symm, n3.2.2.2.trans (m2 6 (by decide) (by decide)).symm⟩, fun r r0 r1 => (n4 r r0 r1).trans (m3 r r0).symm⟩, fun k k0 k1 => ?_, ?_⟩
  · rw [m4 12 k (by decide) (by decide) k0, m4 13 k (by decide) (by decide) k0, m4 15 k (by decide) (by decide) k0, m4 11 k (by decide) (by decide) k0, m4 14 k (by decide) (by decide) k0]
    exact hp k k0 k1
  · rw [m2 2 (by decide) (by decide), m2 4 (by decide) (by decide), m2 5 (by decide) (by decide), m2 6 (by decide) (by decide)]
    exact Ch_congr _ _ _ _ _ _ _ (fun k r a b q1 _ => m4 k r a b q1) (fun r i q1 _ => m5 r i q1) (fun i i0 i1 => (m1 i i0 i1).2) hc
theorem Sm_make {S : Sta} {c c' t : Int} (h : c' ≠ c) (hc : 0 ≤ c ∧ c < 16) (hc' : 0 ≤ c' ∧ c' < 16) : Sm S (M_make S c t) c' := by
  refine ⟨fun t0 a b => ⟨M_make_ne S c t 0 _ (by omega) (by omega) (by omega) (by omega), M_make_ne S c t 1 _ (by omega) (by omega) (by omega) (by omega)⟩, fun k a b => M_make_ne S c t k _ (by omega) (by omega) (by omega) (by omega), fun r a => M_make_ne S c t 16 _ (by omega) (by omega) (by omega) (by omega), fun k r a b d => M_make_ne S c t k _ (by omega) (by omega) (by omega) (by omega), fun r i a b d => M_make_ne S c t 7 _ (by omega) (by omega) (by omega) (by omega)⟩
/-- a pick, of the card itself -/
theorem step_own {p : Int} {X S : Sta} {c t : Int} (h : RelP p X S c) (hp : S.1 2 = p) (p0 : 0 ≤ p) (hc : 0 ≤ c ∧ c < 16) (ht : 0 ≤ t ∧ t ≤ 2) (hw : 0 ≤ S.2 2 c ∧ S.2 2 c ≤ 1) : RelP (p + 1) (C_turnIn X p t) (M_make S c t) c ∧ (C_turnIn X p t).1 6 = 0 := by
  subst hp
  obtain ⟨⟨n1, n2, n3, n4⟩, hp, hch⟩ := h
  have opp := Ch_opp _ _ _ _ _ _ _ _ hch
  obtain ⟨o1, o2, o3, o4⟩ := opp
  dsimp only at o1 o2 o3 o4
  have hw2 : 0 ≤ X.1 0 ∧ X.1 0 ≤ 1 := by rw [n3.1]; exact hw
  have ct := C_turnIn_tw X (S.1 2) t hw2 ht
  have cn := C_turnIn_new X (S.1 2) t ht
  have mx := M_make_x S c t ht
  have mw := M_make_was2 S c t
  have mn := M_make_new S c t ht
  have ne : ∀ (k : Nat) (j : Int), k = 0 ∨ k = 2 ∨ k = 3 ∨ k = 6 ∨ k = 16 → (M_make S c t).2 k j = S.2 k j := fun k j hk => M_make_ne S c t k j (by omega) (by omega) (by omega) (by omega)
  have nep : ∀ (k : Nat) (r : Int), 8 ≤ k → k ≤ 15 → r < S.1 2 → (M_make S c t).2 k (16 * r + c) = S.2 k (16 * r + c) := fun k r a b hr => M_make_ne S c t k _ (by omega) (by omega) (by omega) (by omega)
  have t3 : t = 0 ∨ t = 1 ∨ t = 2 := by omega
  have e16 : 16 * S.1 2 + c - 16 = 16 * (S.1 2 - 1) + c := by omega
  refine ⟨⟨⟨fun t' a b => ?_, fun i a b => ?_, ⟨?_, ?_, ?_, ?_⟩, fun r a b => ?_⟩, fun k k0 k1 => ?_, ?_⟩, ct.2⟩
  · rw [C_turnIn_ne X _ t 1 t' (by decide) (by omega), ne 0 _ (by omega)]
    exact n1 t' a b
  · have rr := rotP_rg t i a b
    rw [C_turnIn_at X _ t ht i a b, M_make_at S c t ht i a b]
    exact n2 _ rr.1 rr.2
  · rw [C_turnIn_sc X _ t 0 (by decide) (by decide), ne 2 _ (by omega)]
    exact n3.1
  · rw [C_turnIn_sc X _ t 1 (by decide) (by decide), ne 3 _ (by omega)]
    exact n3.2.1
  · rw [ct.1, mx.1, n3.1, n3.2.2.1]
  · rw [C_turnIn_sc X _ t 3 (by decide) (by decide), ne 6 _ (by omega)]
    exact n3.2.2.2
  · rw [C_turnIn_ne X _ t 6 r (by decide) (by omega), ne 16 _ (by omega)]
    exact n4 r a b
  · by_cases e : k = S.1 2
    · subst e
      rw [cn.1, cn.2.1, cn.2.2.1, cn.2.2.2, mn.1, mn.2.1, mn.2.2.1, mn.2.2.2, mw.2.2.2, n3.1, n3.2.2.2, e16]
      rcases t3 with rfl | rfl | rfl
      · simp only [if_neg (show ¬ (0 : Int) = 2 by decide)]
        refine ⟨⟨by trivial, n2 (rotP 0 0) (by decide) (by decide), by trivial, by trivial⟩, ?_⟩
        rw [show rotP 0 (0 + 2) = 1 by decide, show rotP 0 0 = 3 by decide]
        omega
      · simp only [if_neg (show ¬ (1 : Int) = 2 by decide)]
        refine ⟨⟨by trivial, n2 (rotP 1 1) (by decide) (by decide), by trivial, by trivial⟩, ?_⟩
        rw [show rotP 1 (1 + 2) = 0 by decide, show rotP 1 1 = 2 by decide, Int.add_zero]
        rw [Int.add_zero] at o1 o3
        omega
      · rw [if_pos rfl, if_pos rfl, if_pos rfl, if_pos rfl, if_pos rfl]
        by_cases z : S.1 2 = 0
        · rw [if_pos (show S.1 2 ≤ 0 by omega), if_pos (show S.1 2 ≤ 0 by omega), if_pos z, if_pos z, if_pos z]
          have q := n2 0 (by decide) (by decide)
          rw [Int.add_zero] at q o1
          exact ⟨⟨rfl, q, rfl, rfl⟩, o1⟩
        · rw [if_neg (show ¬ S.1 2 ≤ 0 by omega), if_neg (show ¬ S.1 2 ≤ 0 by omega), if_neg z, if_neg z, if_neg z]
          have q := hp (S.1 2 - 1) (by omega) (by omega)
          exact ⟨⟨rfl, q.1.2.1, q.1.2.2.1, rfl⟩, q.2⟩
    · have k2 : k < S.1 2 := by omega
      rw [C_turnIn_ne X _ t 2 k (by decide) (by omega), C_turnIn_ne X _ t 3 k (by decide) (by omega), C_turnIn_ne X _ t 4 k (by decide) (by omega), C_turnIn_ne X _ t 5 k (by decide) (by omega), nep 12 k (by decide) (by decide) k2, nep 13 k (by decide) (by decide) k2, nep 15 k (by decide) (by decide) k2, nep 11 k (by decide) (by decide) k2, nep 14 k (by decide) (by decide) k2]
      exact hp k k0 k2
  · have en : (S.1 2 + 1).toNat = (S.1 2).toNat + 1 := by omega
    have ei : ((S.1 2).toNat : Int) = S.1 2 := by omega
    rw [en]
    unfold Ch
    rw [ei, mw.1, mw.2.1, mw.2.2.1, mw.2.2.2, mn.1, ne 2 c (by omega), ne 6 c (by omega), mx.1, mx.2]
    refine ⟨⟨Int.le_refl _, ?_, rfl, rfl, fun i a b => ?_, ?_⟩, ?_⟩
    · rw [if_pos (by omega)]
    · have rr := rotP_rg t i a b
      rw [if_pos (by omega)]
      dsimp only
      rw [M_make_at S c t ht i a b]
      exact (M_make_was S c t _ rr.1 rr.2).symm
    · dsimp only
      rw [mn.2.1, M_make_at S c t ht 0 (by decide) (by decide), M_make_at S c t ht 1 (by decide) (by decide), e16]
      rcases t3 with rfl | rfl | rfl
      · exact Or.inl rfl
      · exact Or.inr rfl
      · rw [if_pos rfl]
        by_cases z : S.1 2 = 0
        · rw [if_pos z]
          left
          rw [show rotP 2 0 = 0 by decide, Int.add_zero]
        · rw [if_neg z]
          have q : ∃ m : Nat, (S.1 2).toNat = m + 1 := ⟨(S.1 2).toNat - 1, by omega⟩
          obtain ⟨m, hm⟩ := q
          rw [hm] at hch
          have l6 := hch.1.2.2.2.2.2
          have em : (m : Int) = S.1 2 - 1 := by omega
          rw [em] at l6
          exact l6
    · exact Ch_congr _ _ _ _ _ _ _ (fun k r a b q1 q2 => nep k r a b (by omega)) (fun r i q1 q2 a b => M_make_ne S c t 7 _ (by omega) (by omega) (by omega) (by omega)) (fun i a b => M_make_was S c t i a b) hch
