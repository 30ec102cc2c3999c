/-! what the reference's and the class's steps do, cell by cell -/
theorem mA_rd (S : Sta) (k : Nat) (z v : Int) (i : Nat) (j : Int) : (mA S k z v).2 i j = if i = k ∧ j = z then v else S.2 i j := by
  show (if i = k then iu (S.2 k) z v else S.2 i) j = _
  by_cases e : i = k
  · subst e
    rw [if_pos rfl]
    unfold iu
    by_cases e2 : j = z
    · rw [if_pos e2, if_pos ⟨rfl, e2⟩]
    · rw [if_neg e2, if_neg (fun q => e2 q.2)]
  · rw [if_neg e, if_neg (fun q => e q.1)]
theorem mW_rd (S : Sta) (k : Nat) (g : Int → Int) (i : Nat) (j : Int) : (mW S k g).2 i j = if i = k then g j else S.2 i j := by
  show (if i = k then g else S.2 i) j = _
  split <;> rfl
theorem mI_rd (S : Sta) (k : Nat) (v : Int) (i : Nat) : (mI S k v).1 i = if i = k then v else S.1 i := rfl
theorem mI_ar (S : Sta) (k : Nat) (v : Int) (i : Nat) (j : Int) : (mI S k v).2 i j = S.2 i j := rfl
theorem mA_sc (S : Sta) (k : Nat) (z v : Int) (i : Nat) : (mA S k z v).1 i = S.1 i := rfl
theorem i4 {i : Int} (h0 : 0 ≤ i) (h1 : i ≤ 3) : i = 0 ∨ i = 1 ∨ i = 2 ∨ i = 3 := by omega
/-- keep -/
theorem M_keep_l12_rd (S0 : Sta) (c : Int) : ∀ (n : Nat) (v : Int) (S : Sta) (k : Nat) (j : Int), (M_keep_l12 S0 c n v S).2 k j = if k = 7 ∧ (4 * (16 * S0.1 2 + c) + v ≤ j ∧ j < 4 * (16 * S0.1 2 + c) + v + (if v ≤ 4 then (if (n : Int) ≤ 4 - v then (n : Int) else 4 - v) else 0)) then S.2 1 (4 * c + (j - 4 * (16 * S0.1 2 + c))) else S.2 k j := by
  intro n
  induction n with
  | zero =>
    intro v S k j
    rw [if_neg (by split <;> (try split) <;> omega)]
    rfl
  | succ n ih =>
    intro v S k j
    rw [M_keep_l12_s]
    by_cases e : 4 ≤ v
    · rw [if_pos e, if_neg]
      split <;> (try split) <;> omega
    · rw [if_neg e, ih]
      have e4 : v ≤ 4 := by omega
      have e5 : v + 1 ≤ 4 := by omega
      rw [if_pos e4, if_pos e5]
      by_cases q : k = 7 ∧ (4 * (16 * S0.1 2 + c) + (v + 1) ≤ j ∧ j < 4 * (16 * S0.1 2 + c) + (v + 1) + (if (n : Int) ≤ 4 - (v + 1) then (n : Int) else 4 - (v + 1)))
      · rw [if_pos q, if_pos (by refine ⟨q.1, by omega, ?_⟩; have := q.2.2; split at this <;> split <;> omega), mA_rd, if_neg (by omega)]
      · rw [if_neg q, mA_rd]
        by_cases q2 : k = 7 ∧ j = 4 * (16 * S0.1 2 + c) + v
        · rw [if_pos q2, if_pos (by refine ⟨q2.1, by omega, ?_⟩; split <;> omega)]
          rw [q2.2, show 4 * c + (4 * (16 * S0.1 2 + c) + v - 4 * (16 * S0.1 2 + c)) = 4 * c + v by omega]
        · rw [if_neg q2, if_neg]
          intro q3
          by_cases q4 : j = 4 * (16 * S0.1 2 + c) + v
          · exact q2 ⟨q3.1, q4⟩
          · refine q ⟨q3.1, by omega, ?_⟩
            have := q3.2.2
            split at this <;> split <;> omega
theorem M_keep_rd (S : Sta) (c : Int) (k : Nat) (j : Int) : (M_keep S c).2 k j = if k = 7 ∧ (4 * (16 * S.1 2 + c) ≤ j ∧ j < 4 * (16 * S.1 2 + c) + 4) then S.2 1 (4 * c + (j - 4 * (16 * S.1 2 + c))) else if k = 8 ∧ j = 16 * S.1 2 + c then S.2 2 c else if k = 9 ∧ j = 16 * S.1 2 + c then S.2 4 c else if k = 10 ∧ j = 16 * S.1 2 + c then S.2 5 c else if k = 11 ∧ j = 16 * S.1 2 + c then S.2 6 c else S.2 k j := by
  have r := M_keep_l12_rd S c 5 0 S
  have e : ∀ (k : Nat) (j : Int), (M_keep_l12 S c 5 0 S).2 k j = if k = 7 ∧ (4 * (16 * S.1 2 + c) ≤ j ∧ j < 4 * (16 * S.1 2 + c) + 4) then S.2 1 (4 * c + (j - 4 * (16 * S.1 2 + c))) else S.2 k j := by
    intro k j
    rw [r, if_pos (show (0 : Int) ≤ 4 by decide), if_neg (show ¬ ((5 : Nat) : Int) ≤ 4 - 0 by decide)]
    by_cases q : k = 7 ∧ (4 * (16 * S.1 2 + c) ≤ j ∧ j < 4 * (16 * S.1 2 + c) + 4)
    · rw [if_pos q, if_pos (by omega)]
    · rw [if_neg q, if_neg (by omega)]
  unfold M_keep M_keep_r12
  dsimp only
  rw [mA_rd, mA_rd, mA_rd, mA_rd, e, e, e, e, e]
  rw [if_neg (show ¬ ((2 : Nat) = 7 ∧ _) from fun q => absurd q.1 (by decide)), if_neg (show ¬ ((4 : Nat) = 7 ∧ _) from fun q => absurd q.1 (by decide)), if_neg (show ¬ ((5 : Nat) = 7 ∧ _) from fun q => absurd q.1 (by decide)), if_neg (show ¬ ((6 : Nat) = 7 ∧ _) from fun q => absurd q.1 (by decide))]
  by_cases q7 : k = 7 ∧ (4 * (16 * S.1 2 + c) ≤ j ∧ j < 4 * (16 * S.1 2 + c) + 4)
  · simp only [if_pos q7, if_neg (show ¬ (k = 8 ∧ j = 16 * S.1 2 + c) by omega), if_neg (show ¬ (k = 9 ∧ j = 16 * S.1 2 + c) by omega), if_neg (show ¬ (k = 10 ∧ j = 16 * S.1 2 + c) by omega), if_neg (show ¬ (k = 11 ∧ j = 16 * S.1 2 + c) by omega)]
  · by_cases q8 : k = 8 ∧ j = 16 * S.1 2 + c
    · simp only [if_neg q7, if_pos q8, if_neg (show ¬ (k = 9 ∧ j = 16 * S.1 2 + c) by omega), if_neg (show ¬ (k = 10 ∧ j = 16 * S.1 2 + c) by omega), if_neg (show ¬ (k = 11 ∧ j = 16 * S.1 2 + c) by omega)]
    · by_cases q9 : k = 9 ∧ j = 16 * S.1 2 + c
      · simp only [if_neg q7, if_neg q8, if_pos q9, if_neg (show ¬ (k = 10 ∧ j = 16 * S.1 2 + c) by omega), if_neg (show ¬ (k = 11 ∧ j = 16 * S.1 2 + c) by omega)]
      · by_cases q10 : k = 10 ∧ j = 16 * S.1 2 + c
        · simp only [if_neg q7, if_neg q8, if_neg q9, if_pos q10, if_neg (show ¬ (k = 11 ∧ j = 16 * S.1 2 + c) by omega)]
        · by_cases q11 : k = 11 ∧ j = 16 * S.1 2 + c
          · simp only [if_neg q7, if_neg q8, if_neg q9, if_neg q10, if_pos q11]
          · simp only [if_neg q7, if_neg q8, if_neg q9, if_neg q10, if_neg q11]
/-- one turn of the reference's places -/
def M_st (c : Int) (S2 : Sta) : Sta := (mA (mA (mA (mA S2 1 ((4 * c) + 3) (S2.2 1 ((4 * c) + 2))) 1 ((4 * c) + 2) ((mA S2 1 ((4 * c) + 3) (S2.2 1 ((4 * c) + 2))).2 1 ((4 * c) + 1))) 1 ((4 * c) + 1) ((mA (mA S2 1 ((4 * c) + 3) (S2.2 1 ((4 * c) + 2))) 1 ((4 * c) + 2) ((mA S2 1 ((4 * c) + 3) (S2.2 1 ((4 * c) + 2))).2 1 ((4 * c) + 1))).2 1 (4 * c))) 1 (4 * c) (S2.2 1 ((4 * c) + 3)))
theorem M_st_ne (c : Int) (S : Sta) (k : Nat) (j : Int) (h : ¬ (k = 1 ∧ (4 * c ≤ j ∧ j ≤ 4 * c + 3))) : (M_st c S).2 k j = S.2 k j := by
  unfold M_st
  rw [mA_rd, if_neg (by omega), mA_rd, if_neg (by omega), mA_rd, if_neg (by omega), mA_rd, if_neg (by omega)]
theorem M_st_at (c : Int) (S : Sta) (i : Int) (h0 : 0 ≤ i) (h1 : i ≤ 3) : (M_st c S).2 1 (4 * c + i) = S.2 1 (4 * c + (i + 3) % 4) := by
  unfold M_st
  rcases i4 h0 h1 with rfl | rfl | rfl | rfl
  · rw [mA_rd, if_pos (by omega)]
    rfl
  · rw [mA_rd, if_neg (by omega), mA_rd, if_pos (by omega), mA_rd, if_neg (by omega), mA_rd, if_neg (by omega)]
    rw [show 4 * c + ((1 : Int) + 3) % 4 = 4 * c by omega]
  · rw [mA_rd, if_neg (by omega), mA_rd, if_neg (by omega), mA_rd, if_pos (by omega), mA_rd, if_neg (by omega)]
    rfl
  · rw [mA_rd, if_neg (by omega), mA_rd, if_neg (by omega), mA_rd, if_neg (by omega), mA_rd, if_pos (by omega)]
    rfl
theorem M_move_1 (S : Sta) (c : Int) : M_move S c 1 = M_st c S := by
  unfold M_move
  rw [M_move_l2_s, if_neg (by decide), M_move_l2_s, if_pos (by decide)]
  rfl
theorem M_move_3 (S : Sta) (c : Int) : M_move S c 3 = M_st c (M_st c (M_st c S)) := by
  unfold M_move
  rw [M_move_l2_s, if_neg (by decide), M_move_l2_s, if_neg (by decide), M_move_l2_s, if_neg (by decide), M_move_l2_s, if_pos (by decide)]
  rfl
theorem M_move_ne (S : Sta) (c t : Int) (k : Nat) (j : Int) (h : ¬ (k = 1 ∧ (4 * c ≤ j ∧ j ≤ 4 * c + 3))) : (M_move S c (if t = 0 then 1 else 3)).2 k j = S.2 k j := by
  split
  · rw [M_move_1, M_st_ne c S k j h]
  · rw [M_move_3, M_st_ne c _ k j h, M_st_ne c _ k j h, M_st_ne c _ k j h]
theorem M_move_at (S : Sta) (c t i : Int) (ht : t = 0 ∨ t = 1) (h0 : 0 ≤ i) (h1 : i ≤ 3) : (M_move S c (if t = 0 then 1 else 3)).2 1 (4 * c + i) = S.2 1 (4 * c + rotP t i) := by
  rcases ht with rfl | rfl
  · rw [if_pos rfl, M_move_1, M_st_at c S i h0 h1]
    rfl
  · rw [if_neg (by decide), M_move_3, M_st_at c _ i h0 h1, M_st_at c _ _ (by omega) (by omega), M_st_at c _ _ (by omega) (by omega)]
    rw [show rotP 1 i = (i + 1) % 4 from rfl, show (((i + 3) % 4 + 3) % 4 + 3) % 4 = (i + 1) % 4 by omega]
/-- make, cell by cell -/
theorem rotP_rg (t i : Int) (h0 : 0 ≤ i) (h1 : i ≤ 3) : 0 ≤ rotP t i ∧ rotP t i ≤ 3 := by
  unfold rotP
  split
  · omega
  · split <;> omega
theorem exP_rg (i : Int) : 0 ≤ exP i ∧ exP i ≤ 3 := by
  unfold exP
  split
  · omega
  · split
    · omega
    · split <;> omega
section MAKE
variable (S : Sta) (c t : Int)
/-- what make leaves alone -/
theorem M_make_ne (k : Nat) (j : Int) (h1 : k = 1 → ¬ (4 * c ≤ j ∧ j ≤ 4 * c + 3)) (h4 : k = 4 ∨ k = 5 → j ≠ c) (h7 : k = 7 → ¬ (4 * (16 * S.1 2 + c) ≤ j ∧ j < 4 * (16 * S.1 2 + c) + 4)) (h8 : 8 ≤ k ∧ k ≤ 15 → j ≠ 16 * S.1 2 + c) : (M_make S c t).2 k j = S.2 k j := by
  have kp : (M_keep S c).2 k j = S.2 k j := by
    rw [M_keep_rd, if_neg (by omega), if_neg (by omega), if_neg (by omega), if_neg (by omega), if_neg (by omega)]
  unfold M_make
  by_cases e : t = 2
  · rw [if_pos e, mA_rd, if_neg (by omega), mA_rd, if_neg (by omega), mA_rd, if_neg (by omega), mA_rd, if_neg (by omega), mA_rd, if_neg (by omega)]
    exact kp
  · rw [if_neg e, mA_rd, if_neg (by omega), mA_rd, if_neg (by omega), mA_rd, if_neg (by omega), mA_rd, if_neg (by omega), mA_rd, if_neg (by omega), M_move_ne _ _ _ _ _ (by omega), mA_rd, if_neg (by omega)]
    exact kp
theorem M_make_at (ht : 0 ≤ t ∧ t ≤ 2) (i : Int) (h0 : 0 ≤ i) (h1 : i ≤ 3) : (M_make S c t).2 1 (4 * c + i) = S.2 1 (4 * c + rotP t i) := by
  have kp : ∀ j, (M_keep S c).2 1 j = S.2 1 j := fun j => by
    rw [M_keep_rd, if_neg (by omega), if_neg (by omega), if_neg (by omega), if_neg (by omega), if_neg (by omega)]
  unfold M_make
  by_cases e : t = 2
  · rw [if_pos e, mA_rd, if_neg (by omega), mA_rd, if_neg (by omega), mA_rd, if_neg (by omega), mA_rd, if_neg (by omega), mA_rd, if_neg (by omega), kp, e]
    rfl
  · rw [if_neg e, mA_rd, if_neg (by omega), mA_rd, if_neg (by omega), mA_rd, if_neg (by omega), mA_rd, if_neg (by omega), mA_rd, if_neg (by omega), M_move_at _ c t i (by omega) h0 h1, mA_rd, if_neg (by omega), kp]
theorem M_make_x (ht : 0 ≤ t ∧ t ≤ 2) : (M_make S c t).2 4 c = S.2 4 c + twP (S.2 2 c) t ∧ (M_make S c t).2 5 c = (if t = 2 then S.2 5 c + 1 else 0) := by
  have kp : ∀ j, (M_keep S c).2 4 j = S.2 4 j := fun j => by
    rw [M_keep_rd, if_neg (by omega), if_neg (by omega), if_neg (by omega), if_neg (by omega), if_neg (by omega)]
  unfold M_make twP
  by_cases e : t = 2
  · rw [if_pos e, if_pos e, if_pos e]
    constructor
    · rw [mA_rd, if_neg (by omega), mA_rd, if_neg (by omega), mA_rd, if_neg (by omega), mA_rd, if_neg (by omega), mA_rd, if_neg (by omega), kp]
      omega
    · rw [mA_rd, if_neg (by omega), mA_rd, if_neg (by omega), mA_rd, if_neg (by omega), mA_rd, if_pos (by omega)]
  · rw [if_neg e, if_neg e, if_neg e]
    constructor
    · rw [mA_rd, if_neg (by omega), mA_rd, if_neg (by omega), mA_rd, if_pos (by omega)]
      split <;> rfl
    · rw [mA_rd, if_neg (by omega), mA_rd, if_neg (by omega), mA_rd, if_neg (by omega), mA_rd, if_neg (by omega), mA_rd, if_pos (by omega)]
theorem M_make_was (i : Int) (h0 : 0 ≤ i) (h1 : i ≤ 3) : (M_make S c t).2 7 (4 * (16 * S.1 2 + c) + i) = S.2 1 (4 * c + i) := by
  have kp : (M_keep S c).2 7 (4 * (16 * S.1 2 + c) + i) = S.2 1 (4 * c + i) := by
    rw [M_keep_rd, if_pos (by omega), show 4 * c + (4 * (16 * S.1 2 + c) + i - 4 * (16 * S.1 2 + c)) = 4 * c + i by omega]
  unfold M_make
  by_cases e : t = 2
  · rw [if_pos e, mA_rd, if_neg (by omega), mA_rd, if_neg (by omega), mA_rd, if_neg (by omega), mA_rd, if_neg (by omega), mA_rd, if_neg (by omega)]
    exact kp
  · rw [if_neg e, mA_rd, if_neg (by omega), mA_rd, if_neg (by omega), mA_rd, if_neg (by omega), mA_rd, if_neg (by omega), mA_rd, if_neg (by omega), M_move_ne _ _ _ _ _ (by omega), mA_rd, if_neg (by omega)]
    exact kp
theorem M_make_was2 : (M_make S c t).2 8 (16 * S.1 2 + c) = S.2 2 c ∧ (M_make S c t).2 9 (16 * S.1 2 + c) = S.2 4 c ∧ (M_make S c t).2 10 (16 * S.1 2 + c) = S.2 5 c ∧ (M_make S c t).2 11 (16 * S.1 2 + c) = S.2 6 c := by
  have k8 : (M_keep S c).2 8 (16 * S.1 2 + c) = S.2 2 c := by rw [M_keep_rd, if_neg (by omega), if_pos (by omega)]
  have k9 : (M_keep S c).2 9 (16 * S.1 2 + c) = S.2 4 c := by rw [M_keep_rd, if_neg (by omega), if_neg (by omega), if_pos (by omega)]
  have k10 : (M_keep S c).2 10 (16 * S.1 2 + c) = S.2 5 c := by rw [M_keep_rd, if_neg (by omega), if_neg (by omega), if_neg (by omega), if_pos (by omega)]
  have k11 : (M_keep S c).2 11 (16 * S.1 2 + c) = S.2 6 c := by rw [M_keep_rd, if_neg (by omega), if_neg (by omega), if_neg (by omega), if_neg (by omega), if_pos (by omega)]
  unfold M_make
  by_cases e : t = 2
  · rw [if_pos e]
    refine ⟨?_, ?_, ?_, ?_⟩
    · rw [mA_rd, if_neg (by omega), mA_rd, if_neg (by omega), mA_rd, if_neg (by omega), mA_rd, if_neg (by omega), mA_rd, if_neg (by omega), k8]
    · rw [mA_rd, if_neg (by omega), mA_rd, if_neg (by omega), mA_rd, if_neg (by omega), mA_rd, if_neg (by omega), mA_rd, if_neg (by omega), k9]
    · rw [mA_rd, if_neg (by omega), mA_rd, if_neg (by omega), mA_rd, if_neg (by omega), mA_rd, if_neg (by omega), mA_rd, if_neg (by omega), k10]
    · rw [mA_rd, if_neg (by omega), mA_rd, if_neg (by omega), mA_rd, if_neg (by omega), mA_rd, if_neg (by omega), mA_rd, if_neg (by omega), k11]
  · rw [if_neg e]
    refine ⟨?_, ?_, ?_, ?_⟩
    · rw [mA_rd, if_neg (by omega), mA_rd, if_neg (by omega), mA_rd, if_neg (by omega), mA_rd, if_neg (by omega), mA_rd, if_neg (by omega), M_move_ne _ _ _ _ _ (by omega), mA_rd, if_neg (by omega), k8]
    · rw [mA_rd, if_neg (by omega), mA_rd, if_neg (by omega), mA_rd, if_neg (by omega), mA_rd, if_neg (by omega), mA_rd, if_neg (by omega), M_move_ne _ _ _ _ _ (by omega), mA_rd, if_neg (by omega), k9]
    · rw [mA_rd, if_neg (by omega), mA_rd, if_neg (by omega), mA_rd, if_neg (by omega), mA_rd, if_neg (by omega), mA_rd, if_neg (by omega), M_move_ne _ _ _ _ _ (by omega), mA_rd, if_neg (by omega), k10]
    · rw [mA_rd, if_neg (by omega), mA_rd, if_neg (by omega), mA_rd, if_neg (by omega), mA_rd, if_neg (by omega), mA_rd, if_neg (by omega), M_move_ne _ _ _ _ _ (by omega), mA_rd, if_neg (by omega), k11]
theorem M_make_new (ht : 0 ≤ t ∧ t ≤ 2) : (M_make S c t).2 12 (16 * S.1 2 + c) = t ∧ (M_make S c t).2 13 (16 * S.1 2 + c) = (if t = 2 then (if S.1 2 = 0 then S.2 1 (4 * c) else S.2 13 (16 * S.1 2 + c - 16)) else S.2 1 (4 * c + rotP t t)) ∧ (M_make S c t).2 14 (16 * S.1 2 + c) = (if t = 2 then (if S.1 2 = 0 then S.2 1 (4 * c + 2) else S.2 14 (16 * S.1 2 + c - 16)) else S.2 1 (4 * c + rotP t (t + 2))) ∧ (M_make S c t).2 15 (16 * S.1 2 + c) = (if t = 2 then (if S.1 2 = 0 then 0 else S.2 15 (16 * S.1 2 + c - 16)) else if t = S.2 2 c then 0 else 1) := by
  have kp : ∀ j, (M_keep S c).2 1 j = S.2 1 j := fun j => by
    rw [M_keep_rd, if_neg (by omega), if_neg (by omega), if_neg (by omega), if_neg (by omega), if_neg (by omega)]
  unfold M_make
  by_cases e : t = 2
  · rw [if_pos e, if_pos e, if_pos e, if_pos e]
    refine ⟨?_, ?_, ?_, ?_⟩
    · rw [mA_rd, if_neg (by omega), mA_rd, if_neg (by omega), mA_rd, if_neg (by omega), mA_rd, if_neg (by omega), mA_rd, if_pos (by omega)]
    · rw [mA_rd, if_neg (by omega), mA_rd, if_neg (by omega), mA_rd, if_pos (by omega)]
    · rw [mA_rd, if_neg (by omega), mA_rd, if_pos (by omega)]
    · rw [mA_rd, if_pos (by omega)]
  · rw [if_neg e, if_neg e, if_neg e, if_neg e]
    refine ⟨?_, ?_, ?_, ?_⟩
    · rw [mA_rd, if_neg (by omega), mA_rd, if_neg (by omega), mA_rd, if_neg (by omega), mA_rd, if_neg (by omega), mA_rd, if_neg (by omega), M_move_ne _ _ _ _ _ (by omega), mA_rd, if_pos (by omega)]
    · rw [mA_rd, if_neg (by omega), mA_rd, if_pos (by omega), M_move_at _ c t t (by omega) (by omega) (by omega), mA_rd, if_neg (by omega), kp]
    · rw [mA_rd, if_pos (by omega), show 4 * c + t + 2 = 4 * c + (t + 2) by omega, M_move_at _ c t (t + 2) (by omega) (by omega) (by omega), mA_rd, if_neg (by omega), kp]
    · rw [mA_rd, if_neg (by omega), mA_rd, if_neg (by omega), mA_rd, if_neg (by omega), mA_rd, if_pos (by omega)]
end MAKE
