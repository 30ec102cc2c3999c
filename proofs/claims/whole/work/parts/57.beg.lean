/-! RULE and CARDS -/
theorem T_forgetPlans_l2_sp (T0 : TS) : ∀ (n : Nat) (v : Int) (X : TS), 0 ≤ v → T0.1 0 - v < (n : Int) → (T_forgetPlans_l2 T0 n v X).1 = X.1 ∧ (T_forgetPlans_l2 T0 n v X).2.1 = X.2.1 ∧ (T_forgetPlans_l2 T0 n v X).2.2.1 = X.2.2.1 ∧ ∀ j : Int, (T_forgetPlans_l2 T0 n v X).2.2.2 j = if v ≤ j ∧ j < T0.1 0 then mI (X.2.2.2 j) 6 0 else X.2.2.2 j := by
  intro n
  induction n with
  | zero =>
    intro v X h0 h1
    exact ⟨rfl, rfl, rfl, fun j => by rw [if_neg (by omega)]; rfl⟩
  | succ n ih =>
    intro v X h0 h1
    rw [T_forgetPlans_l2_s]
    by_cases e : T0.1 0 ≤ v
    · rw [if_pos e]
      exact ⟨rfl, rfl, rfl, fun j => by rw [if_neg (by omega)]⟩
    · rw [if_neg e]
      obtain ⟨k1, k2, k3, k4⟩ := ih (v + 1) (tC X v (mI (X.2.2.2 v) 6 0)) (by omega) (by omega)
      refine ⟨k1, k2, k3, fun j => ?_⟩
      rw [k4]
      by_cases z : j = v
      · subst z
        rw [if_neg (by omega), if_pos (by omega), tC_at]
      · rw [tC_ne X _ z]
        by_cases y : v ≤ j ∧ j < T0.1 0
        · rw [if_pos (by omega), if_pos y]
        · rw [if_neg (by omega), if_neg y]
section RULE
variable {N : Int} {T : TS} {S : Sta}
theorem Rel_rule (h : Rel N T S) (hN : N + 1 ≤ 1000) {T' : TS} {S' : Sta} (e1 : T'.2.2.1 = T.2.2.1) (e2 : ∀ j : Int, T'.2.2.2 j = if 0 ≤ j ∧ j < T.1 0 then mI (T.2.2.2 j) 6 0 else T.2.2.2 j) (e3 : S'.2 = S.2) (e4 : T'.1 0 = T.1 0 ∧ T'.1 1 = T.1 1) (e5 : S'.1 0 = S.1 0 ∧ S'.1 1 = S.1 1 ∧ S'.1 2 = S.1 2) (e6 : (1 ≤ T'.1 2 ∧ T'.1 2 ≤ 30) ∧ (0 ≤ T'.1 3 ∧ T'.1 3 ≤ 9)) (e7 : T'.1 2 = S'.1 3 ∧ T'.1 3 = S'.1 4) : Rel (N + 1) T' S' := by
  have sc := h.sc
  have i0 := InvTC_s0 h.it
  have i1 := InvTC_s1 h.it
  have s2 := InvM_s2 h.iw
  have z01 : (0 : Int) ≤ 0 ∧ (0 : Int) ≤ 1 := by decide
  have iw := InvW_mono h.iw (M := N + 1) (by omega) hN
  refine ⟨⟨⟨⟨by rw [e4.1]; exact i0, by rw [e4.2]; exact i1, e6.1, e6.2⟩, fun i => ?_⟩, fun i => ?_, ⟨⟨⟨by rw [e5.1]; exact h.iw.1.1.1, iw.1.1.2⟩, by rw [e5.2.1]; exact h.iw.1.2.1, by rw [e5.2.2]; exact h.iw.1.2.2.1, by rw [← e7.1]; exact e6.1, by rw [← e7.2]; exact e6.2⟩, fun k j => by rw [e3]; exact iw.2 k j⟩, InvT_ne h.iwt (by rw [e3]) (by rw [e3])⟩, ⟨by rw [e4.1, e5.2.1]; exact sc.1, by rw [e4.2, e5.2.2]; exact sc.2.1, e7⟩, fun c c0 c1 => ?_⟩
  · have k := (InvTC_mono h.it (M := N + 1) (by omega) hN).2 i
    rw [e1, e2]
    split
    · exact ⟨InvC.mI (k := 6) k.1 z01, k.2⟩
    · exact k
  · rw [e2]
    split
    · exact h.itt i
    · exact h.itt i
  · rw [e4.1] at c1
    have r := h.relP c0 (by rw [← sc.1]; exact c1)
    have ex : T'.2.2.2 c = mI (T.2.2.2 c) 6 0 := by rw [e2, if_pos ⟨c0, c1⟩]
    unfold RelC ChN RCn RCp
    rw [ex, e3, e5.2.2]
    refine ⟨r.1, r.2.1, ?_, Or.inl rfl⟩
    exact Ch_congr (S := S) _ _ _ _ _ _ _ (fun k q _ _ _ _ => by rw [e3]) (fun q i _ _ _ _ => by rw [e3]) (fun _ _ _ => rfl) r.2.2
theorem s_rule (h : Rel N T S) (hN : N + 1 ≤ 1000) (w v : Int) : (T_rule T w v).1 = (M_rule S w v).1 ∧ Rel (N + 1) (T_rule T w v).2 (M_rule S w v).2 := by
  have m := h.mono (M := N + 1) (by omega) hN
  have sc := h.sc
  have i0 := InvTC_s0 h.it
  have i2 := InvTC_s2 h.it
  have i3 := InvTC_s3 h.it
  by_cases w0 : w = 0
  · subst w0
    unfold T_rule M_rule M_rule_m26 M_rule_m39 M_rule_m63 M_rule_m81
    rw [if_neg (show ¬ M_in 0 0 1 = 0 by decide)]
    simp only [ite_true, if_neg (show ¬ (0 : Int) = 1 by decide)]
    rcases in_within v 1 30 with ⟨a, b, -⟩ | ⟨a, b, v0, v1⟩
    · rw [if_pos a, if_pos b]
      exact ⟨rfl, m⟩
    · rw [if_neg (show ¬ T_within v 1 30 = 0 by omega), if_neg (show ¬ M_in v 1 30 = 0 by omega)]
      obtain ⟨k1, k2, k3, k4⟩ := T_forgetPlans_l2_sp (tI T 2 v) 17 0 (tI T 2 v) (by decide) (by show T.1 0 - 0 < ((17 : Nat) : Int); omega)
      refine ⟨sc.2.2.1, ?_⟩
      have k1 : (T_forgetPlans (tI T 2 v)).1 = (tI T 2 v).1 := k1
      refine Rel_rule h hN k3 k4 rfl ⟨by rw [k1]; rfl, by rw [k1]; rfl⟩ ⟨rfl, rfl, rfl⟩ ?_ ?_
      · rw [k1]
        exact ⟨⟨v0, v1⟩, i3⟩
      · rw [k1]
        exact ⟨rfl, sc.2.2.2⟩
  · by_cases w1 : w = 1
    · subst w1
      unfold T_rule M_rule M_rule_m26 M_rule_m39 M_rule_m63 M_rule_m81
      rw [if_neg (show ¬ M_in 1 0 1 = 0 by decide)]
      simp only [ite_true, if_neg (show ¬ (1 : Int) = 0 by decide)]
      rcases in_within v 0 9 with ⟨a, b, -⟩ | ⟨a, b, v0, v1⟩
      · rw [if_pos a, if_pos b]
        exact ⟨rfl, m⟩
      · rw [if_neg (show ¬ T_within v 0 9 = 0 by omega), if_neg (show ¬ M_in v 0 9 = 0 by omega)]
        obtain ⟨k1, k2, k3, k4⟩ := T_forgetPlans_l2_sp (tI T 3 v) 17 0 (tI T 3 v) (by decide) (by show T.1 0 - 0 < ((17 : Nat) : Int); omega)
        refine ⟨sc.2.2.2, ?_⟩
        have k1 : (T_forgetPlans (tI T 3 v)).1 = (tI T 3 v).1 := k1
        refine Rel_rule h hN k3 k4 rfl ⟨by rw [k1]; rfl, by rw [k1]; rfl⟩ ⟨rfl, rfl, rfl⟩ ?_ ?_
        · rw [k1]
          exact ⟨i2, ⟨v0, v1⟩⟩
        · rw [k1]
          exact ⟨sc.2.2.1, rfl⟩
    · unfold T_rule M_rule
      have q := M_in_sp w 0 1
      rw [if_neg w0, if_neg w1, if_pos (show M_in w 0 1 = 0 by omega)]
      exact ⟨rfl, m⟩
end RULE
theorem M_begin_l22_rd : ∀ (n : Nat) (v : Int) (S : Sta), 0 ≤ v → 64 - v < (n : Int) → (M_begin_l22 n v S).1 = S.1 ∧ ∀ (k : Nat) (j : Int), (M_begin_l22 n v S).2 k j = if (k = 0 ∨ k = 1) ∧ (v ≤ j ∧ j < 64) then j % 4 else S.2 k j := by
  intro n
  induction n with
  | zero => intro v S h0 h1; exact ⟨rfl, fun k j => by rw [if_neg (by omega)]; rfl⟩
  | succ n ih =>
    intro v S h0 h1
    rw [M_begin_l22_s]
    by_cases e : 64 ≤ v
    · rw [if_pos e]
      exact ⟨rfl, fun k j => by rw [if_neg (by omega)]⟩
    · rw [if_neg e]
      obtain ⟨k1, k2⟩ := ih (v + 1) (mA (mA S 0 v (v % 4)) 1 v (v % 4)) (by omega) (by omega)
      refine ⟨k1, fun k j => ?_⟩
      rw [k2]
      by_cases z : (k = 0 ∨ k = 1) ∧ (v + 1 ≤ j ∧ j < 64)
      · rw [if_pos z, if_pos (by omega)]
      · rw [if_neg z, mA_rd, mA_rd]
        by_cases y : (k = 0 ∨ k = 1) ∧ (v ≤ j ∧ j < 64)
        · rw [if_pos y]
          have ej : j = v := by omega
          subst ej
          by_cases x : k = 1
          · rw [if_pos ⟨x, rfl⟩]
          · rw [if_neg (by omega), if_pos (by omega)]
        · rw [if_neg y, if_neg (by omega), if_neg (by omega)]
theorem M_begin_l54_rd : ∀ (n : Nat) (v : Int) (S : Sta), 0 ≤ v → 16 - v < (n : Int) → (M_begin_l54 n v S).1 = S.1 ∧ ∀ (k : Nat) (j : Int), (M_begin_l54 n v S).2 k j = if (2 ≤ k ∧ k ≤ 6) ∧ (v ≤ j ∧ j < 16) then 0 else S.2 k j := by
  intro n
  induction n with
  | zero => intro v S h0 h1; exact ⟨rfl, fun k j => by rw [if_neg (by omega)]; rfl⟩
  | succ n ih =>
    intro v S h0 h1
    rw [M_begin_l54_s]
    by_cases e : 16 ≤ v
    · rw [if_pos e]
      exact ⟨rfl, fun k j => by rw [if_neg (by omega)]⟩
    · rw [if_neg e]
      obtain ⟨k1, k2⟩ := ih (v + 1) (mA (mA (mA (mA (mA S 2 v 0) 3 v 0) 4 v 0) 5 v 0) 6 v 0) (by omega) (by omega)
      refine ⟨k1, fun k j => ?_⟩
      rw [k2]
      by_cases z : (2 ≤ k ∧ k ≤ 6) ∧ (v + 1 ≤ j ∧ j < 16)
      · rw [if_pos z, if_pos (by omega)]
      · rw [if_neg z, mA_rd, mA_rd, mA_rd, mA_rd, mA_rd]
        by_cases y : (2 ≤ k ∧ k ≤ 6) ∧ (v ≤ j ∧ j < 16)
        · rw [if_pos y]
          have ej : j = v := by omega
          subst ej
          have k5 : k = 2 ∨ k = 3 ∨ k = 4 ∨ k = 5 ∨ k = 6 := by omega
          rcases k5 with rfl | rfl | rfl | rfl | rfl <;> simp
        · rw [if_neg y, if_neg (by omega), if_neg (by omega), if_neg (by omega), if_neg (by omega), if_neg (by omega)]
theorem M_begin_l103_rd : ∀ (n : Nat) (v : Int) (S : Sta), 0 ≤ v → 480 - v < (n : Int) → (M_begin_l103 n v S).1 = S.1 ∧ ∀ (k : Nat) (j : Int), (M_begin_l103 n v S).2 k j = if k = 16 ∧ (v ≤ j ∧ j < 480) then -99 else S.2 k j := by
  intro n
  induction n with
  | zero => intro v S h0 h1; exact ⟨rfl, fun k j => by rw [if_neg (by omega)]; rfl⟩
  | succ n ih =>
    intro v S h0 h1
    rw [M_begin_l103_s]
    by_cases e : 480 ≤ v
    · rw [if_pos e]
      exact ⟨rfl, fun k j => by rw [if_neg (by omega)]⟩
    · rw [if_neg e]
      obtain ⟨k1, k2⟩ := ih (v + 1) (mA S 16 v (-99)) (by omega) (by omega)
      refine ⟨k1, fun k j => ?_⟩
      rw [k2]
      by_cases z : k = 16 ∧ (v + 1 ≤ j ∧ j < 480)
      · rw [if_pos z, if_pos (by omega)]
      · rw [if_neg z, mA_rd]
        by_cases y : k = 16 ∧ (v ≤ j ∧ j < 480)
        · rw [if_pos y, if_pos (by omega)]
        · rw [if_neg y, if_neg (by omega)]
theorem M_begin_rd (S : Sta) (n : Int) : (M_begin S n).1 = (mI (mI (mI (mI S 1 n) 2 0) 3 1) 4 3).1 ∧ ∀ (k : Nat) (j : Int), (M_begin S n).2 k j = if (k = 0 ∨ k = 1) ∧ (0 ≤ j ∧ j < 64) then j % 4 else if (2 ≤ k ∧ k ≤ 6) ∧ (0 ≤ j ∧ j < 16) then 0 else if k = 16 ∧ (0 ≤ j ∧ j < 480) then -99 else S.2 k j := by
  obtain ⟨a1, a2⟩ := M_begin_l22_rd 65 0 (mI (mI (mI (mI S 1 n) 2 0) 3 1) 4 3) (by decide) (by decide)
  obtain ⟨b1, b2⟩ := M_begin_l54_rd 17 0 (M_begin_l22 65 0 (mI (mI (mI (mI S 1 n) 2 0) 3 1) 4 3)) (by decide) (by decide)
  obtain ⟨c1, c2⟩ := M_begin_l103_rd 481 0 (M_begin_l54 17 0 (M_begin_l22 65 0 (mI (mI (mI (mI S 1 n) 2 0) 3 1) 4 3))) (by decide) (by decide)
  refine ⟨by unfold M_begin M_begin_r22 M_begin_r54; exact c1.trans (b1.trans a1), fun k j => ?_⟩
  unfold M_begin M_begin_r22 M_begin_r54
  dsimp only
  rw [c2, b2, a2]
  by_cases x : (k = 16 ∧ (0 ≤ j ∧ j < 480))
  · simp only [if_pos x, if_neg (show ¬ ((k = 0 ∨ k = 1) ∧ (0 ≤ j ∧ j < 64)) by omega), if_neg (show ¬ ((2 ≤ k ∧ k ≤ 6) ∧ (0 ≤ j ∧ j < 16)) by omega)]
  · by_cases y : ((2 ≤ k ∧ k ≤ 6) ∧ (0 ≤ j ∧ j < 16))
    · simp only [if_neg x, if_pos y, if_neg (show ¬ ((k = 0 ∨ k = 1) ∧ (0 ≤ j ∧ j < 64)) by omega)]
    · simp only [if_neg x, if_neg y]
      rfl
theorem C_reset_l2_rd : ∀ (n : Nat) (v : Int) (S : Sta), 0 ≤ v → 4 - v < (n : Int) → (C_reset_l2 n v S).1 = S.1 ∧ ∀ (k : Nat) (j : Int), (C_reset_l2 n v S).2 k j = if (k = 0 ∨ k = 1) ∧ (v ≤ j ∧ j < 4) then j else S.2 k j := by
  intro n
  induction n with
  | zero => intro v S h0 h1; exact ⟨rfl, fun k j => by rw [if_neg (by omega)]; rfl⟩
  | succ n ih =>
    intro v S h0 h1
    rw [C_reset_l2_s]
    by_cases e : 4 ≤ v
    · rw [if_pos e]
      exact ⟨rfl, fun k j => by rw [if_neg (by omega)]⟩
    · rw [if_neg e]
      obtain ⟨k1, k2⟩ := ih (v + 1) (mA (mA S 0 v v) 1 v v) (by omega) (by omega)
      refine ⟨k1, fun k j => ?_⟩
      rw [k2]
      by_cases z : (k = 0 ∨ k = 1) ∧ (v + 1 ≤ j ∧ j < 4)
      · rw [if_pos z, if_pos (by omega)]
      · rw [if_neg z, mA_rd, mA_rd]
        by_cases y : (k = 0 ∨ k = 1) ∧ (v ≤ j ∧ j < 4)
        · rw [if_pos y]
          have ej : j = v := by omega
          subst ej
          by_cases x : k = 1
          · rw [if_pos ⟨x, rfl⟩]
          · rw [if_neg (by omega), if_pos (by omega)]
        · rw [if_neg y, if_neg (by omega), if_neg (by omega)]
theorem C_reset_rd (X : Sta) : ((C_reset X).1 0 = 0 ∧ (C_reset X).1 1 = 0 ∧ (C_reset X).1 2 = 0 ∧ (C_reset X).1 3 = 0 ∧ (C_reset X).1 6 = 0) ∧ (∀ (k : Nat) (j : Int), k = 0 ∨ k = 1 → 0 ≤ j → j ≤ 3 → (C_reset X).2 k j = j) ∧ (∀ j, 0 ≤ j → j < 30 → (C_reset X).2 6 j = -99) := by
  obtain ⟨a1, a2⟩ := C_reset_l2_rd 5 0 X (by decide) (by decide)
  refine ⟨⟨rfl, rfl, rfl, rfl, rfl⟩, fun k j hk h0 h1 => ?_, fun j h0 h1 => ?_⟩
  · show (mW (C_reset_l2 5 0 X) 6 (J_fillA 30 ((C_reset_l2 5 0 X).2 6) (-99))).2 k j = j
    rw [mW_rd, if_neg (by omega), a2, if_pos (by omega)]
  · show (mW (C_reset_l2 5 0 X) 6 (J_fillA 30 ((C_reset_l2 5 0 X).2 6) (-99))).2 6 j = -99
    rw [mW_rd, if_pos rfl]
    show J_fillA_l5 30 (-99) (30 + 1) 0 ((C_reset_l2 5 0 X).2 6) j = -99
    rw [J_fillA_l5_sp _ _ _ _ _ (by decide) (by decide), if_pos]
    omega
theorem T_startAgain_l22_rd : ∀ (n : Nat) (v : Int) (X : TS), 0 ≤ v → 16 - v < (n : Int) → (T_startAgain_l22 n v X).1 = X.1 ∧ (T_startAgain_l22 n v X).2.2.1 = X.2.2.1 ∧ ∀ j : Int, (T_startAgain_l22 n v X).2.2.2 j = if v ≤ j ∧ j < 16 then C_reset (X.2.2.2 j) else X.2.2.2 j := by
  intro n
  induction n with
  | zero => intro v X h0 h1; exact ⟨rfl, rfl, fun j => by rw [if_neg (by omega)]; rfl⟩
  | succ n ih =>
    intro v X h0 h1
    rw [T_startAgain_l22_s]
    by_cases e : 16 ≤ v
    · rw [if_pos e]
      exact ⟨rfl, rfl, fun j => by rw [if_neg (by omega)]⟩
    · rw [if_neg e]
      obtain ⟨k1, k2, k3⟩ := ih (v + 1) (tC X v (C_reset (X.2.2.2 v))) (by omega) (by omega)
      refine ⟨k1, k2, fun j => ?_⟩
      rw [k3]
      by_cases z : j = v
      · subst z
        rw [if_neg (by omega), if_pos (by omega), tC_at]
      · rw [tC_ne X _ z]
        by_cases y : v ≤ j ∧ j < 16
        · rw [if_pos (by omega), if_pos y]
        · rw [if_neg (by omega), if_neg y]
theorem rgM_z {N : Int} (hN : 0 ≤ N) : ∀ k : Nat, rgM N k 0 := by
  intro k
  match k with
  | 0 => exact ⟨by decide, by decide⟩
  | 1 => exact ⟨by decide, by decide⟩
  | 2 => exact ⟨by decide, by decide⟩
  | 3 => exact ⟨by decide, by decide⟩
  | 4 => exact trivial
  | 5 => exact trivial
  | 6 => exact ⟨by decide, hN⟩
  | 7 => exact ⟨by decide, by decide⟩
  | 8 => exact ⟨by decide, by decide⟩
  | 9 => exact trivial
  | 10 => exact trivial
  | 11 => exact ⟨by decide, hN⟩
  | 12 => exact ⟨by decide, by decide⟩
  | 13 => exact ⟨by decide, by decide⟩
  | 14 => exact ⟨by decide, by decide⟩
  | 15 => exact ⟨by decide, by decide⟩
  | 16 => exact ⟨by decide, by decide⟩
  | 17 => exact ⟨by decide, by decide⟩
  | 18 => exact ⟨by decide, by decide⟩
  | 19 => exact ⟨by decide, by decide⟩
  | k + 20 => exact trivial
theorem Rel_begin {N : Int} {T : TS} {S : Sta} (hN : 0 ≤ N ∧ N ≤ 1000) (hP : ∀ i : Int, InvP N (T.2.2.1, T.2.2.2 i)) (hTT : InvTCT T) (hS0 : S.1 0 = 0) (hS : ∀ (k : Nat) (j : Int), rgM N k (S.2 k j)) (hST : InvT S) {n : Int} (hn : 1 ≤ n ∧ n ≤ 16) : Rel N (T_startAgain T n) (M_begin S n) := by
  obtain ⟨a1, a2⟩ := M_begin_rd S n
  obtain ⟨b1, b2, b3⟩ := T_startAgain_l22_rd 17 0 (tI (tI (tI (tI T 0 n) 1 0) 2 1) 3 3) (by decide) (by decide)
  have b1 : (T_startAgain T n).1 = (tI (tI (tI (tI T 0 n) 1 0) 2 1) 3 3).1 := b1
  have b2 : (T_startAgain T n).2.2.1 = T.2.2.1 := b2
  have b3 : ∀ j : Int, (T_startAgain T n).2.2.2 j = if 0 ≤ j ∧ j < 16 then C_reset (T.2.2.2 j) else T.2.2.2 j := b3
  have t0 : (T_startAgain T n).1 0 = n := by rw [b1]; rfl
  have t1 : (T_startAgain T n).1 1 = 0 := by rw [b1]; rfl
  have t2 : (T_startAgain T n).1 2 = 1 := by rw [b1]; rfl
  have t3 : (T_startAgain T n).1 3 = 3 := by rw [b1]; rfl
  have s0 : (M_begin S n).1 0 = 0 := by rw [a1]; exact hS0
  have s1 : (M_begin S n).1 1 = n := by rw [a1]; rfl
  have s2 : (M_begin S n).1 2 = 0 := by rw [a1]; rfl
  have s3 : (M_begin S n).1 3 = 1 := by rw [a1]; rfl
  have s4 : (M_begin S n).1 4 = 3 := by rw [a1]; rfl
  refine ⟨⟨⟨⟨by omega, by omega, by omega, by omega⟩, fun i => ?_⟩, fun i => ?_, ⟨⟨⟨s0, hN⟩, by omega, by omega, by omega, by omega⟩, fun k j => ?_⟩, ⟨fun j => ?_, fun j => ?_⟩⟩, by omega, fun c c0 c1 => ?_⟩
  · rw [b2, b3]
    split
    · exact ⟨C_reset_inv (hP i).1, (hP i).2⟩
    · exact hP i
  · rw [b3]
    split
    · show -60 ≤ (C_reset (T.2.2.2 i)).1 2 ∧ (C_reset (T.2.2.2 i)).1 2 ≤ 60
      rw [(C_reset_rd (T.2.2.2 i)).1.2.2.1]
      decide
    · exact hTT i
  · rw [a2]
    split
    · next e =>
      rcases e.1 with rfl | rfl
      · show 0 ≤ j % 4 ∧ j % 4 ≤ 7
        omega
      · show 0 ≤ j % 4 ∧ j % 4 ≤ 3
        omega
    · split
      · exact rgM_z hN.1 k
      · split
        · next e =>
          obtain ⟨rfl, -⟩ := e
          show (-99 : Int) ≤ -99 ∧ (-99 : Int) ≤ 7
          decide
        · exact hS k j
  · rw [a2, if_neg (by omega)]
    split
    · decide
    · rw [if_neg (by omega)]
      exact hST.1 j
  · rw [a2, if_neg (by omega)]
    split
    · decide
    · rw [if_neg (by omega)]
      exact hST.2 j
  · rw [t0] at c1
    obtain ⟨r1, r2, r3⟩ := C_reset_rd (T.2.2.2 c)
    have ex : (T_startAgain T n).2.2.2 c = C_reset (T.2.2.2 c) := by rw [b3, if_pos (by omega)]
    have z : ∀ k : Nat, 2 ≤ k → k ≤ 6 → (M_begin S n).2 k c = 0 := fun k q1 q2 => by rw [a2, if_neg (by omega), if_pos (by omega)]
    have z1 : ∀ (k : Nat) (i : Int), k = 0 ∨ k = 1 → 0 ≤ i → i ≤ 3 → (M_begin S n).2 k (4 * c + i) = i := fun k i q q1 q2 => by rw [a2, if_pos (by omega)]; omega
    unfold RelC ChN
    rw [ex, s2]
    refine ⟨⟨fun t q1 q2 => ?_, fun i q1 q2 => ?_, ⟨?_, ?_, ?_, ?_⟩, fun r q1 q2 => ?_⟩, fun k k0 k1 => by omega, ?_, Or.inl r1.2.2.2.2⟩
    · rw [r2 1 t (by omega) q1 q2, z1 0 t (by omega) q1 q2]
    · rw [r2 0 i (by omega) q1 q2, z1 1 i (by omega) q1 q2]
    · rw [r1.1, z 2 (by decide) (by decide)]
    · rw [r1.2.1, z 3 (by decide) (by decide)]
    · rw [r1.2.2.1, z 4 (by decide) (by decide)]
    · rw [r1.2.2.2.1, z 6 (by decide) (by decide)]
    · rw [r3 r q1 q2, a2, if_neg (by omega), if_neg (by omega), if_pos (by omega)]
    · refine ⟨z 4 (by decide) (by decide), z 5 (by decide) (by decide), ?_⟩
      unfold Opp
      dsimp only
      rw [z1 1 0 (by omega) (by decide) (by decide), z1 1 1 (by omega) (by decide) (by decide), z1 1 2 (by omega) (by decide) (by decide), z1 1 3 (by omega) (by decide) (by decide)]
      decide
theorem s_cards {N : Int} {T : TS} {S : Sta} (h : Rel N T S) (hN : N + 1 ≤ 1000) (n : Int) : (T_cards T n).1 = (M_cards S n).1 ∧ Rel (N + 1) (T_cards T n).2 (M_cards S n).2 := by
  have m := h.mono (M := N + 1) (by omega) hN
  unfold T_cards M_cards
  rcases in_within n 1 16 with ⟨a, b, -⟩ | ⟨a, b, n0, n1⟩
  · rw [if_pos a, if_pos b]
    exact ⟨rfl, m⟩
  · rw [if_neg (show ¬ T_within n 1 16 = 0 by omega), if_neg (show ¬ M_in n 1 16 = 0 by omega)]
    have q : Rel (N + 1) (T_startAgain T n) (M_begin S n) := Rel_begin (T := T) (S := S) m.iw.1.1.2 m.it.2 m.itt m.iw.1.1.1 m.iw.2 m.iwt ⟨n0, n1⟩
    dsimp only
    exact ⟨h.sc.1, q⟩
/-- the two objects as they are made -/
theorem Rel_first : Rel 0 (T_startAgain TZ 4) (M_begin ZM 4) := by
  have cz : InvC 0 Z0 := by
    refine ⟨by decide, fun j => ?_, fun k j => ?_⟩
    · show sgC 0 j 0
      match j with
      | 0 => exact ⟨by decide, by decide⟩
      | 1 => exact ⟨by decide, by decide⟩
      | 2 => exact trivial
      | 3 => exact ⟨by decide, by decide⟩
      | 4 => exact ⟨by decide, by decide⟩
      | 5 => exact trivial
      | 6 => exact ⟨by decide, by decide⟩
      | k + 7 => exact trivial
    · show rgC 0 k 0
      match k with
      | 0 => exact ⟨by decide, by decide⟩
      | 1 => exact ⟨by decide, by decide⟩
      | 2 => exact ⟨by decide, by decide⟩
      | 3 => exact ⟨by decide, by decide⟩
      | 4 => exact ⟨by decide, by decide⟩
      | 5 => exact ⟨by decide, by decide⟩
      | 6 => exact ⟨by decide, by decide⟩
      | 7 => exact ⟨by decide, by decide⟩
      | k + 8 => exact trivial
  refine Rel_begin (by decide) (fun i => ⟨cz, ?_⟩) (fun i => ?_) rfl (fun k j => rgM_z (Int.le_refl 0) k) ⟨fun j => ?_, fun j => ?_⟩ (by decide)
  · refine ⟨?_, ?_, ?_, ?_, fun z => ?_⟩
    · show (0 : Int) ≤ 0 ∧ (0 : Int) ≤ 1000
      decide
    · show (0 : Int) ≤ 0 ∧ (0 : Int) ≤ 3
      decide
    · show (0 : Int) ≤ 0 ∧ (0 : Int) ≤ 1
      decide
    · show (0 : Int) ≤ 0 ∧ (0 : Int) ≤ 9
      decide
    · show (0 : Int) ≤ 0 ∧ (0 : Int) ≤ 1000
      decide
  · show (-60 : Int) ≤ 0 ∧ (0 : Int) ≤ 60
    decide
  · show (-60 : Int) ≤ 0 ∧ (0 : Int) ≤ 60
    decide
  · show (0 : Int) ≤ 0 ∧ (0 : Int) ≤ 60
    decide
