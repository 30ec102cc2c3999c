/-! TURNINGS, and what is woven by them -/
theorem Gr_uniq {X : Sta} {f : Int} {g g' : Int → Int} {e e' : Int} : ∀ (k : Nat) (r t sh n u : Int), Gr X f g e k r t sh n u → Gr X f g' e' k r t sh n u → e = e' ∧ ∀ j, r ≤ j → j < r + (k : Int) → g j = g' j := by
  intro k
  induction k with
  | zero => intro r t sh n u h h'; exact ⟨h.trans h'.symm, fun j q1 q2 => by omega⟩
  | succ k ih =>
    intro r t sh n u h h'
    have er : g r = g' r := h.1.trans h'.1.symm
    have h2 := h.2
    have h2' := h'.2
    rw [← er] at h2'
    have K : e = e' ∧ ∀ j, r + 1 ≤ j → j < r + 1 + (k : Int) → g j = g' j := by
      by_cases q : g r = 2
      · rw [if_pos q] at h2 h2'
        exact ih _ _ _ _ _ h2 h2'
      · rw [if_neg q] at h2 h2'
        exact ih _ _ _ _ _ h2 h2'
    refine ⟨K.1, fun j q1 q2 => ?_⟩
    by_cases z : j = r
    · rw [z]; exact er
    · exact K.2 j (by omega) (by omega)
section WV
variable {N : Int} {T : TS} {S : Sta}
theorem Rel_sameS (h : Rel N T S) {S' : Sta} (hI : InvW N S') (e1 : ∀ j : Nat, j ≠ 5 → S'.1 j = S.1 j) (e2 : ∀ k : Nat, k ∉ [17, 18, 19] → S'.2 k = S.2 k) : Rel N T S' := by
  have sc := h.sc
  refine ⟨⟨h.it, h.itt, hI, InvT_ne h.iwt (e2 4 (by decide)) (e2 5 (by decide))⟩, ⟨by rw [e1 1 (by decide)]; exact sc.1, by rw [e1 2 (by decide)]; exact sc.2.1, by rw [e1 3 (by decide)]; exact sc.2.2.1, by rw [e1 4 (by decide)]; exact sc.2.2.2⟩, fun c c0 c1 => ?_⟩
  have cw : c < S.1 1 := by rw [← sc.1]; exact c1
  have r := h.relP c0 cw
  have s2 := InvM_s2 h.iw
  have sm : Sm S S' c := ⟨fun t _ _ => ⟨by rw [e2 0 (by decide)], by rw [e2 1 (by decide)]⟩, fun k q1 q2 => by rw [e2 k (by simp; omega)], fun r _ => by rw [e2 16 (by decide)], fun k r q1 q2 _ => by rw [e2 k (by simp; omega)], fun r i _ _ _ => by rw [e2 7 (by decide)]⟩
  have r2 := RelP_same s2.1 sm r
  unfold RelC ChN
  rw [e1 2 (by decide)]
  exact ⟨r2.1, r2.2.1, r2.2.2, h.plan c0 cw⟩
theorem Rel.showing (h : Rel N T S) {c : Int} (c0 : 0 ≤ c) (c1 : c < S.1 1) : C_showing (T.2.2.2 c) (S.1 2) = (T.2.2.2 c).2 0 0 ∨ C_showing (T.2.2.2 c) (S.1 2) = (T.2.2.2 c).2 0 1 := by
  have s2 := InvM_s2 h.iw
  have r := h.relP c0 c1
  unfold C_showing
  by_cases e : S.1 2 ≤ 0
  · rw [if_pos e]
    exact Or.inl rfl
  · rw [if_neg e]
    have q : ∃ m : Nat, (S.1 2).toNat = m + 1 := ⟨(S.1 2).toNat - 1, by omega⟩
    obtain ⟨m, hm⟩ := q
    have r3 := r.2.2
    rw [hm] at r3
    have l6 := r3.1.2.2.2.2.2
    rw [show (m : Int) = S.1 2 - 1 by omega] at l6
    rw [h.front c0 c1 (by omega) (by omega), r.1.2.1 0 (by decide) (by decide), r.1.2.1 1 (by decide) (by decide)]
    exact l6
theorem s_planned (h : Rel N T S) {c : Int} (c0 : 0 ≤ c) (c1 : c < S.1 1) : Rel N (T_plannedCard T c) S ∧ PlanIs ((T_plannedCard T c).2.2.2 c) (S.1 2) (S.1 3) (S.1 4) ∧ (∀ c', c' ≠ c → (T_plannedCard T c).2.2.2 c' = T.2.2.2 c') := by
  have s1 := InvM_s1 h.iw
  have sc := h.sc
  have inv := T_plannedCard_inv T c h.it h.itt (by omega)
  revert inv
  unfold T_plannedCard
  by_cases e : (T.2.2.2 c).1 6 = 0
  · rw [if_pos e]
    intro inv
    have all := P_plan_all (T.2.2.1, T.2.2.2 c) (T.1 1) (T.1 2) (T.1 3) (h.it.2 c) h.it.1.2.1 h.it.1.2.2.1 h.it.1.2.2.2
    have pl := plan_is (p := T.1 1) (h := T.1 2) (f := T.1 3) (h.it.2 c) (show InvPT (T.2.2.1, T.2.2.2 c) from h.itt c) h.it.1.2.1 h.it.1.2.2.1 h.it.1.2.2.2 (by rw [sc.2.1]; exact h.showing c0 c1)
    generalize P_plan (T.2.2.1, T.2.2.2 c) (T.1 1) (T.1 2) (T.1 3) = Q at all pl inv ⊢
    have pl2 : PlanIs (mI Q.2 6 1) (T.1 1) (T.1 2) (T.1 3) := PlanIs_congr (X := Q.2) rfl rfl rfl rfl rfl rfl rfl rfl rfl rfl pl
    have oth : ∀ c', c' ≠ c → (tC (tP T Q.1) c (mI Q.2 6 1)).2.2.2 c' = T.2.2.2 c' := fun c' q => tC_ne _ _ q
    refine ⟨⟨⟨inv.1, inv.2, h.iw, h.iwt⟩, sc, fun c' q1 q2 => ?_⟩, ?_, oth⟩
    · have cw : c' < S.1 1 := by rw [← sc.1]; exact q2
      have r := h.relP q1 cw
      by_cases z : c' = c
      · subst z
        have a1 : Q.2.2 1 = (T.2.2.2 c').2 1 := all.2.2 1 (by decide)
        have a0 : Q.2.2 0 = (T.2.2.2 c').2 0 := all.2.2 0 (by decide)
        have a2 : Q.2.2 2 = (T.2.2.2 c').2 2 := all.2.2 2 (by decide)
        have a3 : Q.2.2 3 = (T.2.2.2 c').2 3 := all.2.2 3 (by decide)
        have a4 : Q.2.2 4 = (T.2.2.2 c').2 4 := all.2.2 4 (by decide)
        have a5 : Q.2.2 5 = (T.2.2.2 c').2 5 := all.2.2 5 (by decide)
        have a6 : Q.2.2 6 = (T.2.2.2 c').2 6 := all.2.2 6 (by decide)
        have b0 : Q.2.1 0 = (T.2.2.2 c').1 0 := all.2.1 0 (by decide) (by decide)
        have b1 : Q.2.1 1 = (T.2.2.2 c').1 1 := all.2.1 1 (by decide) (by decide)
        have b2 : Q.2.1 2 = (T.2.2.2 c').1 2 := all.2.1 2 (by decide) (by decide)
        have b3 : Q.2.1 3 = (T.2.2.2 c').1 3 := all.2.1 3 (by decide) (by decide)
        unfold RelC
        rw [tC_at]
        refine ⟨⟨fun t x y => ?_, fun i x y => ?_, ⟨?_, ?_, ?_, ?_⟩, fun q x y => ?_⟩, fun k x y => ?_, r.2.2, Or.inr pl2⟩
        · show Q.2.2 1 t = _
          rw [a1]; exact r.1.1 t x y
        · show Q.2.2 0 i = _
          rw [a0]; exact r.1.2.1 i x y
        · show Q.2.1 0 = _
          rw [b0]; exact r.1.2.2.1.1
        · show Q.2.1 1 = _
          rw [b1]; exact r.1.2.2.1.2.1
        · show Q.2.1 2 = _
          rw [b2]; exact r.1.2.2.1.2.2.1
        · show Q.2.1 3 = _
          rw [b3]; exact r.1.2.2.1.2.2.2
        · show Q.2.2 6 q = _
          rw [a6]; exact r.1.2.2.2 q x y
        · show (Q.2.2 2 k = _ ∧ Q.2.2 3 k = _ ∧ Q.2.2 4 k = _ ∧ Q.2.2 5 k = _) ∧ _
          rw [a2, a3, a4, a5]
          exact r.2.1 k x y
      · unfold RelC
        rw [oth c' z]
        exact ⟨r.1, r.2.1, r.2.2, h.plan q1 cw⟩
    · rw [tC_at, ← sc.2.1, ← sc.2.2.1, ← sc.2.2.2]
      exact pl2
  · rw [if_neg e]
    intro _
    refine ⟨h, ?_, fun _ _ => rfl⟩
    rcases h.plan c0 c1 with q | q
    · exact absurd q e
    · rw [← sc.2.1, ← sc.2.2.1, ← sc.2.2.2]
      exact q
/-- what the plan and the reference's look have in common -/
theorem plan_look (h : Rel N T S) {c : Int} (c0 : 0 ≤ c) (c1 : c < S.1 1) (pl : PlanIs (T.2.2.2 c) (S.1 2) (S.1 3) (S.1 4)) : ((M_look S c).1 = 1000000 ∧ (T.2.2.2 c).1 4 = -99) ∨ ((0 ≤ (M_look S c).1 ∧ (M_look S c).1 < 1000000) ∧ (T.2.2.2 c).1 4 = (M_look S c).1 / 1000 ∧ (T.2.2.2 c).1 5 = (M_look S c).2.1 5 ∧ ∀ j, 0 ≤ j → j < S.1 3 → (T.2.2.2 c).2 7 j = (M_look S c).2.2 18 j) := by
  have s1 := InvM_s1 h.iw
  have s3 := InvM_s3 h.iw
  have rg := M_look_rg S c h.iw h.iwt (by omega)
  obtain ⟨l1, l2⟩ := look_sp h c0 c1
  rcases pl with ⟨p1, p2⟩ | ⟨p1, p2, p3⟩
  · left
    exact ⟨by omega, p2⟩
  · right
    have g := l2 (by omega)
    have q := Gr_uniq _ _ _ _ _ _ p3 g
    exact ⟨by omega, by rw [l1]; exact p2, q.1, fun j j0 j1 => q.2 j j0 (by omega)⟩
theorem Rel_look (h : Rel N T S) {c : Int} (c0 : 0 ≤ c) (c1 : c < S.1 1) : Rel N T (M_look S c).2 := by
  have s1 := InvM_s1 h.iw
  obtain ⟨a, b, d, -⟩ := M_look_all S c h.iw h.iwt (by omega)
  exact Rel_sameS h a b (fun k hk => d k (by simp at hk ⊢; omega))
theorem s_idles (h : Rel N T S) (c : Int) : (T_idles T c).1 = (M_idles S c).1 ∧ Rel N (T_idles T c).2 (M_idles S c).2 := by
  unfold T_idles M_idles M_idles_m37
  rcases h.card c with ⟨a, b, -⟩ | ⟨a, b, c0, c1⟩
  · rw [if_pos a, if_neg (show ¬ M_noCard S c = 0 by omega)]
    exact ⟨rfl, h⟩
  · rw [if_neg (show ¬ T_isCard T c = 0 by omega), if_pos b]
    obtain ⟨h2, pl, -⟩ := s_planned h c0 c1
    dsimp only
    refine ⟨?_, Rel_look h2 c0 c1⟩
    rcases plan_look h2 c0 c1 pl with ⟨p1, p2⟩ | ⟨p1, p2, p3, p4⟩
    · rw [if_pos (by omega)]
      exact p2
    · rw [if_neg (by omega)]
      exact p2
theorem s_turning (h : Rel N T S) (c i : Int) : (T_turning T c i).1 = (M_turning S c i).1 ∧ Rel N (T_turning T c i).2 (M_turning S c i).2 := by
  unfold T_turning M_turning M_turning_m55 T_turning_m53
  rcases h.card c with ⟨a, b, -⟩ | ⟨a, b, c0, c1⟩
  · rw [if_pos a, if_neg (show ¬ M_noCard S c = 0 by omega)]
    exact ⟨rfl, h⟩
  · rw [if_neg (show ¬ T_isCard T c = 0 by omega), if_pos b, h.sc.2.2.1]
    rcases in_within i 0 (S.1 3 - 1) with ⟨a, b, -⟩ | ⟨a, b, i0, i1⟩
    · rw [if_pos a, if_pos b]
      exact ⟨rfl, h⟩
    · rw [if_neg (show ¬ T_within i 0 (S.1 3 - 1) = 0 by omega), if_neg (show ¬ M_in i 0 (S.1 3 - 1) = 0 by omega)]
      obtain ⟨h2, pl, -⟩ := s_planned h c0 c1
      dsimp only
      refine ⟨?_, Rel_look h2 c0 c1⟩
      rcases plan_look h2 c0 c1 pl with ⟨p1, p2⟩ | ⟨p1, p2, p3, p4⟩
      · rw [if_pos p2, if_pos (by omega)]
      · rw [if_neg (by omega), if_neg (by omega)]
        exact p4 i i0 (by omega)
theorem s_behind (h : Rel N T S) (c : Int) : (T_behind T c).1 = (M_behind S c).1 ∧ Rel N (T_behind T c).2 (M_behind S c).2 := by
  unfold T_behind M_behind M_behind_m37 T_behind_m37
  rcases h.card c with ⟨a, b, -⟩ | ⟨a, b, c0, c1⟩
  · rw [if_pos a, if_neg (show ¬ M_noCard S c = 0 by omega)]
    exact ⟨rfl, h⟩
  · rw [if_neg (show ¬ T_isCard T c = 0 by omega), if_pos b]
    obtain ⟨h2, pl, -⟩ := s_planned h c0 c1
    dsimp only
    refine ⟨?_, Rel_look h2 c0 c1⟩
    rcases plan_look h2 c0 c1 pl with ⟨p1, p2⟩ | ⟨p1, p2, p3, p4⟩
    · rw [if_pos p2, if_pos (by omega)]
    · rw [if_neg (by omega), if_neg (by omega), p3]
/-! weave -/
theorem M_weave_l30_rd (S : Sta) (v : Int) (S7 : Sta) : ∀ (n : Nat) (w : Int) (Z : Sta), S.1 3 - w < (n : Int) → (M_weave_l30 S v S7 n w Z).1 = Z.1 ∧ (∀ k : Nat, k ≠ 19 → (M_weave_l30 S v S7 n w Z).2 k = Z.2 k) ∧ (∀ r, w ≤ r → r < S.1 3 → (M_weave_l30 S v S7 n w Z).2 19 (16 * r + v) = (M_look S7 v).2.2 18 r) ∧ (∀ j, (∀ r, w ≤ r → r < S.1 3 → j ≠ 16 * r + v) → (M_weave_l30 S v S7 n w Z).2 19 j = Z.2 19 j) := by
  intro n
  induction n with
  | zero => intro w Z h; exact ⟨rfl, fun _ _ => rfl, fun r q1 q2 => by omega, fun _ _ => rfl⟩
  | succ n ih =>
    intro w Z h
    rw [M_weave_l30_s]
    by_cases e : S.1 3 ≤ w
    · rw [if_pos e]
      exact ⟨rfl, fun _ _ => rfl, fun r q1 q2 => by omega, fun _ _ => rfl⟩
    · rw [if_neg e]
      obtain ⟨k1, k2, k3, k4⟩ := ih (w + 1) (mA Z 19 (16 * w + v) ((M_look S7 v).2.2 18 w)) (by omega)
      refine ⟨k1, fun k hk => (k2 k hk).trans (mA_ne _ _ trivial hk), fun r q1 q2 => ?_, fun j hj => ?_⟩
      · by_cases z : r = w
        · subst z
          rw [k4 _ (fun r' x y => by omega), mA_rd, if_pos ⟨rfl, rfl⟩]
        · exact k3 r (by omega) q2
      · rw [k4 j (fun r x y => hj r (by omega) y), mA_rd, if_neg (fun q => hj w (Int.le_refl w) (by omega) q.2)]
/-- after the first loop of weave, ahead of card v -/
def WVi (N v : Int) (T : TS) (S : Sta) (X : TS) (Y : Sta) : Prop := Rel N X Y ∧ X.1 = T.1 ∧ (∀ j : Nat, j ≠ 5 → Y.1 j = S.1 j) ∧ (∀ c r, 0 ≤ c → c < v → 0 ≤ r → r < S.1 3 → (X.2.2.2 c).2 7 r = Y.2 19 (16 * r + c))
theorem weave_1 (h : Rel N T S) : ∀ (n : Nat) (v : Int) (X : TS) (Y : Sta), 0 ≤ v → v ≤ S.1 1 → S.1 1 - v < (n : Int) → WVi N v T S X Y → (∃ X' Y', T_weave_l2 T n v X = .inl (-99, X') ∧ M_weave_l7 S n v Y = .inl (-99, Y') ∧ Rel N X' Y') ∨ (∃ X' Y', T_weave_l2 T n v X = .inr X' ∧ M_weave_l7 S n v Y = .inr Y' ∧ WVi N (S.1 1) T S X' Y') := by
  have s1 := InvM_s1 h.iw
  have s3 := InvM_s3 h.iw
  intro n
  induction n with
  | zero => intro v X Y _ h1 h2; omega
  | succ n ih =>
    intro v X Y h0 h1 h2 W
    rw [T_weave_l2_s, M_weave_l7_s, h.sc.1]
    by_cases e : S.1 1 ≤ v
    · have ev : v = S.1 1 := by omega
      rw [if_pos e, if_pos e]
      rw [ev] at W
      exact Or.inr ⟨X, Y, rfl, rfl, W⟩
    · rw [if_neg e, if_neg e]
      obtain ⟨w1, w2, w3, w4⟩ := W
      have y1 : Y.1 1 = S.1 1 := w3 1 (by decide)
      have y3 : Y.1 3 = S.1 3 := w3 3 (by decide)
      obtain ⟨r1, pl, oth⟩ := s_planned w1 h0 (show v < Y.1 1 by omega)
      have sc1 := T_plannedCard_sc X v
      have rl := Rel_look r1 h0 (show v < Y.1 1 by omega)
      rcases plan_look r1 h0 (show v < Y.1 1 by omega) pl with ⟨p1, p2⟩ | ⟨p1, p2, p3, p4⟩
      · rw [if_pos p2, if_pos p1]
        exact Or.inl ⟨_, _, rfl, rfl, rl⟩
      · rw [if_neg (by omega), if_neg (by omega)]
        dsimp only
        obtain ⟨k1, k2, k3, k4⟩ := M_weave_l30_rd S v Y 31 0 (M_look Y v).2 (by omega)
        obtain ⟨-, b1, b2, -⟩ := M_look_all Y v w1.iw w1.iwt (by omega)
        generalize M_weave_l30 S v Y 31 0 (M_look Y v).2 = Z at k1 k2 k3 k4 ⊢
        have zI : InvW N Z := by
          refine ⟨by rw [k1]; exact rl.iw.1, fun k j => ?_⟩
          by_cases q : k = 19
          · subst q
            by_cases x : ∃ r, (0 ≤ r ∧ r < S.1 3) ∧ j = 16 * r + v
            · obtain ⟨r, x1, rfl⟩ := x
              rw [k3 r x1.1 x1.2]
              exact InvM_a18 rl.iw r
            · rw [k4 j (fun r x1 x2 x3 => x ⟨r, ⟨x1, x2⟩, x3⟩)]
              exact rl.iw.2 19 j
          · rw [k2 k q]
            exact rl.iw.2 k j
        refine ih (v + 1) _ Z (by omega) (by omega) (by omega) ⟨Rel_sameS rl zI (fun j hj => by rw [k1]) (fun k hk => k2 k (fun q => hk (by rw [q]; decide))), sc1.trans w2, fun j hj => by rw [k1, b1 j hj]; exact w3 j hj, fun c r q1 q2 q3 q4 => ?_⟩
        by_cases z : c = v
        · subst z
          rw [k3 r q3 q4]
          exact p4 r q3 (by omega)
        · rw [oth c z, k4 _ (fun r' x y => by omega), b2 19 (by decide)]
          exact w4 c r q1 (by omega) q3 q4
theorem T_weave_LT (v1 : Int) (X : TS) : ∀ (n : Nat) (v : Int) (Z : TS), (∀ j, (Z.2.2.2 j).2 7 = (X.2.2.2 j).2 7) → T_weave_l61 v1 X n v Z = LT (fun v => (X.2.2.2 v).2 7 v1) (X.1 0) (X.1 1) n v Z := by
  intro n
  induction n with
  | zero => intro v Z _; rfl
  | succ n ih =>
    intro v Z h
    rw [T_weave_l61_s, h v]
    show _ = if X.1 0 ≤ v then Z else LT (fun v => (X.2.2.2 v).2 7 v1) (X.1 0) (X.1 1) n (v + 1) (tC Z v (C_turnIn (Z.2.2.2 v) (X.1 1) ((X.2.2.2 v).2 7 v1)))
    rw [ih (v + 1) _ (fun j => ?_)]
    by_cases z : j = v
    · subst z
      rw [tC_at, ← h j]
      exact funext fun i => C_turnIn_ne _ _ _ 7 i (by decide) (by omega)
    · rw [tC_ne Z _ z]
      exact h j
theorem M_weave_LM (v1 : Int) (Y : Sta) {τ : Int → Int} (hτ : ∀ v, 0 ≤ v → v < Y.1 1 → τ v = Y.2 19 (16 * v1 + v)) : ∀ (n : Nat) (v : Int) (Z : Sta), 0 ≤ v → Z.2 19 = Y.2 19 → M_weave_l96 v1 Y n v Z = LM τ (Y.1 1) n v Z := by
  intro n
  induction n with
  | zero => intro v Z _ _; rfl
  | succ n ih =>
    intro v Z hv h
    rw [M_weave_l96_s]
    show _ = if Y.1 1 ≤ v then Z else LM τ (Y.1 1) n (v + 1) (M_make Z v (τ v))
    by_cases e : Y.1 1 ≤ v
    · rw [if_pos e, if_pos e]
    · rw [if_neg e, if_neg e, h, hτ v hv (by omega)]
      exact ih (v + 1) _ (by omega) ((M_make_ar Z v _ 19 (by decide)).trans h)
theorem LT_sc (τ : Int → Int) (w p : Int) : ∀ (n : Nat) (v : Int) (X : TS) (j : Nat), (LT τ w p n v X).1 j = X.1 j := by
  intro n
  induction n with
  | zero => intro v X j; rfl
  | succ n ih =>
    intro v X j
    show (if w ≤ v then X else LT τ w p n (v + 1) (tC X v (C_turnIn (X.2.2.2 v) p (τ v)))).1 j = _
    split
    · rfl
    · exact ih _ _ j
theorem weave_2 : ∀ (n : Nat) (v : Int) (X : TS) (Y : Sta), Rel N X Y → 0 ≤ v → Y.1 2 + (Y.1 3 - v) ≤ 60 → Y.1 3 - v < (n : Int) → (∀ c r, 0 ≤ c → c < Y.1 1 → 0 ≤ r → r < Y.1 3 → (X.2.2.2 c).2 7 r = Y.2 19 (16 * r + c)) → Rel N (T_weave_l51 n v X) (M_weave_l86 n v Y) := by
  intro n
  induction n with
  | zero => intro v X Y h _ _ _ _; exact h
  | succ n ih =>
    intro v X Y h h0 h1 h2 hp
    rw [T_weave_l51_s, M_weave_l86_s, h.sc.2.2.1]
    by_cases e : Y.1 3 ≤ v
    · rw [if_pos e, if_pos e]
      exact h
    · rw [if_neg e, if_neg e]
      dsimp only
      rw [T_weave_LT v X 17 0 X (fun _ => rfl), M_weave_LM v Y (τ := fun c => (X.2.2.2 c).2 7 v) (fun c q1 q2 => hp c v q1 q2 h0 (by omega)) 17 0 Y (by decide) rfl, h.sc.1, h.sc.2.1]
      obtain ⟨g1, g2, g3⟩ := pick_gen h (by omega) (τ := fun c => (X.2.2.2 c).2 7 v) (fun c q1 q2 => InvC_a7 (InvTC_c h.it c) v)
      have q1 : (mI (LM (fun c => (X.2.2.2 c).2 7 v) (Y.1 1) 17 0 Y) 2 (Y.1 2 + 1)).1 1 = Y.1 1 := by rw [← g1.sc.1]; show (LT _ _ _ 17 0 X).1 0 = _; rw [← h.sc.1]; exact LT_sc _ _ _ 17 0 X 0
      have q3 : (mI (LM (fun c => (X.2.2.2 c).2 7 v) (Y.1 1) 17 0 Y) 2 (Y.1 2 + 1)).1 3 = Y.1 3 := by rw [← g1.sc.2.2.1]; show (LT _ _ _ 17 0 X).1 2 = _; rw [← h.sc.2.2.1]; exact LT_sc _ _ _ 17 0 X 2
      refine ih (v + 1) _ _ g1 (by omega) ?_ ?_ (fun c r x1 x2 x3 x4 => ?_)
      · rw [q3]
        show Y.1 2 + 1 + (Y.1 3 - (v + 1)) ≤ 60
        omega
      · rw [q3]
        omega
      · rw [q1] at x2
        rw [q3] at x4
        show ((LT _ _ _ 17 0 X).2.2.2 c).2 7 r = (LM _ _ 17 0 Y).2 19 (16 * r + c)
        rw [g2 c, g3]
        exact hp c r x1 x2 x3 x4
theorem s_weave (h : Rel N T S) : (T_weave T).1 = (M_weave S).1 ∧ Rel N (T_weave T).2 (M_weave S).2 := by
  have s1 := InvM_s1 h.iw
  have s3 := InvM_s3 h.iw
  have sc := h.sc
  unfold T_weave M_weave
  rcases weave_1 h 17 0 T S (by decide) (by omega) (by omega) ⟨h, rfl, fun _ _ => rfl, fun c r q1 q2 => by omega⟩ with ⟨X, Y, a, b, r⟩ | ⟨X, Y, a, b, w1, w2, w3, w4⟩
  · rw [a, b]
    exact ⟨rfl, r⟩
  · rw [a, b]
    show (T_weave_r2 T X).1 = (M_weave_r7 S Y).1 ∧ Rel N (T_weave_r2 T X).2 (M_weave_r7 S Y).2
    unfold T_weave_r2 M_weave_r7
    rw [sc.2.1, sc.2.2.1]
    have y2 : Y.1 2 = S.1 2 := w3 2 (by decide)
    have y3 : Y.1 3 = S.1 3 := w3 3 (by decide)
    have y1 : Y.1 1 = S.1 1 := w3 1 (by decide)
    by_cases e : S.1 2 + S.1 3 ≤ 60
    · rw [if_pos e, if_pos e]
      have g := weave_2 31 0 X Y w1 (by decide) (by omega) (by omega) (fun c r q1 q2 q3 q4 => w4 c r q1 (by omega) q3 (by omega))
      exact ⟨g.sc.2.1, g⟩
    · rw [if_neg e, if_neg e]
      exact ⟨rfl, w1⟩
end WV
