/-! QUERIES that change nothing: the class answers as the reference -/
section QUE
variable {N : Int} {T : TS} {S : Sta}
theorem Rel.front (h : Rel N T S) {c p : Int} (c0 : 0 ≤ c) (c1 : c < S.1 1) (p0 : 0 ≤ p) (p1 : p < S.1 2) : (T.2.2.2 c).2 3 p = S.2 13 (16 * p + c) := ((h.past c0 c1) p p0 p1).1.2.1
theorem Rel.colour (h : Rel N T S) {c p : Int} (c0 : 0 ≤ c) (c1 : c < S.1 1) (p0 : 0 ≤ p) (p1 : p < S.1 2) : C_colourOn (T.2.2.2 c) p 0 = M_colourOf S p c := by
  have r := InvM_a13 h.iw (16 * p + c)
  show (T.2.2.2 c).2 1 (if (0 : Int) = 0 then (T.2.2.2 c).2 3 p else _) = _
  rw [if_pos rfl, h.front c0 c1 p0 p1, (h.now c0 c1).1 _ r.1 r.2]
  rfl
theorem Rel.behind (h : Rel N T S) {c p b : Int} (c0 : 0 ≤ c) (c1 : c < S.1 1) (p0 : 0 ≤ p) (p1 : p < S.1 2) (hb : ¬ b = 0) : C_threadOn (T.2.2.2 c) p b = S.2 14 (16 * p + c) ∧ C_colourOn (T.2.2.2 c) p b = M_behindOf S p c := by
  have r := InvM_a14 h.iw (16 * p + c)
  have e : C_threadOn (T.2.2.2 c) p b = S.2 14 (16 * p + c) := by
    unfold C_threadOn
    rw [if_neg hb, h.front c0 c1 p0 p1, ((h.past c0 c1) p p0 p1).2]
  refine ⟨e, ?_⟩
  unfold C_colourOn
  rw [e, (h.now c0 c1).1 _ r.1 r.2]
  rfl
theorem Rel.woven (h : Rel N T S) : T_wovenRows T = M_seenRows S := by
  have s := h.sc
  unfold T_wovenRows J_min M_seenRows
  rw [s.2.1, s.2.2.1]
  split <;> split <;> omega
theorem s_about (h : Rel N T S) (c w : Int) : T_about T c w = M_about S c w := by
  unfold T_about M_about
  rcases h.card c with ⟨a, b, -⟩ | ⟨a, b, c0, c1⟩
  · rw [if_pos a, if_neg (by omega)]
  · rw [if_neg (by omega), if_pos b]
    have n := (h.now c0 c1).2.2.1
    rw [h.sc.2.1, h.idle c0 c1, n.1, n.2.1, n.2.2.1, n.2.2.2]
theorem s_at (h : Rel N T S) (c p : Int) : T_at T c p = M_at S c p := by
  unfold T_at M_at
  rcases h.card c with ⟨a, b, -⟩ | ⟨a, b, c0, c1⟩
  · rw [if_pos a, if_neg (by omega)]
  · rw [if_neg (by omega), if_pos b]
    rcases in_within p 0 3 with ⟨a, b, -⟩ | ⟨a, b, p0, p1⟩
    · rw [if_pos a, if_pos b]
    · rw [if_neg (by omega), if_neg (by omega)]
      exact (h.now c0 c1).2.1 p p0 p1
theorem s_turn (h : Rel N T S) (p c : Int) : T_turn T p c = M_turn S p c := by
  unfold T_turn M_turn
  rcases h.pick p with ⟨a, b, -⟩ | ⟨a, b, p0, p1⟩
  · rw [if_pos a, if_neg (by omega)]
  · rw [if_neg (by omega), if_pos b]
    rcases h.card c with ⟨a, b, -⟩ | ⟨a, b, c0, c1⟩
    · rw [if_pos a, if_neg (by omega)]
    · rw [if_neg (by omega), if_pos b]
      exact ((h.past c0 c1) p p0 p1).1.1
theorem s_shows (h : Rel N T S) (p c b : Int) : T_shows T p c b = M_shows S p c b := by
  unfold T_shows M_shows
  rcases h.pick p with ⟨a, b, -⟩ | ⟨a, b, p0, p1⟩
  · rw [if_pos a, if_neg (by omega)]
  · rw [if_neg (by omega), if_pos b]
    rcases h.card c with ⟨a, b, -⟩ | ⟨a, b, c0, c1⟩
    · rw [if_pos a, if_neg (by omega)]
    · rw [if_neg (by omega), if_pos b]
      split
      · next e => rw [e]; exact h.colour c0 c1 p0 p1
      · next e => exact (h.behind c0 c1 p0 p1 e).2
theorem s_shown (h : Rel N T S) (p c b : Int) : T_shown T p c b = M_shown S p c b := by
  unfold T_shown M_shown
  rcases h.pick p with ⟨a, b, -⟩ | ⟨a, b, p0, p1⟩
  · rw [if_pos a, if_neg (by omega)]
  · rw [if_neg (by omega), if_pos b]
    rcases h.card c with ⟨a, b, -⟩ | ⟨a, b, c0, c1⟩
    · rw [if_pos a, if_neg (by omega)]
    · rw [if_neg (by omega), if_pos b]
      split
      · next e =>
        show (if _ = 0 then _ else _) = _
        rw [if_pos e]
        exact h.front c0 c1 p0 p1
      · next e => exact (h.behind c0 c1 p0 p1 e).1
theorem s_slant (h : Rel N T S) (p c : Int) : T_slant T p c = M_slant S p c := by
  unfold T_slant M_slant
  rcases h.pick p with ⟨a, b, -⟩ | ⟨a, b, p0, p1⟩
  · rw [if_pos a, if_neg (by omega)]
  · rw [if_neg (by omega), if_pos b]
    rcases h.card c with ⟨a, b, -⟩ | ⟨a, b, c0, c1⟩
    · rw [if_pos a, if_neg (by omega)]
    · rw [if_neg (by omega), if_pos b]
      exact ((h.past c0 c1) p p0 p1).1.2.2.1
theorem s_longest_l (h : Rel N T S) {c : Int} (c0 : 0 ≤ c) (c1 : c < S.1 1) : ∀ (n : Nat) (v2 v3 v4 : Int), 0 ≤ v4 → C_longestFloat_l7 (T.2.2.2 c) (S.1 2) n v2 v3 v4 = M_longest_l22 S c n v2 v3 v4 := by
  intro n
  induction n with
  | zero => intro v2 v3 v4 _; rfl
  | succ n ih =>
    intro v2 v3 v4 h4
    rw [C_longestFloat_l7_s, M_longest_l22_s]
    split
    · rfl
    · rw [((h.past c0 c1) v4 h4 (by omega)).1.1]
      dsimp only
      generalize (if S.2 12 (16 * v4 + c) = 2 then v3 + 1 else 0) = m
      have e : J_max v2 m = (if m ≤ v2 then v2 else m) := by
        unfold J_max
        split <;> split <;> omega
      rw [e]
      exact ih _ _ _ (by omega)
theorem s_longest (h : Rel N T S) (c : Int) : T_longest T c = M_longest S c := by
  unfold T_longest M_longest
  rcases h.card c with ⟨a, b, -⟩ | ⟨a, b, c0, c1⟩
  · rw [if_pos a, if_neg (by omega)]
  · rw [if_neg (by omega), if_pos b, h.sc.2.1]
    exact s_longest_l h c0 c1 61 0 0 0 (by decide)
theorem s_many_l (h : Rel N T S) {p : Int} (v : Int) (p0 : 0 ≤ p) (p1 : p < S.1 2) : ∀ (n : Nat) (v3 v4 : Int), 0 ≤ v4 → T_many_l25 T p v n v3 v4 = M_many_l35 S p v n v3 v4 := by
  intro n
  induction n with
  | zero => intro v3 v4 _; rfl
  | succ n ih =>
    intro v3 v4 h4
    rw [T_many_l25_s, M_many_l35_s, h.sc.1]
    split
    · rfl
    · rw [h.colour h4 (by omega) p0 p1]
      dsimp only
      by_cases e : M_colourOf S p v4 = v
      · rw [if_pos e, if_pos e]
        exact ih _ _ (by omega)
      · rw [if_neg e, if_neg e, Int.add_zero]
        exact ih _ _ (by omega)
theorem s_many (h : Rel N T S) (p v : Int) : T_many T p v = M_many S p v := by
  unfold T_many M_many
  rcases h.pick p with ⟨a, b, -⟩ | ⟨a, b, p0, p1⟩
  · rw [if_pos a, if_neg (by omega)]
  · rw [if_neg (by omega), if_pos b]
    rcases in_within v 0 7 with ⟨a, b, -⟩ | ⟨a, b, -⟩
    · rw [if_pos (show T_isColour v = 0 from a), if_pos b]
    · rw [if_neg (show ¬ T_isColour v = 0 from fun q => by have q2 : T_within v 0 7 = 0 := q; omega), if_neg (by omega)]
      exact s_many_l h v p0 p1 17 0 0 (by decide)
/-! rows, repeats, mirrors -/
theorem M_isLike_l5_z (S : Sta) (p r : Int) : ∀ (n : Nat) (v4 : Int), M_isLike_l5 S p r n 0 v4 = 0 := by
  intro n
  induction n with
  | zero => intro v4; rfl
  | succ n ih =>
    intro v4
    rw [M_isLike_l5_s]
    split
    · rfl
    · exact ih _
theorem s_likeRows_l (h : Rel N T S) {p r : Int} (p0 : 0 ≤ p) (p1 : p < S.1 2) (r0 : 0 ≤ r) (r1 : r < S.1 2) : ∀ (n : Nat) (v : Int), 0 ≤ v → Sum.elim id (fun _ => T_likeRows_r2) (T_likeRows_l2 T p r n v) = M_isLike_l5 S p r n 1 v := by
  intro n
  induction n with
  | zero => intro v _; rfl
  | succ n ih =>
    intro v hv
    rw [T_likeRows_l2_s, M_isLike_l5_s, h.sc.1]
    split
    · rfl
    · rw [h.colour hv (by omega) p0 p1, h.colour hv (by omega) r0 r1]
      rw [if_neg (show ¬ (1 : Int) = 0 by decide)]
      dsimp only
      by_cases e : M_colourOf S p v = M_colourOf S r v
      · rw [if_pos e, if_pos e]
        exact ih _ (by omega)
      · rw [if_neg e, if_neg e, M_isLike_l5_z]
        rfl
theorem s_likeRows (h : Rel N T S) {p r : Int} (p0 : 0 ≤ p) (p1 : p < S.1 2) (r0 : 0 ≤ r) (r1 : r < S.1 2) : T_likeRows T p r = M_isLike S p r := s_likeRows_l h p0 p1 r0 r1 17 0 (by decide)
theorem M_isLike_comm_l (S : Sta) (p r : Int) : ∀ (n : Nat) (v3 v4 : Int), M_isLike_l5 S p r n v3 v4 = M_isLike_l5 S r p n v3 v4 := by
  intro n
  induction n with
  | zero => intro v3 v4; rfl
  | succ n ih =>
    intro v3 v4
    rw [M_isLike_l5_s, M_isLike_l5_s]
    split
    · rfl
    · dsimp only
      by_cases e : M_colourOf S p v4 = M_colourOf S r v4
      · rw [if_pos e, if_pos e.symm]
        exact ih _ _
      · rw [if_neg e, if_neg (show ¬ M_colourOf S r v4 = M_colourOf S p v4 from fun q => e q.symm)]
        exact ih _ _
theorem M_isLike_comm (S : Sta) (p r : Int) : M_isLike S p r = M_isLike S r p := M_isLike_comm_l S p r 17 1 0
theorem M_repeat_l19_z (S : Sta) (v1 : Int) : ∀ (n : Nat) (v : Int), M_repeat_l19 S v1 n 0 v = 0 := by
  intro n
  induction n with
  | zero => intro v; rfl
  | succ n ih =>
    intro v
    rw [M_repeat_l19_s]
    split
    · rfl
    · exact ih _
theorem s_repeatsBy_l (h : Rel N T S) {b : Int} (hb : 0 ≤ b) : ∀ (n : Nat) (v : Int), b ≤ v → Sum.elim id (fun _ => T_repeatsBy_r2) (T_repeatsBy_l2 T b n v) = M_repeat_l19 S b n 1 v := by
  intro n
  induction n with
  | zero => intro v _; rfl
  | succ n ih =>
    intro v hv
    rw [T_repeatsBy_l2_s, M_repeat_l19_s, h.sc.2.1]
    split
    · rfl
    · rw [s_likeRows h (by omega) (by omega) (by omega) (by omega), if_neg (show ¬ (1 : Int) = 0 by decide)]
      dsimp only
      by_cases e : M_isLike S v (v - b) = 0
      · rw [if_pos e, if_pos e, M_repeat_l19_z]
        rfl
      · rw [if_neg e, if_neg e]
        exact ih _ (by omega)
theorem s_repeatsBy (h : Rel N T S) {b : Int} (hb : 0 ≤ b) : T_repeatsBy T b = M_repeat_l19 S b 61 1 b := s_repeatsBy_l h hb 61 b (by omega)
theorem M_repeat_l19_one (S : Sta) (b : Int) (n : Nat) (v : Int) (hv : S.1 2 ≤ v) : M_repeat_l19 S b (n + 1) 1 v = 1 := by
  rw [M_repeat_l19_s, if_pos hv]
theorem s_repeat_l (h : Rel N T S) : ∀ (n : Nat) (v : Int), 1 ≤ v → v ≤ S.1 2 → S.1 2 - v < (n : Int) → Sum.elim id (fun _ => T_repeat_r2 T) (T_repeat_l2 T n v) = Sum.elim id (fun _ => M_repeat_r7) (M_repeat_l7 S n v) := by
  intro n
  induction n with
  | zero => intro v _ h1 h2; omega
  | succ n ih =>
    intro v hv h1 h2
    rw [T_repeat_l2_s, M_repeat_l7_s, h.sc.2.1, if_neg (show ¬ S.1 2 < v by omega)]
    by_cases e : S.1 2 ≤ v
    · have e2 : v = S.1 2 := by omega
      rw [if_pos e, M_repeat_l19_one S v 60 v e]
      dsimp only
      rw [if_neg (show ¬ (1 : Int) = 0 by decide)]
      show T.1 1 = v
      rw [h.sc.2.1, e2]
    · rw [if_neg e, s_repeatsBy h (by omega)]
      by_cases z : M_repeat_l19 S v 61 1 v = 0
      · rw [if_pos z]
        dsimp only
        rw [if_pos z]
        exact ih _ (by omega) (by omega) (by omega)
      · rw [if_neg z]
        dsimp only
        rw [if_neg z]
        rfl
theorem T_repeat_l2_fuel (T : TS) : ∀ (n : Nat) (v : Int), T.1 1 - v < (n : Int) → T_repeat_l2 T (n + 1) v = T_repeat_l2 T n v := by
  intro n
  induction n with
  | zero => intro v h; rw [T_repeat_l2_s, if_pos (by omega)]; rfl
  | succ n ih =>
    intro v h
    rw [T_repeat_l2_s T (n + 1) v, T_repeat_l2_s T n v]
    split
    · rfl
    · split
      · exact ih _ (by omega)
      · rfl
theorem s_repeat (h : Rel N T S) : T_repeat T = M_repeat S := by
  have s2 := InvM_s2 h.iw
  have e := h.sc.2.1
  unfold T_repeat M_repeat
  by_cases z : S.1 2 = 0
  · rw [T_repeat_l2_s, M_repeat_l7_s, if_pos (by omega), if_pos (by omega)]
    show T.1 1 = 0
    omega
  · rw [← T_repeat_l2_fuel T 61 1 (by omega)]
    exact s_repeat_l h 62 1 (by omega) (by omega) (by omega)
theorem M_is_l33_z (S : Sta) (w p : Int) : ∀ (n : Nat) (v : Int), M_is_l33 S w p n 0 v = 0 := by
  intro n
  induction n with
  | zero => intro v; rfl
  | succ n ih =>
    intro v
    rw [M_is_l33_s]
    split
    · rfl
    · exact ih _
theorem s_mirrored_l (h : Rel N T S) {p : Int} (p0 : 0 ≤ p) (p1 : p < S.1 2) : ∀ (n : Nat) (v : Int), 0 ≤ v → Sum.elim id (fun _ => T_mirroredIn_r2) (T_mirroredIn_l2 T p n v) = M_is_l33 S 0 p n 1 v := by
  intro n
  induction n with
  | zero => intro v _; rfl
  | succ n ih =>
    intro v hv
    rw [T_mirroredIn_l2_s, M_is_l33_s, h.sc.1]
    split
    · rfl
    · rw [h.colour hv (by omega) p0 p1, h.colour (by omega) (by omega) p0 p1, if_neg (show ¬ (1 : Int) = 0 by decide), if_pos rfl]
      dsimp only
      by_cases e : M_colourOf S p v = M_colourOf S p (S.1 1 - 1 - v)
      · rw [if_pos e, if_pos e]
        exact ih _ (by omega)
      · rw [if_neg e, if_neg e, M_is_l33_z]
        rfl
theorem s_likeBack_l (h : Rel N T S) {p w : Int} (p0 : 0 ≤ p) (p1 : p < S.1 2) (hw : ¬ w = 0) : ∀ (n : Nat) (v : Int), 0 ≤ v → Sum.elim id (fun _ => T_likeBackIn_r2) (T_likeBackIn_l2 T p n v) = M_is_l33 S w p n 1 v := by
  intro n
  induction n with
  | zero => intro v _; rfl
  | succ n ih =>
    intro v hv
    rw [T_likeBackIn_l2_s, M_is_l33_s, h.sc.1]
    split
    · rfl
    · rw [h.colour hv (by omega) p0 p1, (h.behind hv (by omega) p0 p1 (show ¬ (1 : Int) = 0 by decide)).2, if_neg (show ¬ (1 : Int) = 0 by decide)]
      dsimp only
      by_cases e : M_colourOf S p v = M_behindOf S p v
      · rw [if_pos e, if_pos e]
        exact ih _ (by omega)
      · rw [if_neg e, if_neg e, M_is_l33_z]
        rfl
theorem M_is_l22_z (S : Sta) (w : Int) : ∀ (n : Nat) (v : Int), M_is_l22 S w n 0 v = 0 := by
  intro n
  induction n with
  | zero => intro v; rfl
  | succ n ih =>
    intro v
    rw [M_is_l22_s]
    split
    · rfl
    · rw [M_is_l33_z]
      exact ih _
theorem s_is_l (h : Rel N T S) (w : Int) : ∀ (n : Nat) (v : Int), 0 ≤ v → Sum.elim id (fun _ => T_is_r14) (T_is_l14 T w n v) = M_is_l22 S w n 1 v := by
  intro n
  induction n with
  | zero => intro v _; rfl
  | succ n ih =>
    intro v hv
    rw [T_is_l14_s, M_is_l22_s, h.sc.2.1]
    split
    · rfl
    · by_cases w0 : w = 0
      · subst w0
        have e : T_mirroredIn T v = M_is_l33 S 0 v 17 1 0 := s_mirrored_l h hv (by omega) 17 0 (by decide)
        have o := T_mirroredIn_01 T v
        rw [if_pos rfl]
        dsimp only
        rw [← e]
        rcases o with o | o
        · rw [if_pos o, o, M_is_l22_z]
          rfl
        · rw [if_neg (by omega), o]
          exact ih _ (by omega)
      · have e : T_likeBackIn T v = M_is_l33 S w v 17 1 0 := s_likeBack_l h hv (by omega) w0 17 0 (by decide)
        have o := T_likeBackIn_01 T v
        rw [if_neg w0]
        dsimp only
        rw [← e]
        rcases o with o | o
        · rw [if_pos o, o, M_is_l22_z]
          rfl
        · rw [if_neg (by omega), o]
          exact ih _ (by omega)
theorem M_is_l22_01 (S : Sta) (w : Int) : ∀ (n : Nat) (v2 v3 : Int), (v2 = 0 ∨ v2 = 1) → (∀ (m : Nat) (p q v : Int), (q = 0 ∨ q = 1) → (M_is_l33 S w p m q v = 0 ∨ M_is_l33 S w p m q v = 1)) → (M_is_l22 S w n v2 v3 = 0 ∨ M_is_l22 S w n v2 v3 = 1) := by
  intro n
  induction n with
  | zero => intro v2 v3 h _; exact h
  | succ n ih =>
    intro v2 v3 h k
    rw [M_is_l22_s]
    split
    · exact h
    · exact ih _ _ (k 17 v3 v2 0 h) k
theorem M_is_l33_01 (S : Sta) (w p : Int) : ∀ (n : Nat) (q v : Int), (q = 0 ∨ q = 1) → (M_is_l33 S w p n q v = 0 ∨ M_is_l33 S w p n q v = 1) := by
  intro n
  induction n with
  | zero => intro q v h; exact h
  | succ n ih =>
    intro q v h
    rw [M_is_l33_s]
    split
    · exact h
    · refine ih _ _ ?_
      repeat' split
      all_goals first | exact Or.inl rfl | exact Or.inr rfl
theorem s_is (h : Rel N T S) (w : Int) : T_is T w = M_is S w := by
  unfold T_is M_is
  rcases in_within w 0 1 with ⟨a, b, -⟩ | ⟨a, b, -⟩
  · rw [if_pos a, if_pos b]
  · rw [if_neg (by omega), if_neg (by omega), s_is_l h w 61 0 (by decide)]
    have o := M_is_l22_01 S w 61 1 0 (Or.inr rfl) (fun m p q v hq => M_is_l33_01 S w p m q v hq)
    unfold M_is_r22
    rcases o with o | o
    · rw [o]; rfl
    · rw [o]; rfl
theorem M_rows_l22_z (S : Sta) (p : Int) : ∀ (n : Nat) (v : Int), M_rows_l22 S p n 0 v = 0 := by
  intro n
  induction n with
  | zero => intro v; rfl
  | succ n ih =>
    intro v
    rw [M_rows_l22_s]
    split
    · rfl
    · exact ih _
theorem s_shownAhead_l (h : Rel N T S) {p : Int} (p0 : 0 ≤ p) (p1 : p < S.1 2) : ∀ (n : Nat) (v : Int), 0 ≤ v → Sum.elim id (fun _ => T_shownAhead_r2) (T_shownAhead_l2 T p n v) = 1 - M_rows_l22 S p n 1 v := by
  intro n
  induction n with
  | zero => intro v _; rfl
  | succ n ih =>
    intro v hv
    rw [T_shownAhead_l2_s, M_rows_l22_s]
    split
    · rfl
    · rw [s_likeRows h hv (by omega) p0 p1, M_isLike_comm S v p, if_neg (show ¬ (1 : Int) = 0 by decide)]
      dsimp only
      by_cases e : M_isLike S p v = 0
      · rw [if_pos e, if_pos e]
        exact ih _ (by omega)
      · rw [if_neg e, if_neg e, M_rows_l22_z]
        rfl
theorem s_rows_l (h : Rel N T S) : ∀ (n : Nat) (v1 v2 : Int), 0 ≤ v2 → T_rows_l4 T n v1 v2 = M_rows_l9 S n v1 v2 := by
  intro n
  induction n with
  | zero => intro v1 v2 _; rfl
  | succ n ih =>
    intro v1 v2 hv
    rw [T_rows_l4_s, M_rows_l9_s, h.sc.2.1]
    split
    · rfl
    · have e : T_shownAhead T v2 = 1 - M_rows_l22 S v2 61 1 0 := s_shownAhead_l h hv (by omega) 61 0 (by decide)
      have o := T_shownAhead_01 T v2
      dsimp only
      by_cases z : M_rows_l22 S v2 61 1 0 = 0
      · rw [if_neg (by omega), if_pos z, Int.add_zero]
        exact ih _ _ (by omega)
      · rw [if_pos (by omega), if_neg z]
        exact ih _ _ (by omega)
theorem s_rows (h : Rel N T S) : T_rows T = M_rows S := s_rows_l h 61 0 0 (by decide)
/-! twists -/
theorem abs_size (v : Int) : J_abs v = M_size v := rfl
theorem s_worst_l (h : Rel N T S) : ∀ (n : Nat) (v2 v3 : Int), (0 ≤ v2 ∧ v2 < S.1 1) → 0 ≤ v3 → T_worst_l4 T n v2 v3 = M_worst_l9 S n v2 v3 ∧ (0 ≤ M_worst_l9 S n v2 v3 ∧ M_worst_l9 S n v2 v3 < S.1 1) := by
  intro n
  induction n with
  | zero => intro v2 v3 h2 _; exact ⟨rfl, h2⟩
  | succ n ih =>
    intro v2 v3 h2 h3
    rw [T_worst_l4_s, M_worst_l9_s, h.sc.1]
    by_cases e : S.1 1 ≤ v3
    · rw [if_pos e, if_pos e]
      exact ⟨rfl, h2⟩
    · rw [if_neg e, if_neg e, (h.now h2.1 h2.2).2.2.1.2.2.1, (h.now h3 (by omega)).2.2.1.2.2.1, abs_size, abs_size]
      dsimp only
      by_cases g : M_size (S.2 4 v3) ≤ M_size (S.2 4 v2)
      · rw [if_pos g]
        exact ih _ _ h2 (by omega)
      · rw [if_neg g]
        exact ih _ _ ⟨h3, by omega⟩ (by omega)
theorem s_worst (h : Rel N T S) (b : Int) : T_worst T b = M_worst S b := by
  have s1 := InvM_s1 h.iw
  have k := s_worst_l h 17 0 1 (by omega) (by decide)
  unfold T_worst M_worst T_worst_r4 M_worst_r9
  dsimp only
  rw [k.1, (h.now k.2.1 k.2.2).2.2.1.2.2.1, abs_size]
theorem M_goes_l6_z (S : Sta) (p m b : Int) : ∀ (n : Nat) (v : Int), M_goes_l6 S p m b n 0 v = 0 := by
  intro n
  induction n with
  | zero => intro v; rfl
  | succ n ih =>
    intro v
    rw [M_goes_l6_s]
    split
    · rfl
    · exact ih _
theorem s_goes_l (h : Rel N T S) (p m b : Int) : ∀ (n : Nat) (v : Int), 0 ≤ v → Sum.elim id (fun _ => T_evensOut_r3) (T_evensOut_l3 T p b m n v) = M_goes_l6 S p m b n 1 v := by
  intro n
  induction n with
  | zero => intro v _; rfl
  | succ n ih =>
    intro v hv
    rw [T_evensOut_l3_s, M_goes_l6_s, h.sc.1]
    by_cases e : S.1 1 ≤ v
    · rw [if_pos e, if_pos e]
      rfl
    · have nw := (h.now hv (by omega)).2.2.1
      have es : b * C_sense (T.2.2.2 v) = (if S.2 2 v = 0 then b else -b) := by
        unfold C_sense
        rw [nw.1]
        split
        · omega
        · omega
      rw [if_neg e, if_neg e, nw.2.1, nw.2.2.1, es, abs_size, if_neg (show ¬ (1 : Int) = 0 by decide)]
      dsimp only
      by_cases g : S.2 3 v = p
      · rw [if_pos g, if_pos g]
        by_cases q : M_size (S.2 4 v + (if S.2 2 v = 0 then b else -b)) ≤ m
        · rw [if_pos q, if_neg (by omega)]
          exact ih _ (by omega)
        · rw [if_neg q, if_pos (by omega), M_goes_l6_z]
          rfl
      · rw [if_neg g, if_neg g]
        exact ih _ (by omega)
theorem s_goes (h : Rel N T S) (p m b : Int) : T_evensOut T p b m = M_goes S p m b := s_goes_l h p m b 17 0 (by decide)
theorem s_goingOf_l (h : Rel N T S) (p m : Int) : ∀ (n : Nat) (v : Int), T_goingOf_l2 T p m n v = M_goingOf_l2 S p m n v := by
  intro n
  induction n with
  | zero => intro v; rfl
  | succ n ih =>
    intro v
    rw [T_goingOf_l2_s, M_goingOf_l2_s, s_goes h, s_goes h, ih]
theorem s_goingOf (h : Rel N T S) (p m : Int) : T_goingOf T p m = M_goingOf S p m := by
  unfold T_goingOf M_goingOf
  rw [s_goingOf_l h]
  rfl
theorem s_going (h : Rel N T S) (p m : Int) : T_going T p m = M_going S p m := by
  unfold T_going M_going
  rcases in_within p 0 3 with ⟨a, b, -⟩ | ⟨a, b, -⟩
  · rw [if_pos (show T_isPack p = 0 from a), if_pos b]
  · rw [if_neg (show ¬ T_isPack p = 0 from fun q => by have q2 : T_within p 0 3 = 0 := q; omega), if_neg (show ¬ M_in p 0 3 = 0 by omega)]
    rcases in_within m 0 60 with ⟨a, b, -⟩ | ⟨a, b, -⟩
    · rw [if_pos a, if_pos b]
    · rw [if_neg (by omega), if_neg (by omega), s_goingOf h]
theorem s_evens_l (h : Rel N T S) (m : Int) : ∀ (n : Nat) (v2 v3 : Int), T_evens_l17 T m n v2 v3 = M_evens_l24 S m n v2 v3 := by
  intro n
  induction n with
  | zero => intro v2 v3; rfl
  | succ n ih =>
    intro v2 v3
    rw [T_evens_l17_s, M_evens_l24_s, s_goingOf h]
    split
    · rfl
    · split
      · rfl
      · dsimp only
        have e : J_max v2 (J_abs (M_goingOf S v3 m)) = (if M_size (M_goingOf S v3 m) ≤ v2 then v2 else M_size (M_goingOf S v3 m)) := by
          rw [abs_size]
          unfold J_max
          split <;> split <;> omega
        rw [e]
        exact ih _ _
theorem s_evens (h : Rel N T S) (m : Int) : T_evens T m = M_evens S m := by
  unfold T_evens M_evens
  rcases in_within m 0 60 with ⟨a, b, -⟩ | ⟨a, b, -⟩
  · rw [if_pos a, if_pos b]
  · rw [if_neg (by omega), if_neg (by omega), s_evens_l h]
    rfl
end QUE
