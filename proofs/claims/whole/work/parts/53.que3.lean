/-! WRONG TURNS listed, COUNTS -/
section QUE3
variable {N : Int} {T : TS} {S : Sta}
theorem s_wl (h : Rel N T S) {c p : Int} (c0 : 0 ≤ c) (c1 : c < S.1 1) (p0 : 0 ≤ p) (p1 : p < S.1 2) : ∀ (n : Nat) (a v : Int) (X : TS), 0 ≤ v → ((a ≤ (T_listWrongTurns_l19 T c p n a v X).1) ∧ ((T_listWrongTurns_l19 T c p n a v X).2.1 = X.1 ∧ (T_listWrongTurns_l19 T c p n a v X).2.2.2 = X.2.2) ∧ (∀ j, j < a → (T_listWrongTurns_l19 T c p n a v X).2.2.1 j = X.2.1 j)) ∧ (M_wrongOf_l18 S c 0 1 p n a v = .inr (T_listWrongTurns_l19 T c p n a v X).1) ∧ (∀ i, (a ≤ i ∧ i < (T_listWrongTurns_l19 T c p n a v X).1 → M_wrongOf_l18 S c i 0 p n a v = .inl ((T_listWrongTurns_l19 T c p n a v X).2.2.1 i)) ∧ (¬ (a ≤ i ∧ i < (T_listWrongTurns_l19 T c p n a v X).1) → M_wrongOf_l18 S c i 0 p n a v = .inr (T_listWrongTurns_l19 T c p n a v X).1)) := by
  intro n
  induction n with
  | zero =>
    intro a v X _
    refine ⟨⟨Int.le_refl _, ⟨rfl, rfl⟩, fun _ _ => rfl⟩, rfl, fun i => ⟨fun q => ?_, fun _ => rfl⟩⟩
    have q2 : i < a := q.2
    omega
  | succ n ih =>
    intro a v X hv
    rw [T_listWrongTurns_l19_s]
    simp only [M_wrongOf_l18_s]
    by_cases e : 3 ≤ v
    · simp only [if_pos e]
      refine ⟨⟨Int.le_refl _, ⟨trivial, trivial⟩, fun _ _ => trivial⟩, trivial, fun i => ⟨fun q => ?_, fun _ => trivial⟩⟩
      omega
    · simp only [if_neg e, ((h.past c0 c1) p p0 p1).1.1]
      by_cases e1 : v = S.2 12 (16 * p + c)
      · simp only [if_pos e1]
        exact ih a (v + 1) X (by omega)
      · simp only [if_neg e1, s_would h c0 c1 (show 0 ≤ v ∧ v ≤ 2 by omega)]
        by_cases e2 : M_would S c p v = 0
        · simp only [if_pos e2]
          exact ih a (v + 1) X (by omega)
        · simp only [if_neg e2]
          have k := ih (a + 1) (v + 1) (tW X a (10 * p + v)) (by omega)
          obtain ⟨⟨k1, k2, k3⟩, k4, k5⟩ := k
          have ka : (T_listWrongTurns_l19 T c p n (a + 1) (v + 1) (tW X a (10 * p + v))).2.2.1 a = 10 * p + v := (k3 a (by omega)).trans (iu_same _ _ _)
          refine ⟨⟨by omega, k2, fun j hj => (k3 j (by omega)).trans (iu_ne _ _ (by omega))⟩, ?_, fun i => ?_⟩
          · rw [if_neg (show ¬ (1 : Int) = 0 by decide), ite_self]
            exact k4
          · by_cases ei : a = i
            · subst ei
              rw [if_pos rfl, if_pos trivial]
              exact ⟨fun _ => by rw [ka], fun q => absurd ⟨Int.le_refl _, by omega⟩ q⟩
            · rw [if_neg ei]
              exact ⟨fun q => (k5 i).1 ⟨by omega, q.2⟩, fun q => (k5 i).2 (fun q2 => q ⟨by omega, q2.2⟩)⟩
theorem s_wo (h : Rel N T S) {c : Int} (c0 : 0 ≤ c) (c1 : c < S.1 1) : ∀ (n : Nat) (a v : Int) (X : TS), 0 ≤ v → ((a ≤ (T_listWrongTurns_l10 T c n a v X).1) ∧ ((T_listWrongTurns_l10 T c n a v X).2.1 = X.1 ∧ (T_listWrongTurns_l10 T c n a v X).2.2.2 = X.2.2) ∧ (∀ j, j < a → (T_listWrongTurns_l10 T c n a v X).2.2.1 j = X.2.1 j)) ∧ (M_wrongOf_l6 S c 0 1 n a v = .inr (T_listWrongTurns_l10 T c n a v X).1) ∧ (∀ i, (a ≤ i ∧ i < (T_listWrongTurns_l10 T c n a v X).1 → M_wrongOf_l6 S c i 0 n a v = .inl ((T_listWrongTurns_l10 T c n a v X).2.2.1 i)) ∧ (¬ (a ≤ i ∧ i < (T_listWrongTurns_l10 T c n a v X).1) → M_wrongOf_l6 S c i 0 n a v = .inr (T_listWrongTurns_l10 T c n a v X).1)) := by
  have w := M_seenRows_sp S
  intro n
  induction n with
  | zero =>
    intro a v X _
    refine ⟨⟨Int.le_refl _, ⟨rfl, rfl⟩, fun _ _ => rfl⟩, rfl, fun i => ⟨fun q => ?_, fun _ => rfl⟩⟩
    have q2 : i < a := q.2
    omega
  | succ n ih =>
    intro a v X hv
    rw [T_listWrongTurns_l10_s, h.woven]
    simp only [M_wrongOf_l6_s]
    by_cases e : M_seenRows S ≤ v
    · simp only [if_pos e]
      refine ⟨⟨Int.le_refl _, ⟨trivial, trivial⟩, fun _ _ => trivial⟩, trivial, fun i => ⟨fun q => ?_, fun _ => trivial⟩⟩
      omega
    · simp only [if_neg e]
      have o := s_wl h c0 c1 hv (by omega) 4 a 0 X (by decide)
      generalize T_listWrongTurns_l19 T c v 4 a 0 X = Y at o ⊢
      obtain ⟨⟨o1, o2, o3⟩, o4, o5⟩ := o
      have k := ih Y.1 (v + 1) Y.2 (by omega)
      generalize T_listWrongTurns_l10 T c n Y.1 (v + 1) Y.2 = Z at k ⊢
      obtain ⟨⟨k1, k2, k3⟩, k4, k5⟩ := k
      refine ⟨⟨by omega, ⟨k2.1.trans o2.1, k2.2.trans o2.2⟩, fun j hj => (k3 j (by omega)).trans (o3 j hj)⟩, ?_, fun i => ?_⟩
      · rw [o4]; exact k4
      · by_cases x : a ≤ i ∧ i < Y.1
        · rw [(o5 i).1 x]
          refine ⟨fun q => ?_, fun q => absurd ⟨x.1, by omega⟩ q⟩
          show Sum.inl _ = _
          rw [k3 i x.2]
        · rw [(o5 i).2 x]
          exact ⟨fun q => (k5 i).1 ⟨by omega, q.2⟩, fun q => (k5 i).2 (fun q2 => q ⟨by omega, q2.2⟩)⟩
theorem Rel.tw (h : Rel N T S) {X : TS} (e1 : X.1 = T.1) (e2 : X.2.2 = T.2.2) : Rel N X S := by
  obtain ⟨x1, x2, x3⟩ := X
  have e1 : x1 = T.1 := e1
  have e2 : x3 = T.2.2 := e2
  subst e1; subst e2
  exact h
theorem s_wrongs (h : Rel N T S) (c : Int) : (T_wrongs T c).1 = M_wrongs S c ∧ Rel N (T_wrongs T c).2 S := by
  unfold T_wrongs M_wrongs
  rcases h.card c with ⟨a, b, -⟩ | ⟨a, b, c0, c1⟩
  · rw [if_pos a, if_neg (show ¬ M_noCard S c = 0 by omega)]
    exact ⟨rfl, h⟩
  · rw [if_neg (show ¬ T_isCard T c = 0 by omega), if_pos b, (h.now c0 c1).2.2.1.2.2.2]
    split
    · have k := s_wo h c0 c1 31 0 0 T (by decide)
      refine ⟨?_, h.tw k.1.2.1.1 k.1.2.1.2⟩
      unfold M_wrongOf
      rw [k.2.1]
      rfl
    · exact ⟨rfl, h⟩
theorem s_wrong (h : Rel N T S) (c i : Int) : (T_wrong T c i).1 = M_wrong S c i ∧ Rel N (T_wrong T c i).2 S := by
  unfold T_wrong M_wrong
  rcases h.card c with ⟨a, b, -⟩ | ⟨a, b, c0, c1⟩
  · rw [if_pos a, if_neg (show ¬ M_noCard S c = 0 by omega)]
    exact ⟨rfl, h⟩
  · rw [if_neg (show ¬ T_isCard T c = 0 by omega), if_pos b, (h.now c0 c1).2.2.1.2.2.2]
    split
    · have k := s_wo h c0 c1 31 0 0 T (by decide)
      have hr : Rel N (T_listWrongTurns T c).2 S := h.tw k.1.2.1.1 k.1.2.1.2
      have w := T_within_sp i 0 ((T_listWrongTurns T c).1 - 1)
      have k5 := k.2.2 i
      have k6 : (0 ≤ i ∧ i < (T_listWrongTurns T c).1 → M_wrongOf_l6 S c i 0 31 0 0 = .inl ((T_listWrongTurns T c).2.2.1 i)) ∧ (¬ (0 ≤ i ∧ i < (T_listWrongTurns T c).1) → M_wrongOf_l6 S c i 0 31 0 0 = .inr (T_listWrongTurns T c).1) := k5
      unfold M_wrongOf
      by_cases x : 0 ≤ i ∧ i < (T_listWrongTurns T c).1
      · rw [k6.1 x]
        simp only [if_neg (show ¬ T_within i 0 ((T_listWrongTurns T c).1 - 1) = 0 by omega)]
        exact ⟨rfl, hr⟩
      · rw [k6.2 x]
        simp only [if_pos (show T_within i 0 ((T_listWrongTurns T c).1 - 1) = 0 by omega)]
        exact ⟨rfl, hr⟩
    · exact ⟨rfl, h⟩
/-! counts -/
theorem s_painted_l (h : Rel N T S) {c : Int} (c0 : 0 ≤ c) (c1 : c < S.1 1) : ∀ (n : Nat) (a v : Int), 0 ≤ v → T_paintedCells_l14 T c n a v = M_count_l71 S c n a v := by
  intro n
  induction n with
  | zero => intro a v _; rfl
  | succ n ih =>
    intro a v hv
    rw [T_paintedCells_l14_s, M_count_l71_s]
    split
    · rfl
    · rw [(h.now c0 c1).2.2.2 v hv (by omega)]
      dsimp only
      by_cases e : S.2 16 (16 * v + c) = -99
      · rw [if_pos e, if_pos e, Int.add_zero]
        exact ih _ _ (by omega)
      · rw [if_neg e, if_neg e]
        exact ih _ _ (by omega)
theorem s_colours_l (h : Rel N T S) {c : Int} (c0 : 0 ≤ c) (c1 : c < S.1 1) : ∀ (n : Nat) (a v : Int), 0 ≤ v → T_unlikeColours_l14 T c n a v = M_count_l37 S c n a v := by
  intro n
  induction n with
  | zero => intro a v _; rfl
  | succ n ih =>
    intro a v hv
    rw [T_unlikeColours_l14_s, M_count_l37_s]
    split
    · rfl
    · rw [(h.now c0 c1).1 v hv (by omega)]
      exact ih _ _ (by omega)
theorem s_count_l (h : Rel N T S) : ∀ (n : Nat) (a b d v : Int), 0 ≤ v → M_count_l15 S n a b d v = (T_paintedCells_l4 T n a v, T_cardsThreadedZ_l4 T n b v, T_unlikeColours_l4 T n d v) := by
  intro n
  induction n with
  | zero => intro a b d v _; rfl
  | succ n ih =>
    intro a b d v hv
    rw [T_paintedCells_l4_s, T_cardsThreadedZ_l4_s, T_unlikeColours_l4_s, M_count_l15_s, h.sc.1]
    by_cases e : S.1 1 ≤ v
    · rw [if_pos e, if_pos e, if_pos e, if_pos e]
    · rw [if_neg e, if_neg e, if_neg e, if_neg e, s_painted_l h hv (by omega) 31 a 0 (by decide), s_colours_l h hv (by omega) 5 d 0 (by decide), (h.now hv (by omega)).2.2.1.1]
      exact ih _ _ _ _ (by omega)
theorem or_rg : ∀ a : Fin 256, ∀ c : Fin 8, 0 ≤ zi_or ((a.val : Nat) : Int) (zi_shl 1 ((c.val : Nat) : Int)) ∧ zi_or ((a.val : Nat) : Int) (zi_shl 1 ((c.val : Nat) : Int)) ≤ 255 := by decide +kernel
theorem or_rg2 {a c : Int} (ha : 0 ≤ a ∧ a ≤ 255) (hc : 0 ≤ c ∧ c ≤ 7) : 0 ≤ zi_or a (zi_shl 1 c) ∧ zi_or a (zi_shl 1 c) ≤ 255 := by
  have k := or_rg ⟨a.toNat, by omega⟩ ⟨c.toNat, by omega⟩
  have e1 : ((a.toNat : Nat) : Int) = a := by omega
  have e2 : ((c.toNat : Nat) : Int) = c := by omega
  rw [e1, e2] at k
  exact k
theorem M_count_l37_rg {N : Int} {S : Sta} (hI : InvW N S) (c : Int) : ∀ (n : Nat) (a v : Int), (0 ≤ a ∧ a ≤ 255) → 0 ≤ M_count_l37 S c n a v ∧ M_count_l37 S c n a v ≤ 255 := by
  intro n
  induction n with
  | zero => intro a v h; exact h
  | succ n ih =>
    intro a v h
    rw [M_count_l37_s]
    split
    · exact h
    · exact ih _ _ (or_rg2 h (InvM_a0 hI _))
theorem M_count_l15_rg {N : Int} {S : Sta} (hI : InvW N S) : ∀ (n : Nat) (a b d v : Int), (0 ≤ d ∧ d ≤ 255) → 0 ≤ (M_count_l15 S n a b d v).2.2 ∧ (M_count_l15 S n a b d v).2.2 ≤ 255 := by
  intro n
  induction n with
  | zero => intro a b d v h; exact h
  | succ n ih =>
    intro a b d v h
    rw [M_count_l15_s]
    split
    · exact h
    · exact ih _ _ _ _ (M_count_l37_rg hI v 5 d 0 h)
theorem bits_eq : ∀ z : Fin 256, J_bitCount ((z.val : Nat) : Int) = M_count_l122 (0, 0, ((z.val : Nat) : Int)) 9 0 0 := by decide +kernel
theorem M_count_l122_of (x y : Int × Int × Int) (e : x.2.2 = y.2.2) : ∀ (n : Nat) (a v : Int), M_count_l122 x n a v = M_count_l122 y n a v := by
  intro n
  induction n with
  | zero => intro a v; rfl
  | succ n ih =>
    intro a v
    rw [M_count_l122_s, M_count_l122_s, e, ih]
theorem s_count (h : Rel N T S) (w : Int) : T_count T w = M_count S w := by
  have k := s_count_l h 17 0 0 0 0 (by decide)
  have g := M_count_l15_rg h.iw 17 0 0 0 0 (by decide)
  rw [k] at g
  have g : 0 ≤ T_unlikeColours_l4 T 17 0 0 ∧ T_unlikeColours_l4 T 17 0 0 ≤ 255 := g
  have b := bits_eq ⟨(T_unlikeColours_l4 T 17 0 0).toNat, by omega⟩
  have eb : (((T_unlikeColours_l4 T 17 0 0).toNat : Nat) : Int) = T_unlikeColours_l4 T 17 0 0 := by omega
  rw [eb] at b
  unfold T_count M_count M_count_r15 M_count_r122
  dsimp only
  rw [k, h.sc.1, h.sc.2.1, M_count_l122_of (T_paintedCells_l4 T 17 0 0, T_cardsThreadedZ_l4 T 17 0 0, T_unlikeColours_l4 T 17 0 0) (0, 0, T_unlikeColours_l4 T 17 0 0) rfl 9 0 0, ← b]
  rfl
end QUE3
