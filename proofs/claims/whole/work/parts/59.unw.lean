/-! UNWOVEN -/
theorem M_unweave_l47_rd (S : Sta) (v : Int) : ∀ (n : Nat) (w : Int) (Y : Sta), 4 - w < (n : Int) → (M_unweave_l47 S v n w Y).1 = Y.1 ∧ ∀ (k : Nat) (j : Int), (M_unweave_l47 S v n w Y).2 k j = if k = 1 ∧ (4 * v + w ≤ j ∧ j < 4 * v + 4) then Y.2 7 (4 * (16 * (S.1 2 - 1) + v) + (j - 4 * v)) else Y.2 k j := by
  intro n
  induction n with
  | zero => intro w Y h1; exact ⟨rfl, fun k j => by rw [if_neg (by omega)]; rfl⟩
  | succ n ih =>
    intro w Y h1
    rw [M_unweave_l47_s]
    by_cases e : 4 ≤ w
    · rw [if_pos e]
      exact ⟨rfl, fun k j => by rw [if_neg (by omega)]⟩
    · rw [if_neg e]
      obtain ⟨k1, k2⟩ := ih (w + 1) (mA Y 1 (4 * v + w) (Y.2 7 (4 * (16 * (S.1 2 - 1) + v) + w))) (by omega)
      refine ⟨k1, fun k j => ?_⟩
      rw [k2, mA_rd, mA_rd, if_neg (show ¬ ((7 : Nat) = 1 ∧ _) from fun q => absurd q.1 (by decide))]
      by_cases z : k = 1 ∧ (4 * v + (w + 1) ≤ j ∧ j < 4 * v + 4)
      · rw [if_pos z, if_pos (show k = 1 ∧ (4 * v + w ≤ j ∧ j < 4 * v + 4) by omega)]
      · rw [if_neg z]
        by_cases y : k = 1 ∧ j = 4 * v + w
        · rw [if_pos y, if_pos (show k = 1 ∧ (4 * v + w ≤ j ∧ j < 4 * v + 4) by omega), show j - 4 * v = w by omega]
        · rw [if_neg y, if_neg (show ¬ (k = 1 ∧ (4 * v + w ≤ j ∧ j < 4 * v + 4)) by omega)]
def M_un (S : Sta) (v : Int) (Y : Sta) : Sta := (mA (mA (mA (mA (M_unweave_l47 S v 5 0 Y) 2 v ((M_unweave_l47 S v 5 0 Y).2 8 ((16 * ((S.1 2) - 1)) + v))) 4 v ((M_unweave_l47 S v 5 0 Y).2 9 ((16 * ((S.1 2) - 1)) + v))) 5 v ((M_unweave_l47 S v 5 0 Y).2 10 ((16 * ((S.1 2) - 1)) + v))) 6 v ((M_unweave_l47 S v 5 0 Y).2 11 ((16 * ((S.1 2) - 1)) + v)))
theorem M_unweave_l27_n (S : Sta) (n : Nat) (v : Int) (Y : Sta) : M_unweave_l27 S (n + 1) v Y = if S.1 1 ≤ v then Y else M_unweave_l27 S n (v + 1) (M_un S v Y) := M_unweave_l27_s S n v Y
section UN
variable (S : Sta) (v : Int) (Y : Sta)
theorem M_un_sc : (M_un S v Y).1 = Y.1 := (M_unweave_l47_rd S v 5 0 Y (by decide)).1
theorem M_un_ne (k : Nat) (j : Int) (h1 : ¬ (k = 1 ∧ (4 * v ≤ j ∧ j < 4 * v + 4))) (h2 : ¬ ((k = 2 ∨ k = 4 ∨ k = 5 ∨ k = 6) ∧ j = v)) : (M_un S v Y).2 k j = Y.2 k j := by
  have r := (M_unweave_l47_rd S v 5 0 Y (by decide)).2
  unfold M_un
  rw [mA_rd, if_neg (by omega), mA_rd, if_neg (by omega), mA_rd, if_neg (by omega), mA_rd, if_neg (by omega), r, if_neg (by omega)]
theorem M_un_at (i : Int) (i0 : 0 ≤ i) (i1 : i ≤ 3) : (M_un S v Y).2 1 (4 * v + i) = Y.2 7 (4 * (16 * (S.1 2 - 1) + v) + i) := by
  have r := (M_unweave_l47_rd S v 5 0 Y (by decide)).2
  unfold M_un
  rw [mA_rd, if_neg (by omega), mA_rd, if_neg (by omega), mA_rd, if_neg (by omega), mA_rd, if_neg (by omega), r, if_pos (by omega), show 4 * v + i - 4 * v = i by omega]
theorem M_un_x : (M_un S v Y).2 2 v = Y.2 8 (16 * (S.1 2 - 1) + v) ∧ (M_un S v Y).2 4 v = Y.2 9 (16 * (S.1 2 - 1) + v) ∧ (M_un S v Y).2 5 v = Y.2 10 (16 * (S.1 2 - 1) + v) ∧ (M_un S v Y).2 6 v = Y.2 11 (16 * (S.1 2 - 1) + v) := by
  have r := (M_unweave_l47_rd S v 5 0 Y (by decide)).2
  have r2 : ∀ (k : Nat) (j : Int), k ≠ 1 → (M_unweave_l47 S v 5 0 Y).2 k j = Y.2 k j := fun k j hk => by rw [r, if_neg (by omega)]
  unfold M_un
  refine ⟨?_, ?_, ?_, ?_⟩
  · rw [mA_rd, if_neg (by omega), mA_rd, if_neg (by omega), mA_rd, if_neg (by omega), mA_rd, if_pos (by omega), r2 8 _ (by decide)]
  · rw [mA_rd, if_neg (by omega), mA_rd, if_neg (by omega), mA_rd, if_pos (by omega), r2 9 _ (by decide)]
  · rw [mA_rd, if_neg (by omega), mA_rd, if_pos (by omega), r2 10 _ (by decide)]
  · rw [mA_rd, if_pos (by omega), r2 11 _ (by decide)]
theorem M_un_inv {N : Int} (h : InvW N Y) : InvW N (M_un S v Y) := by
  have x := M_un_x S v Y
  refine ⟨by rw [M_un_sc]; exact h.1, fun k j => ?_⟩
  by_cases e1 : k = 1 ∧ (4 * v ≤ j ∧ j < 4 * v + 4)
  · obtain ⟨rfl, e2, e3⟩ := e1
    have q := M_un_at S v Y (j - 4 * v) (by omega) (by omega)
    rw [show 4 * v + (j - 4 * v) = j by omega] at q
    rw [q]
    exact h.2 7 _
  · by_cases e2 : (k = 2 ∨ k = 4 ∨ k = 5 ∨ k = 6) ∧ j = v
    · obtain ⟨e3, rfl⟩ := e2
      rcases e3 with rfl | rfl | rfl | rfl
      · rw [x.1]; exact h.2 8 _
      · exact trivial
      · exact trivial
      · rw [x.2.2.2]; exact h.2 11 _
    · rw [M_un_ne S v Y k j e1 e2]
      exact h.2 k j
end UN
theorem Sm_un {S Y : Sta} {c c' : Int} (h : c' ≠ c) : Sm Y (M_un S c Y) c' ∨ ¬ (0 ≤ c ∧ c < 16) ∨ ¬ (0 ≤ c' ∧ c' < 16) := by
  by_cases hc : 0 ≤ c ∧ c < 16
  · by_cases hc' : 0 ≤ c' ∧ c' < 16
    · exact Or.inl ⟨fun t a b => ⟨M_un_ne S c Y 0 _ (by omega) (by omega), M_un_ne S c Y 1 _ (by omega) (by omega)⟩, fun k a b => M_un_ne S c Y k _ (by omega) (by omega), fun r a => M_un_ne S c Y 16 _ (by omega) (by omega), fun k r a b d => M_un_ne S c Y k _ (by omega) (by omega), fun r i a b d => M_un_ne S c Y 7 _ (by omega) (by omega)⟩
    · exact Or.inr (Or.inr hc')
  · exact Or.inr (Or.inl hc)
theorem opp_rg {t : Int} (h : 0 ≤ t ∧ t ≤ 2) : 0 ≤ C_opposite t ∧ C_opposite t ≤ 2 := by
  have q := C_opposite_sp t
  omega
theorem rot_inv {t i : Int} (h : 0 ≤ t ∧ t ≤ 2) (i0 : 0 ≤ i) (i1 : i ≤ 3) : rotP t (rotP (C_opposite t) i) = i := by
  have t3 : t = 0 ∨ t = 1 ∨ t = 2 := by omega
  rcases t3 with rfl | rfl | rfl <;> rcases i4 i0 i1 with rfl | rfl | rfl | rfl <;> decide
theorem tw_opp {w t : Int} (hw : 0 ≤ w ∧ w ≤ 1) (h : 0 ≤ t ∧ t ≤ 2) : twP w (C_opposite t) = - twP w t := by
  have t3 : t = 0 ∨ t = 1 ∨ t = 2 := by omega
  have w2 : w = 0 ∨ w = 1 := by omega
  rcases t3 with rfl | rfl | rfl <;> rcases w2 with rfl | rfl <;> decide
theorem C_takeBack_rd (X : Sta) (q : Int) (hw : 0 ≤ X.1 0 ∧ X.1 0 ≤ 1) (ht : 0 ≤ X.2 2 q ∧ X.2 2 q ≤ 2) : (∀ k : Nat, k ≠ 0 → (C_takeBack X q).2 k = X.2 k) ∧ (∀ i, 0 ≤ i → i ≤ 3 → (C_takeBack X q).2 0 i = X.2 0 (if (X.1 3 - X.2 5 q) % 2 = 0 then rotP (C_opposite (X.2 2 q)) i else exP (rotP (C_opposite (X.2 2 q)) i))) ∧ (C_takeBack X q).1 0 = (if (X.1 3 - X.2 5 q) % 2 = 0 then X.1 0 else 1 - X.1 0) ∧ (C_takeBack X q).1 1 = X.1 1 ∧ (C_takeBack X q).1 2 = X.1 2 + twP (if (X.1 3 - X.2 5 q) % 2 = 0 then X.1 0 else 1 - X.1 0) (C_opposite (X.2 2 q)) ∧ (C_takeBack X q).1 3 = X.2 5 q ∧ (C_takeBack X q).1 6 = 0 := by
  have to := opp_rg ht
  unfold C_takeBack C_takeBack_m20
  by_cases e : (X.1 3 - X.2 5 q) % 2 = 0
  · simp only [if_pos e]
    have tw := C_move_tw (mI X 3 (X.2 5 q)) (C_opposite (X.2 2 q)) hw to
    refine ⟨fun k hk => C_move_ar _ _ k hk, fun i i0 i1 => C_move_at _ _ i to i0 i1, C_move_sc _ _ 0 (by decide), C_move_sc _ _ 1 (by decide), tw.1, C_move_sc _ _ 3 (by decide), tw.2⟩
  · simp only [if_neg e]
    have e2 : (C_turnOver X).2 2 = X.2 2 := C_turnOver_ar X 2 (by decide)
    have e5 : (C_turnOver X).2 5 = X.2 5 := C_turnOver_ar X 5 (by decide)
    rw [e2, e5]
    have hw2 : 0 ≤ (mI (C_turnOver X) 3 (X.2 5 q)).1 0 ∧ (mI (C_turnOver X) 3 (X.2 5 q)).1 0 ≤ 1 := by
      show 0 ≤ 1 - X.1 0 ∧ 1 - X.1 0 ≤ 1
      omega
    have tw := C_move_tw (mI (C_turnOver X) 3 (X.2 5 q)) (C_opposite (X.2 2 q)) hw2 to
    refine ⟨fun k hk => (C_move_ar _ _ k hk).trans (C_turnOver_ar X k hk), fun i i0 i1 => ?_, C_move_sc _ _ 0 (by decide), C_move_sc _ _ 1 (by decide), tw.1, C_move_sc _ _ 3 (by decide), tw.2⟩
    have rr := rotP_rg (C_opposite (X.2 2 q)) i i0 i1
    rw [C_move_at _ _ i to i0 i1, mI_ar]
    exact C_turnOver_at X _ rr.1 rr.2
/-- taken back, of the card itself -/
theorem un_own {p : Int} {X S Y : Sta} {c : Int} (h : RelP p X Y c) (hp : S.1 2 = p) (p1 : 1 ≤ p) (hc : 0 ≤ c ∧ c < 16) (hw : 0 ≤ Y.2 2 c ∧ Y.2 2 c ≤ 1) (hw0 : 0 ≤ Y.2 8 (16 * (p - 1) + c) ∧ Y.2 8 (16 * (p - 1) + c) ≤ 1) (ht : 0 ≤ Y.2 12 (16 * (p - 1) + c) ∧ Y.2 12 (16 * (p - 1) + c) ≤ 2) : RelP (p - 1) (C_takeBack X (p - 1)) (M_un S c Y) c ∧ (C_takeBack X (p - 1)).1 6 = 0 := by
  subst hp
  obtain ⟨⟨n1, n2, n3, n4⟩, hp, hch⟩ := h
  have pq := hp (S.1 2 - 1) (by omega) (by omega)
  have q : ∃ m : Nat, (S.1 2).toNat = m + 1 := ⟨(S.1 2).toNat - 1, by omega⟩
  obtain ⟨m, hm⟩ := q
  rw [hm] at hch
  have em : (m : Int) = S.1 2 - 1 := by omega
  obtain ⟨⟨l1, l2, l3, l4, l5, l6⟩, hch2⟩ := hch
  rw [em] at l1 l2 l3 l4 l5 l6 hch2
  obtain ⟨k1, k2, k3, k4, k5, k6, k7⟩ := C_takeBack_rd X (S.1 2 - 1) (by rw [n3.1]; exact hw) (by rw [pq.1.1]; exact ht)
  rw [n3.2.2.2, pq.1.2.2.2, pq.1.1] at k2
  rw [n3.2.2.2, pq.1.2.2.2, n3.1] at k3
  rw [n3.2.2.2, pq.1.2.2.2, n3.1, pq.1.1, n3.2.2.1] at k5
  rw [pq.1.2.2.2] at k6
  have w0 : (if (Y.2 6 c - Y.2 11 (16 * (S.1 2 - 1) + c)) % 2 = 0 then Y.2 2 c else 1 - Y.2 2 c) = Y.2 8 (16 * (S.1 2 - 1) + c) := by
    by_cases e : (Y.2 6 c - Y.2 11 (16 * (S.1 2 - 1) + c)) % 2 = 0
    · rw [if_pos e] at l2 ⊢
      exact l2
    · rw [if_neg e] at l2 ⊢
      omega
  rw [w0] at k3 k5
  rw [tw_opp hw0 ht] at k5
  have x := M_un_x S c Y
  have ne : ∀ (k : Nat) (j : Int), k = 0 ∨ k = 3 ∨ 7 ≤ k → (M_un S c Y).2 k j = Y.2 k j := fun k j hk => M_un_ne S c Y k j (by omega) (by omega)
  refine ⟨⟨⟨fun t a b => ?_, fun i a b => ?_, ⟨?_, ?_, ?_, ?_⟩, fun r a b => ?_⟩, fun k k0 k1' => ?_, ?_⟩, k7⟩
  · rw [k1 1 (by decide), ne 0 _ (by omega)]
    exact n1 t a b
  · rw [k2 i a b, M_un_at S c Y i a b]
    have rr := rotP_rg (C_opposite (Y.2 12 (16 * (S.1 2 - 1) + c))) i a b
    have ri := rot_inv ht a b
    by_cases e : (Y.2 6 c - Y.2 11 (16 * (S.1 2 - 1) + c)) % 2 = 0
    · rw [if_pos e, n2 _ rr.1 rr.2]
      have l := l5 _ rr.1 rr.2
      rw [if_pos e, ri] at l
      exact l
    · have ee := exP_rg (rotP (C_opposite (Y.2 12 (16 * (S.1 2 - 1) + c))) i)
      rw [if_neg e, n2 _ ee.1 ee.2]
      have l := l5 _ ee.1 ee.2
      rw [if_neg e, exP_exP _ rr.1 rr.2, ri] at l
      exact l
  · rw [k3, x.1]
  · rw [k4, ne 3 _ (by omega)]
    exact n3.2.1
  · rw [k5, x.2.1]
    omega
  · rw [k6, x.2.2.2]
  · rw [k1 6 (by decide), ne 16 _ (by omega)]
    exact n4 r a b
  · rw [k1 2 (by decide), k1 3 (by decide), k1 4 (by decide), k1 5 (by decide), ne 12 _ (by omega), ne 13 _ (by omega), ne 15 _ (by omega), ne 11 _ (by omega), ne 14 _ (by omega)]
    exact hp k k0 (by omega)
  · have en : (S.1 2 - 1).toNat = m := by omega
    rw [en, x.1, x.2.1, x.2.2.1, x.2.2.2]
    exact Ch_congr (S := Y) _ _ _ _ _ _ _ (fun k r a b _ _ => ne k _ (by omega)) (fun r i _ _ _ _ => ne 7 _ (by omega)) (fun i a b => M_un_at S c Y i a b) hch2
def PUi (N p v : Int) (T : TS) (S : Sta) (X : TS) (Y : Sta) : Prop :=
  (InvTC N X ∧ InvW N Y) ∧ (X.1 = (tI T 1 (p - 1)).1 ∧ Y.1 = (mI S 2 (p - 1)).1) ∧ (∀ c, ¬ (0 ≤ c ∧ c < v) → X.2.2.2 c = T.2.2.2 c) ∧ (∀ c, v ≤ c → c < 16 → Sm S Y c) ∧ (∀ c, 0 ≤ c → c < v → RelP (p - 1) (X.2.2.2 c) Y c ∧ (X.2.2.2 c).1 6 = 0) ∧ (∀ j, ¬ (0 ≤ j ∧ j < v) → Y.2 4 j = S.2 4 j ∧ Y.2 5 j = S.2 5 j)
theorem PU_loop {N : Int} {T : TS} {S : Sta} (h : Rel N T S) (hp : 1 ≤ S.1 2) : ∀ (n : Nat) (v : Int) (X : TS) (Y : Sta), 0 ≤ v → v ≤ S.1 1 → S.1 1 - v < (n : Int) → PUi N (S.1 2) v T S X Y → PUi N (S.1 2) (S.1 1) T S (T_unweave_l22 T n v X) (M_unweave_l27 S n v Y) := by
  have s1 := InvM_s1 h.iw
  have s2 := InvM_s2 h.iw
  intro n
  induction n with
  | zero => intro v X Y _ h1 h2; omega
  | succ n ih =>
    intro v X Y h0 h1 h2 P
    rw [T_unweave_l22_s, M_unweave_l27_n, h.sc.1]
    by_cases e : S.1 1 ≤ v
    · have ev : v = S.1 1 := by omega
      rw [if_pos e, if_pos e]
      rw [ev] at P
      exact P
    · rw [if_neg e, if_neg e, h.sc.2.1]
      obtain ⟨⟨p1, p2⟩, ⟨p3, p4⟩, p5, p6, p7, p8⟩ := P
      have sm : ∀ c', c' ≠ v → 0 ≤ c' → c' < 16 → Sm Y (M_un S v Y) c' := fun c' q q1 q2 => by
        rcases Sm_un (S := S) (Y := Y) q with k | k | k
        · exact k
        · omega
        · omega
      refine ih (v + 1) _ _ (by omega) (by omega) (by omega) ⟨⟨p1.tC (C_takeBack_inv (InvTC_c p1 v)), M_un_inv S v Y p2⟩, ⟨p3, (M_un_sc S v Y).trans p4⟩, fun c hc => ?_, fun c q1 q2 => ?_, fun c q1 q2 => ?_, fun j hj => ?_⟩
      · rw [tC_ne X _ (by omega)]
        exact p5 c (by omega)
      · exact (p6 c (by omega) q2).trans (sm c (by omega) (by omega) q2)
      · by_cases z : c = v
        · subst z
          have r := RelP_same s2.1 (p6 c (by omega) (by omega)) (h.relP h0 (by omega))
          have ex : X.2.2.2 c = T.2.2.2 c := p5 c (by omega)
          rw [tC_at, ex]
          exact un_own r rfl hp (by omega) (InvM_a2 p2 c) (InvM_a8 p2 _) (InvM_a12 p2 _)
        · have r := p7 c q1 (by omega)
          rw [tC_ne X _ z]
          exact ⟨RelP_same (by omega) (sm c z q1 (by omega)) r.1, r.2⟩
      · have k := p8 j (by omega)
        rw [M_un_ne S v Y 4 j (by omega) (by omega), M_un_ne S v Y 5 j (by omega) (by omega)]
        exact k
theorem InvW_pick2 {N : Int} {S : Sta} {v : Int} (h : InvW N S) (hv : 0 ≤ v ∧ v ≤ 60) : InvW N (mI S 2 v) := InvW_pick h hv
theorem s_unweave {N : Int} {T : TS} {S : Sta} (h : Rel N T S) (hN : N + 1 ≤ 1000) : (T_unweave T).1 = (M_unweave S).1 ∧ Rel (N + 1) (T_unweave T).2 (M_unweave S).2 := by
  have m := h.mono (M := N + 1) (by omega) hN
  have s1 := InvM_s1 h.iw
  have s2 := InvM_s2 h.iw
  have sc := h.sc
  unfold T_unweave M_unweave
  rw [sc.2.1]
  by_cases C : S.1 2 = 0
  · rw [if_pos C, if_neg (show ¬ 0 < S.1 2 by omega)]
    exact ⟨rfl, m⟩
  · rw [if_neg C, if_pos (show 0 < S.1 2 by omega)]
    unfold T_unweave_r22 M_unweave_r27
    dsimp only
    have P := PU_loop m (by omega) 17 0 (tI T 1 (S.1 2 - 1)) (mI S 2 (S.1 2 - 1)) (by decide) (by omega) (by omega) ⟨⟨m.it.tI1 (by omega), InvW_pick2 m.iw (by omega)⟩, ⟨rfl, rfl⟩, fun _ _ => rfl, fun c _ _ => Sm.rf S c, fun c q1 q2 => by omega, fun _ _ => ⟨rfl, rfl⟩⟩
    refine ⟨by rw [sc.2.1], ?_⟩
    generalize T_unweave_l22 T 17 0 (tI T 1 (S.1 2 - 1)) = X at P ⊢
    generalize M_unweave_l27 S 17 0 (mI S 2 (S.1 2 - 1)) = Y at P ⊢
    obtain ⟨⟨p1, p2⟩, ⟨p3, p4⟩, p5, p6, p7, p8⟩ := P
    have rg : ∀ c, 0 ≤ c → c < S.1 1 → (-60 ≤ Y.2 4 c ∧ Y.2 4 c ≤ 60) ∧ (0 ≤ Y.2 5 c ∧ Y.2 5 c ≤ 60) := fun c c0 c1 => by
      have k := Ch_rg _ _ _ _ _ _ _ _ (p7 c c0 c1).1.2.2
      omega
    have x0 : X.1 0 = T.1 0 := by rw [p3]; rfl
    have y2 : Y.1 2 = S.1 2 - 1 := by rw [p4]; rfl
    refine ⟨⟨p1, fun i => ?_, p2, ⟨fun j => ?_, fun j => ?_⟩⟩, ⟨?_, ?_, ?_, ?_⟩, fun c c0 c1 => ?_⟩
    · by_cases z : 0 ≤ i ∧ i < S.1 1
      · show -60 ≤ (X.2.2.2 i).1 2 ∧ (X.2.2.2 i).1 2 ≤ 60
        rw [(p7 i z.1 z.2).1.1.2.2.1.2.2.1]
        exact (rg i z.1 z.2).1
      · rw [p5 i z]
        exact h.itt i
    · by_cases z : 0 ≤ j ∧ j < S.1 1
      · exact (rg j z.1 z.2).1
      · rw [(p8 j z).1]
        exact h.iwt.1 j
    · by_cases z : 0 ≤ j ∧ j < S.1 1
      · exact (rg j z.1 z.2).2
      · rw [(p8 j z).2]
        exact h.iwt.2 j
    · rw [p3, p4]
      exact sc.1
    · rw [p3, p4]
      rfl
    · rw [p3, p4]
      exact sc.2.2.1
    · rw [p3, p4]
      exact sc.2.2.2
    · rw [x0, sc.1] at c1
      obtain ⟨r, r6⟩ := p7 c c0 c1
      unfold RelC ChN
      rw [y2]
      exact ⟨r.1, r.2.1, r.2.2, Or.inl r6⟩
/-- what the class's own contract of unweave asks for -/
theorem Rel.flipsAhead {N : Int} {T : TS} {S : Sta} (h : Rel N T S) : 0 < T.1 1 → ∀ i : Int, 0 ≤ i → i < T.1 0 → (T.2.2.2 i).2 5 (T.1 1 - 1) ≤ (T.2.2.2 i).1 3 := by
  intro p c c0 c1
  have sc := h.sc
  rw [sc.1] at c1
  rw [sc.2.1] at p ⊢
  obtain ⟨r1, r2, r3⟩ := h.relP c0 c1
  have q : ∃ m : Nat, (S.1 2).toNat = m + 1 := ⟨(S.1 2).toNat - 1, by omega⟩
  obtain ⟨m, hm⟩ := q
  rw [hm] at r3
  have em : (m : Int) = S.1 2 - 1 := by omega
  have l1 := r3.1.1
  rw [em] at l1
  rw [(r2 (S.1 2 - 1) (by omega) (by omega)).1.2.2.2, r1.2.2.1.2.2.2]
  exact l1
