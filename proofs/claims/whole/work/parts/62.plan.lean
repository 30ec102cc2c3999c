/-! THE PLANNER's way through its table is the best one -/
def dv (X : Sta) (u m : Int) : Int := J_abs (X.1 2 + u + (if X.1 0 = 0 then m else -m))
theorem dv_step {X : Sta} (hw : 0 ≤ X.1 0 ∧ X.1 0 ≤ 1) {d : Int} (hd : d = 0 ∨ d = 1) (u m : Int) : dv X (u + (if d = X.1 0 then 1 else -1)) m = dv X u (m + (if d = 0 then 1 else -1)) := by
  unfold dv
  congr 1
  rcases hd with rfl | rfl
  · by_cases e : X.1 0 = 0
    · rw [if_pos e, if_pos e, if_pos e.symm, if_pos rfl]
      omega
    · rw [if_neg e, if_neg e, if_neg (fun q => e q.symm), if_pos rfl]
      omega
  · by_cases e : X.1 0 = 0
    · rw [if_pos e, if_pos e, if_neg (by omega), if_neg (by decide)]
      omega
    · rw [if_neg e, if_neg e, if_pos (by omega), if_neg (by decide)]
      omega
theorem dv_rg (X : Sta) (u m : Int) (hu : -400 ≤ X.1 2 + u ∧ X.1 2 + u ≤ 400) (hm : -30 ≤ m ∧ m ≤ 30) : 0 ≤ dv X u m ∧ dv X u m < 1000 := by
  have r : -30 ≤ (if X.1 0 = 0 then m else -m) ∧ (if X.1 0 = 0 then m else -m) ≤ 30 := by split <;> omega
  unfold dv
  generalize (if X.1 0 = 0 then m else -m) = q at r ⊢
  have a := J_abs_sp (X.1 2 + u + q)
  omega
theorem byF_t {X : Sta} {f : Int} {B : Int → Int → Int → Int → Int → Int} {r t sh n u d : Int} (hd : ¬ d = 2) : byF X f B r t sh n u d = if C_fits X r (C_threadAfter X (P_roundFrom t d) d) = 0 then 1000000 else B (r + 1) (P_roundFrom t d) (C_threadAfter X (P_roundFrom t d) d) 0 (u + (if d = X.1 0 then 1 else -1)) := if_neg hd
theorem byF_2 {X : Sta} {f : Int} {B : Int → Int → Int → Int → Int → Int} {r t sh n u : Int} : byF X f B r t sh n u 2 = if n < f ∧ ¬ C_fits X r sh = 0 then (if B (r + 1) t sh (n + 1) u < 1000000 then B (r + 1) t sh (n + 1) u + 1000 else 1000000) else 1000000 := if_pos rfl
/-- a turn out of a lie, as one of its ways on -/
theorem Rp_turn {X : Sta} {f : Int} {k : Nat} {r t sh n i m d : Int} (hd : d = 0 ∨ d = 1) (hfit : ¬ C_fits X r (C_threadAfter X (P_roundFrom t d) d) = 0) (h : Rp X f k (r + 1) (P_roundFrom t d) (C_threadAfter X (P_roundFrom t d) d) 0 i m) : Rp X f (k + 1) r t sh n i (m + (if d = 0 then 1 else -1)) := by
  rcases hd with rfl | rfl
  · refine Or.inr (Or.inl ⟨hfit, ?_⟩)
    rw [if_pos rfl, Int.add_sub_cancel]
    exact h
  · refine Or.inr (Or.inr ⟨hfit, ?_⟩)
    rw [if_neg (by decide), show m + -1 + 1 = m by omega]
    exact h
theorem BF_Rp {X : Sta} {f : Int} (hw : 0 ≤ X.1 0 ∧ X.1 0 ≤ 1) : ∀ (k : Nat) (r t sh n u : Int), k ≤ 30 → (-400 + (k : Int) ≤ X.1 2 + u ∧ X.1 2 + u ≤ 400 - (k : Int)) → (BF X f k r t sh n u < 1000000 → ∃ i m, Rp X f k r t sh n i m ∧ BF X f k r t sh n u = 1000 * i + dv X u m) ∧ (∀ i m, Rp X f k r t sh n i m → BF X f k r t sh n u ≤ 1000 * i + dv X u m) := by
  intro k
  induction k with
  | zero =>
    intro r t sh n u _ _
    have e : ∀ i m, i = 0 → m = 0 → BF X f 0 r t sh n u = 1000 * i + dv X u m := by
      intro i m hi hm
      subst hi; subst hm
      show J_abs (X.1 2 + u) = _
      unfold dv
      rw [show X.1 2 + u + (if X.1 0 = 0 then (0 : Int) else -0) = X.1 2 + u by split <;> omega]
      omega
    exact ⟨fun _ => ⟨0, 0, ⟨rfl, rfl⟩, e 0 0 rfl rfl⟩, fun i m q => Int.le_of_eq (e i m q.1 q.2)⟩
  | succ k ih =>
    intro r t sh n u hk hu
    have b := BF_le X f k r t sh n u
    have ms : ∀ d : Int, (if d = X.1 0 then (1 : Int) else -1) = 1 ∨ (if d = X.1 0 then (1 : Int) else -1) = -1 := fun d => by
      split
      · exact Or.inl rfl
      · exact Or.inr rfl
    have tu : ∀ d : Int, (-400 + (k : Int) ≤ X.1 2 + (u + (if d = X.1 0 then 1 else -1)) ∧ X.1 2 + (u + (if d = X.1 0 then 1 else -1)) ≤ 400 - (k : Int)) := fun d => by
      rcases ms d with q | q <;> rw [q] <;> omega
    have T : ∀ d : Int, d = 0 ∨ d = 1 → byF X f (BF X f k) r t sh n u d < 1000000 → ∃ i m, Rp X f (k + 1) r t sh n i m ∧ byF X f (BF X f k) r t sh n u d = 1000 * i + dv X u m := by
      intro d hd hl
      rw [byF_t (by omega)] at hl ⊢
      by_cases e : C_fits X r (C_threadAfter X (P_roundFrom t d) d) = 0
      · rw [if_pos e] at hl
        omega
      · rw [if_neg e] at hl ⊢
        obtain ⟨i, m, q1, q2⟩ := (ih _ _ _ _ _ (by omega) (tu d)).1 hl
        refine ⟨i, m + (if d = 0 then 1 else -1), Rp_turn hd e q1, ?_⟩
        rw [q2, dv_step hw hd]
    constructor
    · intro hl
      rcases b.2.2.2.2 with e | e | e | e
      · omega
      · rw [e] at hl ⊢
        exact T 0 (Or.inl rfl) hl
      · rw [e] at hl ⊢
        exact T 1 (Or.inr rfl) hl
      · rw [e, byF_2] at hl
        rw [e, byF_2]
        by_cases c : n < f ∧ ¬ C_fits X r sh = 0
        · rw [if_pos c] at hl ⊢
          by_cases w : BF X f k (r + 1) t sh (n + 1) u < 1000000
          · rw [if_pos w]
            obtain ⟨i, m, q1, q2⟩ := (ih (r + 1) t sh (n + 1) u (by omega) (by omega)).1 w
            refine ⟨i + 1, m, Or.inl ⟨c.1, c.2, by rw [Int.add_sub_cancel]; exact q1⟩, by omega⟩
          · rw [if_neg w] at hl
            omega
        · rw [if_neg c] at hl
          omega
    · intro i m q
      have D : ∀ d : Int, d = 0 ∨ d = 1 → ¬ C_fits X r (C_threadAfter X (P_roundFrom t d) d) = 0 → ∀ m', Rp X f k (r + 1) (P_roundFrom t d) (C_threadAfter X (P_roundFrom t d) d) 0 i m' → byF X f (BF X f k) r t sh n u d ≤ 1000 * i + dv X u (m' + (if d = 0 then 1 else -1)) := by
        intro d hd hfit m' q1
        rw [byF_t (by omega), if_neg hfit]
        have x := (ih _ _ _ _ _ (by omega) (tu d)).2 i m' q1
        rw [dv_step hw hd] at x
        exact x
      rcases q with ⟨q1, q2, q3⟩ | ⟨q1, q2⟩ | ⟨q1, q2⟩
      · have x := (ih (r + 1) t sh (n + 1) u (by omega) (by omega)).2 (i - 1) m q3
        have rg := Rp_rg _ _ _ _ _ _ _ _ _ q3
        have dr := dv_rg X u m (by omega) (by omega)
        have e2 : byF X f (BF X f k) r t sh n u 2 = BF X f k (r + 1) t sh (n + 1) u + 1000 := by
          rw [byF_2, if_pos ⟨q1, q2⟩, if_pos (by omega)]
        omega
      · have x := D 0 (Or.inl rfl) q1 (m - 1) q2
        rw [if_pos rfl, Int.sub_add_cancel] at x
        omega
      · have x := D 1 (Or.inr rfl) q1 (m + 1) q2
        rw [if_neg (by decide), show m + 1 + -1 = m by omega] at x
        omega
/-- the cost of the best is a thousand times the fewest idle turns, and the least size of twist -/
theorem least_sp {X : Sta} {f : Int} (hw : 0 ≤ X.1 0 ∧ X.1 0 ≤ 1) {k : Nat} {r t sh n u F : Int} {G : Int64} (hk : k ≤ 30) (hu : -400 + (k : Int) ≤ X.1 2 + u ∧ X.1 2 + u ≤ 400 - (k : Int)) (hb : Best F G (Rp X f k r t sh n)) : (1000 ≤ F ∧ 1000000 ≤ BF X f k r t sh n u) ∨ ((0 ≤ F ∧ F ≤ 30) ∧ ∃ L, (0 ≤ L ∧ L < 1000) ∧ BF X f k r t sh n u = 1000 * F + L ∧ (∃ m, Rp X f k r t sh n F m ∧ dv X u m = L) ∧ (∀ m, Rp X f k r t sh n F m → L ≤ dv X u m)) := by
  obtain ⟨b1, b2⟩ := BF_Rp hw k r t sh n u hk hu
  rcases hb with ⟨h1, h2⟩ | ⟨h1, ⟨m0, h2⟩, h3, h4⟩
  · left
    refine ⟨h1, ?_⟩
    by_cases q : BF X f k r t sh n u < 1000000
    · obtain ⟨i, m, q1, -⟩ := b1 q
      exact absurd q1 (h2 i m)
    · omega
  · right
    have rr : ∀ i m, Rp X f k r t sh n i m → 0 ≤ dv X u m ∧ dv X u m < 1000 := fun i m q => by
      have rg := Rp_rg _ _ _ _ _ _ _ _ _ q
      exact dv_rg X u m (by omega) (by omega)
    have x := b2 F m0 h2
    have r0 := rr F m0 h2
    obtain ⟨i, m, q1, q2⟩ := b1 (by omega)
    have r1 := rr i m q1
    have i1 := h3 i m q1
    have ei : i = F := by omega
    subst ei
    exact ⟨h1, dv X u m, r1, q2, ⟨m, q1, rfl⟩, fun m' q => by have := b2 i m' q; omega⟩
/-! the least twist that is wanted -/
def WI (X : Sta) (s : Int64) (h v v5 : Int) (W : Int64) : Prop := (v5 = 1000 ∧ (∀ j : Nat, j < 64 → bL W j = false) ∧ ∀ m, -h ≤ m → m < v → bL s (30 + m).toNat = false) ∨ ((∃ m, (-h ≤ m ∧ m < v) ∧ bL s (30 + m).toNat = true ∧ dv X 0 m = v5) ∧ (∀ m, -h ≤ m → m < v → bL s (30 + m).toNat = true → v5 ≤ dv X 0 m) ∧ (∀ j : Nat, j < 64 → (bL W j = true ↔ ((-h ≤ (j : Int) - 30 ∧ (j : Int) - 30 < v) ∧ bL s j = true ∧ dv X 0 ((j : Int) - 30) = v5))))
theorem sense_mul (X : Sta) (m : Int) : J_abs (X.1 2 + C_sense X * m) = dv X 0 m := by
  unfold dv C_sense
  congr 1
  split <;> omega
theorem bit_at {v : Int} (hv : -30 ≤ v ∧ v ≤ 30) (j : Nat) (hj : j < 64) : bL (zl_shl (lI 1) (30 + v)) j = decide (j = (30 + v).toNat) := by
  have b := bL_one ⟨(30 + v).toNat, by omega⟩ ⟨j, hj⟩
  dsimp only at b
  rw [show (((30 + v).toNat : Nat) : Int) = 30 + v by omega] at b
  exact b
theorem want_l14 {X : Sta} {s : Int64} {h : Int} (hh : 0 ≤ h ∧ h ≤ 30) (hx : -60 ≤ X.1 2 ∧ X.1 2 ≤ 60) : ∀ (fu : Nat) (v5 v : Int) (S : PS), -h ≤ v → v ≤ h + 1 → h + 1 - v < (fu : Int) → S.2 = X → WI X s h v v5 (S.1.1.2 1) → ((P_wantLeastTwist_l15 s h fu v5 v S).2 = X ∧ (P_wantLeastTwist_l15 s h fu v5 v S).1.1.1 = S.1.1.1 ∧ (P_wantLeastTwist_l15 s h fu v5 v S).1.2 = S.1.2) ∧ ∃ v5', WI X s h (h + 1) v5' ((P_wantLeastTwist_l15 s h fu v5 v S).1.1.2 1) := by
  intro fu
  induction fu with
  | zero => intro v5 v S _ h1 h2; omega
  | succ fu ih =>
    intro v5 v S h0 h1 h2 hS hW
    rw [P_wantLeastTwist_l15_s]
    by_cases e : h < v
    · have ev : v = h + 1 := by omega
      rw [if_pos e]
      rw [ev] at hW
      exact ⟨⟨hS, rfl, rfl⟩, v5, hW⟩
    · rw [if_neg e]
      have hv : -30 ≤ v ∧ v ≤ 30 := by omega
      have bt := bit_at hv
      have jn : (30 + v).toNat < 64 := by omega
      have hz : zcr (s &&& zl_shl (lI 1) (30 + v)) (lI 0) = 0 ↔ bL s (30 + v).toNat = false := by
        rw [zcr_zero]
        constructor
        · intro q
          have x := q (30 + v).toNat jn
          rw [bL_and, bt _ jn, decide_eq_true rfl, Bool.and_true] at x
          exact x
        · intro q j hj
          rw [bL_and, bt j hj]
          by_cases z : j = (30 + v).toNat
          · rw [z, q, Bool.false_and]
          · rw [decide_eq_false z, Bool.and_false]
      have dr := dv_rg X 0 v (by omega) hv
      rw [hS, sense_mul]
      dsimp only
      by_cases z : zcr (s &&& zl_shl (lI 1) (30 + v)) (lI 0) = 0
      · rw [if_pos z, if_pos z]
        have z0 := hz.mp z
        refine ih v5 (v + 1) S (by omega) (by omega) (by omega) hS ?_
        rcases hW with ⟨w1, w2, w3⟩ | ⟨⟨m, w1, w2, w3⟩, w4, w5⟩
        · refine Or.inl ⟨w1, w2, fun m q1 q2 => ?_⟩
          by_cases y : m = v
          · rw [y]; exact z0
          · exact w3 m q1 (by omega)
        · refine Or.inr ⟨⟨m, by omega, w2, w3⟩, fun m' q1 q2 q3 => ?_, fun j hj => ?_⟩
          · by_cases y : m' = v
            · rw [y, z0] at q3
              exact absurd q3 (by decide)
            · exact w4 m' q1 (by omega) q3
          · rw [w5 j hj]
            constructor
            · rintro ⟨q1, q2⟩
              exact ⟨by omega, q2⟩
            · rintro ⟨q1, q2, q3⟩
              refine ⟨⟨q1.1, ?_⟩, q2, q3⟩
              by_cases y : (j : Int) - 30 = v
              · rw [show (30 + v).toNat = j by omega, q2] at z0
                exact absurd z0 (by decide)
              · omega
      · rw [if_neg z, if_neg z]
        have z1 : bL s (30 + v).toNat = true := by
          cases x : bL s (30 + v).toNat with
          | true => rfl
          | false => exact absurd (hz.mpr x) z
        by_cases y : v5 < dv X 0 v
        · rw [if_pos y, if_pos y]
          refine ih v5 (v + 1) S (by omega) (by omega) (by omega) hS ?_
          rcases hW with ⟨w1, w2, w3⟩ | ⟨⟨m, w1, w2, w3⟩, w4, w5⟩
          · omega
          · refine Or.inr ⟨⟨m, by omega, w2, w3⟩, fun m' q1 q2 q3 => ?_, fun j hj => ?_⟩
            · by_cases x : m' = v
              · rw [x]; omega
              · exact w4 m' q1 (by omega) q3
            · rw [w5 j hj]
              constructor
              · rintro ⟨q1, q2⟩
                exact ⟨by omega, q2⟩
              · rintro ⟨q1, q2, q3⟩
                refine ⟨⟨q1.1, ?_⟩, q2, q3⟩
                by_cases x : (j : Int) - 30 = v
                · rw [x] at q3
                  omega
                · omega
        · rw [if_neg y, if_neg y]
          refine ih (dv X 0 v) (v + 1) (pL S 1 _) (by omega) (by omega) (by omega) hS ?_
          show WI X s h (v + 1) (dv X 0 v) (if v5 ≤ dv X 0 v then (S.1.1.2 1) ||| (zl_shl (lI 1) (30 + v)) else (zl_shl (lI 1) (30 + v)))
          by_cases x : v5 ≤ dv X 0 v
          · have ev : v5 = dv X 0 v := by omega
            rw [if_pos x]
            rcases hW with ⟨w1, w2, w3⟩ | ⟨⟨m, w1, w2, w3⟩, w4, w5⟩
            · omega
            · refine Or.inr ⟨⟨v, by omega, z1, rfl⟩, fun m' q1 q2 q3 => ?_, fun j hj => ?_⟩
              · by_cases g : m' = v
                · rw [g]; exact Int.le_refl _
                · have := w4 m' q1 (by omega) q3
                  omega
              · rw [bL_or, Bool.or_eq_true, w5 j hj, bt j hj, decide_eq_true_iff, ev]
                constructor
                · rintro (⟨q1, q2⟩ | q)
                  · exact ⟨by omega, q2⟩
                  · rw [← q] at z1
                    rw [show (j : Int) - 30 = v by omega]
                    exact ⟨by omega, z1, rfl⟩
                · rintro ⟨q1, q2, q3⟩
                  by_cases g : (j : Int) - 30 = v
                  · exact Or.inr (by omega)
                  · exact Or.inl ⟨by omega, q2, q3⟩
          · rw [if_neg x]
            have low : ∀ m', -h ≤ m' → m' < v → bL s (30 + m').toNat = true → dv X 0 v < dv X 0 m' := by
              intro m' q1 q2 q3
              rcases hW with ⟨w1, w2, w3⟩ | ⟨-, w4, -⟩
              · rw [w3 m' q1 q2] at q3
                exact absurd q3 (by decide)
              · have := w4 m' q1 q2 q3
                omega
            refine Or.inr ⟨⟨v, by omega, z1, rfl⟩, fun m' q1 q2 q3 => ?_, fun j hj => ?_⟩
            · by_cases g : m' = v
              · rw [g]; exact Int.le_refl _
              · have := low m' q1 (by omega) q3
                omega
            · rw [bt j hj, decide_eq_true_iff]
              constructor
              · intro q
                rw [← q] at z1
                rw [show (j : Int) - 30 = v by omega]
                exact ⟨by omega, z1, rfl⟩
              · rintro ⟨q1, q2, q3⟩
                by_cases g : (j : Int) - 30 = v
                · omega
                · have := low ((j : Int) - 30) q1.1 (by omega) (by rw [show (30 + ((j : Int) - 30)).toNat = j by omega]; exact q2)
                  omega
theorem want_sp {S : PS} {s : Int64} {h : Int} {P : Int → Prop} (hh : 0 ≤ h ∧ h ≤ 30) (hx : -60 ≤ S.2.1 2 ∧ S.2.1 2 ≤ 60) (hP : ∀ m, P m → -h ≤ m ∧ m ≤ h) (hs : ∀ j : Nat, j < 64 → (bL s j = true ↔ P ((j : Int) - 30))) (he : ∃ m, P m) : ((P_wantLeastTwist S s h).2 = S.2 ∧ (P_wantLeastTwist S s h).1.1.1 = S.1.1.1 ∧ (P_wantLeastTwist S s h).1.2 = S.1.2) ∧ ∃ L, (∃ m, P m ∧ dv S.2 0 m = L) ∧ (∀ m, P m → L ≤ dv S.2 0 m) ∧ (∀ m, P m → (bL ((P_wantLeastTwist S s h).1.1.2 1) (30 + m).toNat = true ↔ dv S.2 0 m = L)) := by
  have w0 : WI S.2 s h (-h) 1000 ((pL S 1 (lI 0)).1.1.2 1) := Or.inl ⟨rfl, fun j _ => bL_zero j, fun m q1 q2 => by omega⟩
  obtain ⟨a, v5, b⟩ := want_l14 (X := S.2) (s := s) hh hx 62 1000 (-h) (pL S 1 (lI 0)) (by omega) (by omega) (by omega) rfl w0
  have a : (P_wantLeastTwist S s h).2 = S.2 ∧ (P_wantLeastTwist S s h).1.1.1 = S.1.1.1 ∧ (P_wantLeastTwist S s h).1.2 = S.1.2 := a
  have b : WI S.2 s h (h + 1) v5 ((P_wantLeastTwist S s h).1.1.2 1) := b
  refine ⟨a, v5, ?_⟩
  have sb : ∀ m, P m → bL s (30 + m).toNat = true := fun m q => by
    have r := hP m q
    rw [hs _ (by omega), show (((30 + m).toNat : Nat) : Int) - 30 = m by omega]
    exact q
  obtain ⟨m0, q0⟩ := he
  have r0 := hP m0 q0
  rcases b with ⟨-, -, w3⟩ | ⟨⟨m, w1, w2, w3⟩, w4, w5⟩
  · have := w3 m0 r0.1 (by omega)
    rw [sb m0 q0] at this
    exact absurd this (by decide)
  · refine ⟨⟨m, ?_, w3⟩, fun m' q => w4 m' (hP m' q).1 (by have := hP m' q; omega) (sb m' q), fun m' q => ?_⟩
    · have x := (hs (30 + m).toNat (by omega)).mp w2
      rw [show (((30 + m).toNat : Nat) : Int) - 30 = m by omega] at x
      exact x
    · have r := hP m' q
      rw [w5 _ (by omega), show (((30 + m').toNat : Nat) : Int) - 30 = m' by omega]
      exact ⟨fun x => x.2.2, fun x => ⟨by omega, sb m' q, x⟩⟩
