theorem InvP.pI1 {N : Int} {S : PS} {v : Int} (h : InvP N S) (hv : 0 ≤ v ∧ v ≤ 3) : InvP N (pI S 1 v) := ⟨h.1, h.2.1, hv, h.2.2.2⟩
theorem InvP.pI2 {N : Int} {S : PS} {v : Int} (h : InvP N S) (hv : 0 ≤ v ∧ v ≤ 1) : InvP N (pI S 2 v) := ⟨h.1, h.2.1, h.2.2.1, hv, h.2.2.2.2⟩
theorem InvP.pI3 {N : Int} {S : PS} {v : Int} (h : InvP N S) (hv : 0 ≤ v ∧ v ≤ 9) : InvP N (pI S 3 v) := ⟨h.1, h.2.1, h.2.2.1, h.2.2.2.1, hv, h.2.2.2.2.2⟩
theorem InvP.cI {N : Int} {S : PS} {j : Nat} {v : Int} (h : InvP N S) (hv : sgC N j v) : InvP N (cI S j v) := ⟨InvC.mI h.1 hv, h.2⟩
theorem InvP.cA {N : Int} {S : PS} {k : Nat} {z v : Int} (h : InvP N S) (hv : rgC N k v) : InvP N (cA S k z v) := ⟨InvC.mA h.1 hv, h.2⟩
theorem InvPT_of {S S' : PS} (e : S'.2 = S.2) (h : InvPT S) : InvPT S' := by
  show InvCT S'.2
  rw [e]
  exact h
theorem P_offer_card (S : PS) (i : Int) (s : Int64) : (P_offer S i s).2 = S.2 := by
  unfold P_offer
  split
  · split <;> rfl
  · rfl
theorem P_offerTurned_card (S : PS) (a t d : Int) : (P_offerTurned S a t d).2 = S.2 := by
  unfold P_offerTurned
  split
  · rfl
  · exact P_offer_card _ _ _
theorem P_fillEnd_l10_sp (h : Int) : ∀ (fu : Nat) (v : Int) (S : PS), v ≤ 80 → 80 - v < (fu : Int) → (P_fillEnd_l10 h fu v S).1.1 = S.1.1 ∧ (P_fillEnd_l10 h fu v S).2 = S.2 ∧ (∀ z : Int, (P_fillEnd_l10 h fu v S).1.2.1 z = if P_index h 0 0 0 + v ≤ z ∧ z < P_index h 0 0 0 + 80 then 0 else S.1.2.1 z) ∧ (∀ z : Int, (P_fillEnd_l10 h fu v S).1.2.2 z = if P_index h 0 0 0 + v ≤ z ∧ z < P_index h 0 0 0 + 80 then lI 1073741824 else S.1.2.2 z) := by
  intro fu
  induction fu with
  | zero => intro v S h1 h2; exact absurd h2 (by omega)
  | succ fu ih =>
    intro v S h1 h2
    rw [P_fillEnd_l10_s]
    by_cases c : 80 ≤ v
    · rw [if_pos c]
      exact ⟨rfl, rfl, fun z => (if_neg (by omega)).symm, fun z => (if_neg (by omega)).symm⟩
    · rw [if_neg c]
      have k := ih (v + 1) (pG (pF S (P_index h 0 0 0 + v) 0) (P_index h 0 0 0 + v) (lI 1073741824)) (by omega) (by omega)
      refine ⟨k.1, k.2.1, fun z => (k.2.2.1 z).trans ?_, fun z => (k.2.2.2 z).trans ?_⟩
      · show (if P_index h 0 0 0 + (v + 1) ≤ z ∧ z < P_index h 0 0 0 + 80 then (0 : Int) else iu S.1.2.1 (P_index h 0 0 0 + v) 0 z) = _
        unfold iu
        by_cases e : z = P_index h 0 0 0 + v
        · rw [if_neg (show ¬ (P_index h 0 0 0 + (v + 1) ≤ z ∧ z < P_index h 0 0 0 + 80) by omega), if_pos e, if_pos (show P_index h 0 0 0 + v ≤ z ∧ z < P_index h 0 0 0 + 80 by omega)]
        · rw [if_neg e]
          by_cases e2 : P_index h 0 0 0 + (v + 1) ≤ z ∧ z < P_index h 0 0 0 + 80
          · rw [if_pos e2, if_pos (show P_index h 0 0 0 + v ≤ z ∧ z < P_index h 0 0 0 + 80 by omega)]
          · rw [if_neg e2, if_neg (show ¬ (P_index h 0 0 0 + v ≤ z ∧ z < P_index h 0 0 0 + 80) by omega)]
      · show (if P_index h 0 0 0 + (v + 1) ≤ z ∧ z < P_index h 0 0 0 + 80 then lI 1073741824 else iu S.1.2.2 (P_index h 0 0 0 + v) (lI 1073741824) z) = _
        unfold iu
        by_cases e : z = P_index h 0 0 0 + v
        · rw [if_neg (show ¬ (P_index h 0 0 0 + (v + 1) ≤ z ∧ z < P_index h 0 0 0 + 80) by omega), if_pos e, if_pos (show P_index h 0 0 0 + v ≤ z ∧ z < P_index h 0 0 0 + 80 by omega)]
        · rw [if_neg e]
          by_cases e2 : P_index h 0 0 0 + (v + 1) ≤ z ∧ z < P_index h 0 0 0 + 80
          · rw [if_pos e2, if_pos (show P_index h 0 0 0 + v ≤ z ∧ z < P_index h 0 0 0 + 80 by omega)]
          · rw [if_neg e2, if_neg (show ¬ (P_index h 0 0 0 + v ≤ z ∧ z < P_index h 0 0 0 + 80) by omega)]
theorem P_fillEnd_card (S : PS) (h : Int) : (P_fillEnd S h).2 = S.2 := (P_fillEnd_l10_sp h 81 0 S (by decide) (by decide)).2.1
theorem P_fillEnd_inv {N : Int} (S : PS) (h : Int) (hI : InvP N S) (_ : 1 ≤ h ∧ h ≤ 30) : InvP N (P_fillEnd S h) := by
  have k := P_fillEnd_l10_sp h 81 0 S (by decide) (by decide)
  show InvP N (P_fillEnd_l10 h 81 0 S)
  generalize P_fillEnd_l10 h 81 0 S = Z at k ⊢
  obtain ⟨⟨a, f, g⟩, c⟩ := Z
  obtain ⟨k1, k2, k3, -⟩ := k
  have k1 : a = S.1.1 := k1
  have k2 : c = S.2 := k2
  subst a
  subst c
  refine ⟨hI.1, hI.2.1, hI.2.2.1, hI.2.2.2.1, hI.2.2.2.2.1, fun z => ?_⟩
  have q : f z = if P_index h 0 0 0 + 0 ≤ z ∧ z < P_index h 0 0 0 + 80 then 0 else S.1.2.1 z := k3 z
  show 0 ≤ f z ∧ f z ≤ 1000
  rw [q]
  split
  · omega
  · exact InvP_f hI z
theorem P_fillRow_l78_inv {N : Int} (a f v4 : Int) (S3 : PS) (v8 : Int) (S54 : PS) (ha : 0 ≤ a ∧ a < 30) (h4 : 0 ≤ v4 ∧ v4 ≤ 3) (h3 : InvP N S3) : ∀ (fu : Nat) (v : Int) (S : PS), InvP N S → (InvP N (P_fillRow_l78 a f v4 S3 v8 S54 fu v S) ∧ (P_fillRow_l78 a f v4 S3 v8 S54 fu v S).2 = S.2) := by
  intro fu
  induction fu with
  | zero => intro v S h; exact ⟨h, rfl⟩
  | succ fu ih =>
    intro v S h
    have b0 := InvP_s0 (P_offerTurned_inv _ a v4 1 (P_offerTurned_inv _ a v4 0 ((h3.pI0 (show (0 : Int) ≤ 1000 ∧ (1000 : Int) ≤ 1000 by decide)).pL (j := 0) (v := lI 0)) ha h4 (by decide)) ha h4 (by decide))
    rw [P_fillRow_l78_s]
    split
    · exact ⟨h, rfl⟩
    · refine (fun X hX => ?_ : ∀ X : PS, (InvP N X ∧ X.2 = S.2) → (InvP N (P_fillRow_l78 a f v4 S3 v8 S54 fu (v + 1) (pG (pF X (P_index a v4 v8 v) (X.1.1.1 0)) (P_index a v4 v8 v) (X.1.1.2 0))) ∧ (P_fillRow_l78 a f v4 S3 v8 S54 fu (v + 1) (pG (pF X (P_index a v4 v8 v) (X.1.1.1 0)) (P_index a v4 v8 v) (X.1.1.2 0))).2 = S.2)) _ ?_
      · have k := ih (v + 1) (pG (pF X (P_index a v4 v8 v) (X.1.1.1 0)) (P_index a v4 v8 v) (X.1.1.2 0)) ((hX.1.pF (InvP_s0 hX.1)).pG)
        exact ⟨k.1, k.2.trans hX.2⟩
      · split
        · exact ⟨(h.pI0 b0).pL, rfl⟩
        · split
          · exact ⟨(h.pI0 b0).pL, rfl⟩
          · have q := InvP_f h (P_index (a + 1) v4 v8 (v + 1))
            exact ⟨P_offer_inv _ _ _ ((h.pI0 b0).pL) (by omega), P_offer_card _ _ _⟩
theorem P_fillRow_l54_inv {N : Int} (a f v4 : Int) (S3 : PS) (ha : 0 ≤ a ∧ a < 30) (h4 : 0 ≤ v4 ∧ v4 ≤ 3) (h3 : InvP N S3) : ∀ (fu : Nat) (v : Int) (S : PS), InvP N S → (InvP N (P_fillRow_l54 a f v4 S3 fu v S) ∧ (P_fillRow_l54 a f v4 S3 fu v S).2 = S.2) := by
  intro fu
  induction fu with
  | zero => intro v S h; exact ⟨h, rfl⟩
  | succ fu ih =>
    intro v S h
    rw [P_fillRow_l54_s]
    split
    · exact ⟨h, rfl⟩
    · have o := P_fillRow_l78_inv a f v4 S3 v S ha h4 h3 11 0 S h
      have k := ih (v + 1) _ o.1
      exact ⟨k.1, k.2.trans o.2⟩
theorem P_fillRow_l3_inv {N : Int} (a f : Int) (ha : 0 ≤ a ∧ a < 30) : ∀ (fu : Nat) (v : Int) (S : PS), 0 ≤ v → InvP N S → (InvP N (P_fillRow_l3 a f fu v S) ∧ (P_fillRow_l3 a f fu v S).2 = S.2) := by
  intro fu
  induction fu with
  | zero => intro v S _ h; exact ⟨h, rfl⟩
  | succ fu ih =>
    intro v S hv h
    rw [P_fillRow_l3_s]
    split
    · exact ⟨h, rfl⟩
    · next hn =>
      have o1 := P_offerTurned_inv _ a v 0 ((h.pI0 (show (0 : Int) ≤ 1000 ∧ (1000 : Int) ≤ 1000 by decide)).pL (j := 0) (v := lI 0)) ha (by omega) (by decide)
      have o2 := P_offerTurned_inv _ a v 1 o1 ha (by omega) (by decide)
      have o := P_fillRow_l54_inv a f v S ha (by omega) h 3 0 _ o2
      have k := ih (v + 1) _ (by omega) o.1
      exact ⟨k.1, k.2.trans (o.2.trans ((P_offerTurned_card _ _ _ _).trans (P_offerTurned_card _ _ _ _)))⟩
theorem P_fillRow_inv {N : Int} (S : PS) (a f : Int) (h : InvP N S) (ha : 0 ≤ a ∧ a < 30) (_ : 0 ≤ f ∧ f ≤ 9) : InvP N (P_fillRow S a f) := (P_fillRow_l3_inv a f ha 5 0 S (by decide) h).1
theorem P_fillRow_card {N : Int} (S : PS) (a f : Int) (h : InvP N S) (ha : 0 ≤ a ∧ a < 30) : (P_fillRow S a f).2 = S.2 := (P_fillRow_l3_inv a f ha 5 0 S (by decide) h).2
theorem P_wantLeastTwist_l15_inv {N : Int} (s : Int64) (h : Int) : ∀ (fu : Nat) (v5 v6 : Int) (S : PS), InvP N S → InvP N (P_wantLeastTwist_l15 s h fu v5 v6 S) := by
  intro fu
  induction fu with
  | zero => intro v5 v6 S h; exact h
  | succ fu ih =>
    intro v5 v6 S h
    rw [P_wantLeastTwist_l15_s]
    split
    · exact h
    · refine ih _ _ _ ?_
      split
      · exact h
      · split
        · exact h
        · exact h.pL
theorem P_wantLeastTwist_inv {N : Int} (S : PS) (s : Int64) (h : Int) (hI : InvP N S) (_ : InvPT S) (_ : 0 ≤ h ∧ h ≤ 30) : InvP N (P_wantLeastTwist S s h) := P_wantLeastTwist_l15_inv s h 62 1000 (-h) _ hI.pL
theorem P_firstTurn_l25_rg (S : PS) (a : Int) : ∀ (n : Nat) (v : Int), 0 ≤ v → (∃ z, P_firstTurn_l25 S a n v = .inl z ∧ 0 ≤ z ∧ z ≤ 2) ∨ P_firstTurn_l25 S a n v = .inr () := by
  intro n
  induction n with
  | zero => intro v _; exact Or.inr rfl
  | succ n ih =>
    intro v hv
    rw [P_firstTurn_l25_s]
    split
    · exact Or.inr rfl
    · dsimp only
      repeat' split
      all_goals first | exact ih _ (by omega) | exact Or.inl ⟨v, rfl, by omega, by omega⟩
theorem P_firstTurn_rg {N : Int} (S : PS) (a : Int) (_ : InvP N S) (_ : 0 ≤ a ∧ a < 30) : 0 ≤ P_firstTurn S a ∧ P_firstTurn S a ≤ 2 := by
  rcases P_firstTurn_l25_rg S a 3 0 (by decide) with ⟨z, h, h1, h2⟩ | h
  · have e : P_firstTurn S a = z := congrArg (Sum.elim id _) h
    omega
  · have e : P_firstTurn S a = 2 := congrArg (Sum.elim id _) h
    omega
theorem P_goOn_inv {N : Int} (S : PS) (d : Int) (h : InvP N S) (hd : 0 ≤ d ∧ d ≤ 2) : InvP N (P_goOn S d) := by
  have h3 := InvP_s3 h
  have h1 := InvP_s1 h
  have r := P_roundFrom_sp (S.1.1.1 1) d
  have m := J_min_sp (S.1.1.1 3 + 1) 9
  unfold P_goOn
  split
  · exact h.pI3 (by omega)
  · exact InvP.cI (((((h.pI1 (v := P_roundFrom (S.1.1.1 1) d) (by omega)).pI2 (v := d) (by omega)).pI3 (v := 0) (by decide))).pL) (show sgC N 5 _ from trivial)
theorem C_showing_rg {N : Int} (S : Sta) (p : Int) (h : InvC N S) : 0 ≤ C_showing S p ∧ C_showing S p ≤ 3 := by
  unfold C_showing
  split
  · exact InvC_a0 h _
  · exact InvC_a3 h _
def P_plan_l10 (f : Int) : Nat → Int → PS → PS
  | 0, v5, S10 => S10
  | fu + 1, v5, S10 => if v5 < 0 then S10 else P_plan_l10 f fu (v5 + (-1)) (P_fillRow S10 v5 f)
theorem P_plan_l10_s (f : Int) (fu : Nat) (v5 : Int) (S10 : PS) : P_plan_l10 f (fu + 1) v5 S10 = (if v5 < 0 then S10 else P_plan_l10 f fu (v5 + (-1)) (P_fillRow S10 v5 f)) := rfl
def P_plan_l145 (h : Int) : Nat → Int → PS → PS
  | 0, v6, S145 => S145
  | fu + 1, v6, S145 => if h ≤ v6 then S145 else P_plan_l145 h fu (v6 + 1) (P_goOn (cA S145 7 v6 (P_firstTurn S145 v6)) (P_firstTurn S145 v6))
theorem P_plan_l145_s (h : Int) (fu : Nat) (v6 : Int) (S145 : PS) : P_plan_l145 h (fu + 1) v6 S145 = (if h ≤ v6 then S145 else P_plan_l145 h fu (v6 + 1) (P_goOn (cA S145 7 v6 (P_firstTurn S145 v6)) (P_firstTurn S145 v6))) := rfl
def P_plan_m55 (p : Int) (h : Int) (f : Int) (z10 : PS) (m55 : Int) : PS := if (z10.1.2.1 (P_index 0 0 m55 (J_min (C_idleBehind z10.2 p) f))) < 1000 then (P_plan_l145 h (31) 0 (P_wantLeastTwist (cI (cI (pI (pI (pI z10 1 0) 2 m55) 3 (J_min (C_idleBehind z10.2 p) f)) 4 (z10.1.2.1 (P_index 0 0 m55 (J_min (C_idleBehind z10.2 p) f)))) 5 (z10.2.1 2)) (z10.1.2.2 (P_index 0 0 m55 (J_min (C_idleBehind z10.2 p) f))) h)) else (cI (pI (pI (pI z10 1 0) 2 m55) 3 (J_min (C_idleBehind z10.2 p) f)) 4 (-99))
def P_plan_r10 (p : Int) (h : Int) (f : Int) (z10 : PS) : PS := P_plan_m55 p h f z10 (if (C_showing z10.2 p) = (z10.2.2 0 0) then 0 else 1)
def P_plan (S : PS) (p : Int) (h : Int) (f : Int) : PS := (fun z10 => P_plan_r10 p h f z10) (P_plan_l10 f (31) (h - 1) (P_fillEnd S h))
set_option maxRecDepth 100000 in
theorem c_P_plan {l : Launch} {K : KK} {N : Int} (r q : Nat → Nat) (S : PS) (p : Int) (h : Int) (f : Int) (hI : InvP N S) (hT : InvPT S) (hp2 : 0 ≤ p ∧ p ≤ 60) (hp3 : 1 ≤ h ∧ h ≤ 30) (hp4 : 0 ≤ f ∧ f ≤ 9) : CtV l yX1_plan cX1_plan 7 (4, 101) K [.ref (r 0), .ref (q 0), .int (iI p), .int (iI h), .int (iI f)] (wPC K r q S) (wPC K r q (P_plan S p h f)) := by
  refine ctV_of (by decide) (Nat.le_of_ble_eq_true rfl) ?_
  intro x X hD hR
  have hD : ∀ S9 : PS, va_D (cx_A x) (wPC K r q S9) := fun S9 => va_D_same hD rfl
  have hs0 := InvP_s0 hI
  have hs1 := InvP_s1 hI
  have hs2 := InvP_s2 hI
  have hs3 := InvP_s3 hI
  refine gx_aload_n X dX1_plan_0 rfl 0 rfl ?_
  refine gx_iload_n X dX1_plan_1 rfl 3 rfl ?_
  refine gx_callVV (As := [.int (iI h)]) (rest := []) X (hD _) lk_P_19 (ci := 1) rfl rfl 0 rfl (c_P_fillEnd r q S h (by omega)) jn_all rfl ⟨by decide, by decide⟩ (Nat.le_of_ble_eq_true rfl) dX1_plan_2 ?_
  have hv2 := P_fillEnd_inv S h hI (by omega)
  refine gx_iload_n X dX1_plan_5 rfl 3 rfl ?_
  refine gx_iconst (z := 1) X dX1_plan_6 rfl ?_
  refine gx_isub X dX1_plan_7 ?_
  refine gx_istore X dX1_plan_8 (by decide) rfl ?_
  have L10 : ∀ (fu : Nat) (v5 : Int) (S10 : PS), (-1 ≤ v5) → (v5 ≤ h - 1) → (InvP N S10) → (InvPT S10) → (v5 + 1) < (fu : Int) → (∀ z10 : PS, P_plan_l10 f fu v5 S10 = z10 → (InvP N z10) ∧ (InvPT z10) → GG l (rmK (4, 101)) K x (wPC K r q z10) 30 [(0, .ref (r 0)), (1, .ref (q 0)), (2, .int (iI p)), (3, .int (iI h)), (4, .int (iI f))] []) → GG l (rmK (4, 101)) K x (wPC K r q S10) 10 [(0, .ref (r 0)), (1, .ref (q 0)), (2, .int (iI p)), (3, .int (iI h)), (4, .int (iI f)), (5, .int (iI v5))] [] := by
    intro fu
    induction fu with
    | zero => intro v5 S10 hi10_0 hi10_1 hi10_2 hi10_3 hm10 K10; exact absurd hm10 (by omega)
    | succ fu ih =>
      intro v5 S10 hi10_0 hi10_1 hi10_2 hi10_3 hm10 K10
      refine gx_iload X dX1_plan_10 5 rfl ?_
      refine gx_if_lt (tgt := 30) X dX1_plan_12 (by decide) (by omega) (fun hc12 => ?_) (fun hc12 => ?_)
      · refine gx_sub [0, 1, 2, 3, 4] rfl ?_
        exact K10 S10 ((P_plan_l10_s f fu v5 S10).trans (if_pos hc12)) ⟨hi10_2, hi10_3⟩
      · refine gx_aload_n X dX1_plan_15 rfl 0 rfl ?_
        refine gx_aload_n X dX1_plan_16 rfl 1 rfl ?_
        refine gx_iload X dX1_plan_17 5 rfl ?_
        refine gx_iload X dX1_plan_19 4 rfl ?_
        refine gx_callVV (As := [.ref (q 0), .int (iI v5), .int (iI f)]) (rest := []) X (hD _) lk_P_23 (ci := 1) rfl rfl 0 rfl (c_P_fillRow r q S10 v5 f hi10_2 (by omega) (by omega)) jn_all rfl ⟨by decide, by decide⟩ (Nat.le_of_ble_eq_true rfl) dX1_plan_21 ?_
        have hv21 := P_fillRow_inv S10 v5 f hi10_2 (by omega) (by omega)
        refine gx_iinc X dX1_plan_24 5 rfl (by decide) rfl ?_
        refine gx_goto (tgt := 10) X dX1_plan_27 (by decide) ?_
        refine gx_sub [1, 2, 3, 4, 5, 0] rfl ?_
        exact ih (v5 + (-1)) (P_fillRow S10 v5 f) (by omega) (by omega) hv21 (InvPT_of (P_fillRow_card _ _ _ hi10_2 (by omega)) hi10_3) (by omega) (fun z e hx => K10 z ((P_plan_l10_s f fu v5 S10).trans ((if_neg hc12).trans e)) hx)
  refine gx_sub [1, 2, 3, 4, 5, 0] rfl ?_
  refine L10 (31) (h - 1) (P_fillEnd S h) (by omega) (by omega) hv2 (InvPT_of (P_fillEnd_card S h) hT) (by omega) (fun z10 e10 hx10 => ?_)
  refine gx_aload_n X dX1_plan_30 rfl 0 rfl ?_
  refine gx_iconst (z := 0) X dX1_plan_31 rfl ?_
  refine gP_p1 X (hD _) dX1_plan_32 ?_
  refine gx_aload_n X dX1_plan_35 rfl 0 rfl ?_
  refine gx_aload_n X dX1_plan_36 rfl 1 rfl ?_
  refine gx_iload_n X dX1_plan_37 rfl 2 rfl ?_
  refine gx_callVI (As := [.int (iI p)]) (rest := [.ref (r 0)]) X (hD _) lk_P_31 (ci := 0) rfl rfl 0 rfl (c_C_showing q z10.2 p (by omega)) (jn_r (hD _)) rfl ⟨by decide, by decide⟩ (Nat.le_of_ble_eq_true rfl) dX1_plan_38 ?_
  refine gx_aload_n X dX1_plan_41 rfl 1 rfl ?_
  refine gP_cr0 X dX1_plan_42 ?_
  refine gx_iconst (z := 0) X dX1_plan_45 rfl ?_
  refine gP_cl0 (v := (z10.2.2 0 0)) X (by omega) rfl dX1_plan_46 ?_
  have hr46 := InvC_a0 hx10.1.1 0
  have hsh := C_showing_rg z10.2 p hx10.1.1
  have J55 : ∀ (m55 : Int), m55 = (if (C_showing z10.2 p) = (z10.2.2 0 0) then 0 else 1) → GG l (rmK (4, 101)) K x (wPC K r q (pI z10 1 0)) 55 [(0, .ref (r 0)), (1, .ref (q 0)), (2, .int (iI p)), (3, .int (iI h)), (4, .int (iI f))] [.int (iI m55), .ref (r 0)] := by
    intro m55 e_m55
    refine gP_p2 X (hD _) dX1_plan_55 ?_
    refine gx_aload_n X dX1_plan_58 rfl 0 rfl ?_
    refine gx_aload_n X dX1_plan_59 rfl 1 rfl ?_
    refine gx_iload_n X dX1_plan_60 rfl 2 rfl ?_
    refine gx_callVI (As := [.int (iI p)]) (rest := [.ref (r 0)]) X (hD _) lk_P_43 (ci := 0) rfl rfl 0 rfl (c_C_idleBehind q z10.2 p hx10.1.1 (by omega)) (jn_r (hD _)) rfl ⟨by decide, by decide⟩ (Nat.le_of_ble_eq_true rfl) dX1_plan_61 ?_
    have hp61_0 := C_idleBehind_rg z10.2 p hx10.1.1 (by omega)
    refine gx_iload X dX1_plan_64 4 rfl ?_
    refine gx_callSI (As := [.int (iI (C_idleBehind z10.2 p)), .int (iI f)]) (rest := [.ref (r 0)]) X (hD _) lk_P_46 (c_J_min (C_idleBehind z10.2 p) f (by omega) (by omega)) jn_nil rfl ⟨by decide, by decide⟩ (Nat.le_of_ble_eq_true rfl) dX1_plan_66 ?_
    have hq66_0 := J_min_sp (C_idleBehind z10.2 p) f
    refine gP_p3 X (hD _) dX1_plan_69 ?_
    refine gx_iconst (z := 0) X dX1_plan_72 rfl ?_
    refine gx_aload_n X dX1_plan_73 rfl 0 rfl ?_
    refine gP_g1 (v := 0) X rfl dX1_plan_74 ?_
    refine gx_aload_n X dX1_plan_77 rfl 0 rfl ?_
    refine gP_g2 (v := m55) X rfl dX1_plan_78 ?_
    refine gx_aload_n X dX1_plan_81 rfl 0 rfl ?_
    refine gP_g3 (v := (J_min (C_idleBehind z10.2 p) f)) X rfl dX1_plan_82 ?_
    refine gx_callSI (As := [.int (iI 0), .int (iI 0), .int (iI m55), .int (iI (J_min (C_idleBehind z10.2 p) f))]) (rest := []) X (hD _) lk_P_55 (c_P_index 0 0 m55 (J_min (C_idleBehind z10.2 p) f) ) jn_nil rfl ⟨by decide, by decide⟩ (Nat.le_of_ble_eq_true rfl) dX1_plan_85 ?_
    have hq85_0 := P_index_sp 0 0 m55 (J_min (C_idleBehind z10.2 p) f)
    refine gx_istore X dX1_plan_88 (by decide) rfl ?_
    refine gx_aload_n X dX1_plan_90 rfl 1 rfl ?_
    refine gP_rF X dX1_plan_91 ?_
    refine gx_iload X dX1_plan_94 0 rfl ?_
    refine gP_lF (v := (z10.1.2.1 (P_index 0 0 m55 (J_min (C_idleBehind z10.2 p) f)))) X (by omega) rfl dX1_plan_96 ?_
    have hr96 := InvP_f hx10.1 (P_index 0 0 m55 (J_min (C_idleBehind z10.2 p) f))
    refine gx_sipush (z := 1000) X dX1_plan_97 (by decide) ?_
    refine gx_icmp_lt (tgt := 110) X dX1_plan_100 (by decide) (by omega) (fun hc100 => ?_) (fun hc100 => ?_)
    · refine gx_aload_n X dX1_plan_110 rfl 2 rfl ?_
      refine gx_aload_n X dX1_plan_111 rfl 1 rfl ?_
      refine gP_rF X dX1_plan_112 ?_
      refine gx_iload X dX1_plan_115 0 rfl ?_
      refine gP_lF (v := (z10.1.2.1 (P_index 0 0 m55 (J_min (C_idleBehind z10.2 p) f)))) X (by omega) rfl dX1_plan_117 ?_
      have hr117 := InvP_f hx10.1 (P_index 0 0 m55 (J_min (C_idleBehind z10.2 p) f))
      refine gP_cp4 X (hD _) dX1_plan_118 ?_
      refine gx_aload_n X dX1_plan_121 rfl 2 rfl ?_
      refine gx_aload_n X dX1_plan_122 rfl 2 rfl ?_
      refine gP_cg2 (v := (z10.2.1 2)) X rfl dX1_plan_123 ?_
      have hg123 := InvC_s2 hx10.2
      refine gP_cp5 X (hD _) dX1_plan_126 ?_
      refine gx_aload_n X dX1_plan_129 rfl 1 rfl ?_
      refine gx_aload_n X dX1_plan_130 rfl 2 rfl ?_
      refine gx_aload_n X dX1_plan_131 rfl 1 rfl ?_
      refine gP_rG X dX1_plan_132 ?_
      refine gx_iload X dX1_plan_135 0 rfl ?_
      refine gP_lG (v := (z10.1.2.2 (P_index 0 0 m55 (J_min (C_idleBehind z10.2 p) f)))) X (by omega) rfl dX1_plan_137 ?_
      refine gx_iload_n X dX1_plan_138 rfl 4 rfl ?_
      refine gx_callVV (As := [.ref (q 0), .long (z10.1.2.2 (P_index 0 0 m55 (J_min (C_idleBehind z10.2 p) f))), .int (iI h)]) (rest := []) X (hD _) lk_P_68 (ci := 1) rfl rfl 0 rfl (c_P_wantLeastTwist r q (cI (cI (pI (pI (pI z10 1 0) 2 m55) 3 (J_min (C_idleBehind z10.2 p) f)) 4 (z10.1.2.1 (P_index 0 0 m55 (J_min (C_idleBehind z10.2 p) f)))) 5 (z10.2.1 2)) (z10.1.2.2 (P_index 0 0 m55 (J_min (C_idleBehind z10.2 p) f))) h (InvP.cI (InvP.cI (((hx10.1.pI1 (v := 0) (by decide)).pI2 (v := m55) (by omega)).pI3 (by omega)) (show -99 ≤ _ ∧ _ ≤ 1000 from by omega)) (show sgC N 5 _ from trivial)) hx10.2 (by omega)) jn_all rfl ⟨by decide, by decide⟩ (Nat.le_of_ble_eq_true rfl) dX1_plan_139 ?_
      have hv139 := P_wantLeastTwist_inv (cI (cI (pI (pI (pI z10 1 0) 2 m55) 3 (J_min (C_idleBehind z10.2 p) f)) 4 (z10.1.2.1 (P_index 0 0 m55 (J_min (C_idleBehind z10.2 p) f)))) 5 (z10.2.1 2)) (z10.1.2.2 (P_index 0 0 m55 (J_min (C_idleBehind z10.2 p) f))) h (InvP.cI (InvP.cI (((hx10.1.pI1 (v := 0) (by decide)).pI2 (v := m55) (by omega)).pI3 (by omega)) (show -99 ≤ _ ∧ _ ≤ 1000 from by omega)) (show sgC N 5 _ from trivial)) hx10.2 (by omega)
      refine gx_iconst (z := 0) X dX1_plan_142 rfl ?_
      refine gx_istore X dX1_plan_143 (by decide) rfl ?_
      have L145 : ∀ (fu : Nat) (v6 : Int) (S145 : PS), (0 ≤ v6) → (v6 ≤ h) → (InvP N S145) → (h - v6) < (fu : Int) → (∀ z145 : PS, P_plan_l145 h fu v6 S145 = z145 → True → GG l (rmK (4, 101)) K x (wPC K r q z145) 183 [(0, .ref (r 0)), (1, .ref (q 0)), (2, .int (iI p)), (3, .int (iI h)), (4, .int (iI f)), (5, .int (iI (P_index 0 0 m55 (J_min (C_idleBehind z10.2 p) f))))] []) → GG l (rmK (4, 101)) K x (wPC K r q S145) 145 [(0, .ref (r 0)), (1, .ref (q 0)), (2, .int (iI p)), (3, .int (iI h)), (4, .int (iI f)), (5, .int (iI (P_index 0 0 m55 (J_min (C_idleBehind z10.2 p) f)))), (6, .int (iI v6))] [] := by
        intro fu
        induction fu with
        | zero => intro v6 S145 hi145_0 hi145_1 hi145_2 hm145 K145; exact absurd hm145 (by omega)
        | succ fu ih =>
          intro v6 S145 hi145_0 hi145_1 hi145_2 hm145 K145
          refine gx_iload X dX1_plan_145 6 rfl ?_
          refine gx_iload_n X dX1_plan_147 rfl 3 rfl ?_
          refine gx_icmp_ge (tgt := 183) X dX1_plan_148 (by decide) (by omega) (fun hc148 => ?_) (fun hc148 => ?_)
          · refine gx_sub [0, 1, 2, 3, 4, 5] rfl ?_
            exact K145 S145 ((P_plan_l145_s h fu v6 S145).trans (if_pos hc148)) trivial
          · refine gx_aload_n X dX1_plan_151 rfl 1 rfl ?_
            refine gP_cr7 X dX1_plan_152 ?_
            refine gx_iload X dX1_plan_155 6 rfl ?_
            refine gx_aload_n X dX1_plan_157 rfl 0 rfl ?_
            refine gx_aload_n X dX1_plan_158 rfl 1 rfl ?_
            refine gx_iload X dX1_plan_159 6 rfl ?_
            refine gx_callVI (As := [.ref (q 0), .int (iI v6)]) (rest := [.int (iI v6), .ref (q 8)]) X (hD _) lk_P_75 (ci := 1) rfl rfl 0 rfl (c_P_firstTurn r q S145 v6 hi145_2 (by omega)) jn_all rfl ⟨by decide, by decide⟩ (Nat.le_of_ble_eq_true rfl) dX1_plan_161 ?_
            have hp161_0 := P_firstTurn_rg S145 v6 hi145_2 (by omega)
            refine gP_cs7 X (hD _) (by omega) dX1_plan_164 ?_
            refine gx_aload_n X dX1_plan_165 rfl 0 rfl ?_
            refine gx_aload_n X dX1_plan_166 rfl 1 rfl ?_
            refine gx_aload_n X dX1_plan_167 rfl 1 rfl ?_
            refine gP_cr7 X dX1_plan_168 ?_
            refine gx_iload X dX1_plan_171 6 rfl ?_
            refine gP_cl7 (v := (P_firstTurn S145 v6)) X (by omega) (iu_same _ _ _) dX1_plan_173 ?_
            refine gx_callVV (As := [.ref (q 0), .int (iI (P_firstTurn S145 v6))]) (rest := []) X (hD _) lk_P_79 (ci := 1) rfl rfl 0 rfl (c_P_goOn r q (cA S145 7 v6 (P_firstTurn S145 v6)) (P_firstTurn S145 v6) (hi145_2.cA (show 0 ≤ _ ∧ _ ≤ 2 from hp161_0)) (by omega)) jn_all rfl ⟨by decide, by decide⟩ (Nat.le_of_ble_eq_true rfl) dX1_plan_174 ?_
            have hv174 := P_goOn_inv (cA S145 7 v6 (P_firstTurn S145 v6)) (P_firstTurn S145 v6) (hi145_2.cA (show 0 ≤ _ ∧ _ ≤ 2 from hp161_0)) (by omega)
            refine gx_iinc X dX1_plan_177 6 rfl (by decide) rfl ?_
            refine gx_goto (tgt := 145) X dX1_plan_180 (by decide) ?_
            refine gx_sub [1, 2, 3, 4, 5, 6, 0] rfl ?_
            exact ih (v6 + 1) (P_goOn (cA S145 7 v6 (P_firstTurn S145 v6)) (P_firstTurn S145 v6)) (by omega) (by omega) hv174 (by omega) (fun z e hx => K145 z ((P_plan_l145_s h fu v6 S145).trans ((if_neg hc148).trans e)) hx)
      refine gx_sub [2, 3, 4, 5, 6, 1, 0] rfl ?_
      refine L145 (31) 0 (P_wantLeastTwist (cI (cI (pI (pI (pI z10 1 0) 2 m55) 3 (J_min (C_idleBehind z10.2 p) f)) 4 (z10.1.2.1 (P_index 0 0 m55 (J_min (C_idleBehind z10.2 p) f)))) 5 (z10.2.1 2)) (z10.1.2.2 (P_index 0 0 m55 (J_min (C_idleBehind z10.2 p) f))) h) (by omega) (by omega) hv139 (by omega) (fun z145 e145 hx145 => ?_)
      exact gx_vret hR (congrArg (fun z : PS => (wPC K r q z)) ((show P_plan S p h f = z145 from (congrArg (fun z10 => P_plan_r10 p h f z10) e10).trans ((congrArg (fun z0 => P_plan_m55 p h f z10 z0) e_m55.symm).trans ((if_pos hc100).trans (e145)))))) dX1_plan_183
    · refine gx_aload_n X dX1_plan_103 rfl 2 rfl ?_
      refine gx_bipush (z := (-99)) X dX1_plan_104 (by decide) ?_
      refine gP_cp4 X (hD _) dX1_plan_106 ?_
      exact gx_vret hR (congrArg (fun z : PS => (wPC K r q z)) ((show P_plan S p h f = (cI (pI (pI (pI z10 1 0) 2 m55) 3 (J_min (C_idleBehind z10.2 p) f)) 4 (-99)) from (congrArg (fun z10 => P_plan_r10 p h f z10) e10).trans ((congrArg (fun z0 => P_plan_m55 p h f z10 z0) e_m55.symm).trans (if_neg hc100))))) dX1_plan_109
  refine gx_icmp_ne (tgt := 54) X dX1_plan_47 (by decide) (by omega) (fun hc47 => ?_) (fun hc47 => ?_)
  · refine gx_iconst (z := 1) X dX1_plan_54 rfl ?_
    refine gx_sub [0, 1, 2, 3, 4] rfl ?_
    exact J55 1 ((if_neg hc47).symm) 
  · refine gx_iconst (z := 0) X dX1_plan_50 rfl ?_
    refine gx_goto (tgt := 55) X dX1_plan_51 (by decide) ?_
    refine gx_sub [0, 1, 2, 3, 4] rfl ?_
    exact J55 0 ((if_pos hc47).symm) 
