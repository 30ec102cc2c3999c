def T_plannedCard (S : TS) (c : Int) : TS := if ((S.2.2.2 c).1 6) = 0 then (tC (tP S ((P_plan (S.2.2.1, S.2.2.2 c) (S.1 1) (S.1 2) (S.1 3)).1)) c (mI (P_plan (S.2.2.1, S.2.2.2 c) (S.1 1) (S.1 2) (S.1 3)).2 6 1)) else S
set_option maxRecDepth 100000 in
theorem c_T_plannedCard {l : Launch} {K : KK} {N : Int} (u r : Nat → Nat) (ca : Nat → Nat → Nat) (S : TS) (c : Int) (hI : InvTC N S) (hT : InvTCT S) (hp2 : 0 ≤ c ∧ c < 16) : CtA l yX2_plannedCard cX2_plannedCard 3 (.object "TurnedCards$Card") (5, 127) K [.ref (u 0), .int (iI c)] (wT K u r ca S) (ca c.toNat 0) (wT K u r ca (T_plannedCard S c)) := by
  refine ctA_of (by decide) (Nat.le_of_ble_eq_true rfl) (Or.inl ⟨_, rfl⟩) ?_
  intro x X hD hR
  have hD : ∀ S9 : TS, va_D (cx_A x) (wT K u r ca S9) := fun S9 => va_D_same hD rfl
  have hs0 := InvTC_s0 hI
  have hs1 := InvTC_s1 hI
  have hs2 := InvTC_s2 hI
  have hs3 := InvTC_s3 hI
  refine gx_aload_n X dX2_plannedCard_0 rfl 0 rfl ?_
  refine gT_band X dX2_plannedCard_1 ?_
  refine gx_iload_n X dX2_plannedCard_4 rfl 1 rfl ?_
  refine gT_card X (by omega) dX2_plannedCard_5 ?_
  refine gx_astore_n X dX2_plannedCard_6 rfl (by decide) rfl ?_
  refine gx_aload_n X dX2_plannedCard_7 rfl 0 rfl ?_
  refine gT_cg6 (v := ((S.2.2.2 c).1 6)) X (by omega) rfl dX2_plannedCard_8 ?_
  have hg8 := InvC_s6 (InvTC_c hI c)
  have J39 : ∀ (S39 : TS), S39 = (if ((S.2.2.2 c).1 6) = 0 then (tC (tP S ((P_plan (S.2.2.1, S.2.2.2 c) (S.1 1) (S.1 2) (S.1 3)).1)) c (mI (P_plan (S.2.2.1, S.2.2.2 c) (S.1 1) (S.1 2) (S.1 3)).2 6 1)) else S) → GG l (rmK (5, 127)) K x (wT K u r ca S39) 39 [(0, .ref (u 0)), (1, .int (iI c)), (2, .ref (ca c.toNat 0))] [] := by
    intro S39 e_S39
    refine gx_aload_n X dX2_plannedCard_39 rfl 2 rfl ?_
    exact gx_aret hR rfl (congrArg (fun z : TS => (wT K u r ca z)) ((show T_plannedCard S c = S39 from e_S39.symm))) dX2_plannedCard_40
  refine gx_if_ne (tgt := 39) X dX2_plannedCard_11 (by decide) (by omega) (fun hc11 => ?_) (fun hc11 => ?_)
  · refine gx_sub [1, 2, 0] rfl ?_
    exact J39 S ((if_neg hc11).symm) 
  · refine gx_aload_n X dX2_plannedCard_14 rfl 1 rfl ?_
    refine gT_planner X dX2_plannedCard_15 ?_
    refine gx_aload_n X dX2_plannedCard_18 rfl 0 rfl ?_
    refine gx_aload_n X dX2_plannedCard_19 rfl 1 rfl ?_
    refine gT_g1 (v := (S.1 1)) X rfl dX2_plannedCard_20 ?_
    refine gx_aload_n X dX2_plannedCard_23 rfl 1 rfl ?_
    refine gT_g2 (v := (S.1 2)) X rfl dX2_plannedCard_24 ?_
    refine gx_aload_n X dX2_plannedCard_27 rfl 1 rfl ?_
    refine gT_g3 (v := (S.1 3)) X rfl dX2_plannedCard_28 ?_
    refine gx_callVV (As := [.ref (ca c.toNat 0), .int (iI (S.1 1)), .int (iI (S.1 2)), .int (iI (S.1 3))]) (rest := []) X (hD _) lk_T_215 (ci := 1) rfl rfl 0 rfl (c_P_plan r (ca c.toNat) (S.2.2.1, S.2.2.2 c) (S.1 1) (S.1 2) (S.1 3) (hI.2 c) (hT c) (by omega) (by omega) (by omega)) (jn_plan K u r ca S (by omega) _ (hD _)) rfl ⟨by decide, by decide⟩ (Nat.le_of_ble_eq_true rfl) dX2_plannedCard_31 ?_
    refine gx_aload_n X dX2_plannedCard_34 rfl 0 rfl ?_
    refine gx_iconst (z := 1) X dX2_plannedCard_35 rfl ?_
    refine gT_cp6 X (hD _) (by omega) (by decide) dX2_plannedCard_36 ?_
    refine gx_eq (ws' := (wT K u r ca (tC (tP S ((P_plan (S.2.2.1, S.2.2.2 c) (S.1 1) (S.1 2) (S.1 3)).1)) c (mI (P_plan (S.2.2.1, S.2.2.2 c) (S.1 1) (S.1 2) (S.1 3)).2 6 1)))) ?_ (congrArg (wT K u r ca) (tC_upd (tP S ((P_plan (S.2.2.1, S.2.2.2 c) (S.1 1) (S.1 2) (S.1 3)).1)) c ((P_plan (S.2.2.1, S.2.2.2 c) (S.1 1) (S.1 2) (S.1 3)).2) (fun q : Sta => mI q 6 1))) rfl rfl
    refine gx_sub [1, 2, 0] rfl ?_
    exact J39 (tC (tP S ((P_plan (S.2.2.1, S.2.2.2 c) (S.1 1) (S.1 2) (S.1 3)).1)) c (mI (P_plan (S.2.2.1, S.2.2.2 c) (S.1 1) (S.1 2) (S.1 3)).2 6 1)) ((if_pos hc11).symm) 
