def C_reset_l2  : Nat → Int → Sta → Sta
  | 0, v1, S2 => S2
  | fu + 1, v1, S2 => if 4 ≤ v1 then S2 else C_reset_l2  fu (v1 + 1) (mA (mA S2 0 v1 v1) 1 v1 v1)
theorem C_reset_l2_s  (fu : Nat) (v1 : Int) (S2 : Sta) : C_reset_l2  (fu + 1) v1 S2 = (if 4 ≤ v1 then S2 else C_reset_l2  fu (v1 + 1) (mA (mA S2 0 v1 v1) 1 v1 v1)) := rfl
def C_reset_r2 (z2 : Sta) : Sta := (mI (mI (mI (mI (mI (mW z2 6 (J_fillA 30 (z2.2 6) (-99))) 0 0) 1 0) 2 0) 3 0) 6 0)
def C_reset (S : Sta) : Sta := (fun z2 => C_reset_r2 z2) (C_reset_l2  (5) 0 S)
set_option maxRecDepth 100000 in
theorem c_C_reset {l : Launch} {K : KK} (q : Nat → Nat) (S : Sta)  : CtV l yX0_reset cX0_reset 2 (1, 23) K [.ref (q 0)] (wC K q S) (wC K q (C_reset S)) := by
  refine ctV_of (by decide) (Nat.le_of_ble_eq_true rfl) ?_
  intro x X hD hR
  have hD : ∀ S9 : Sta, va_D (cx_A x) (wC K q S9) := fun S9 => va_D_same hD rfl
  refine gx_iconst (z := 0) X dX0_reset_0 rfl ?_
  refine gx_istore_n X dX0_reset_1 rfl (by decide) rfl ?_
  have L2 : ∀ (fu : Nat) (v1 : Int) (S2 : Sta), (0 ≤ v1) → (v1 ≤ 4) → (4 - v1) < (fu : Int) → (∀ z2 : Sta, C_reset_l2  fu v1 S2 = z2 → True → GG l (rmK (1, 23)) K x (wC K q z2) 27 [(0, .ref (q 0))] []) → GG l (rmK (1, 23)) K x (wC K q S2) 2 [(0, .ref (q 0)), (1, .int (iI v1))] [] := by
    intro fu
    induction fu with
    | zero => intro v1 S2 hi2_0 hi2_1 hm2 K2; exact absurd hm2 (by omega)
    | succ fu ih =>
      intro v1 S2 hi2_0 hi2_1 hm2 K2
      refine gx_iload_n X dX0_reset_2 rfl 1 rfl ?_
      refine gx_iconst (z := 4) X dX0_reset_3 rfl ?_
      refine gx_icmp_ge (tgt := 27) X dX0_reset_4 (by decide) (by omega) (fun hc4 => ?_) (fun hc4 => ?_)
      · refine gx_sub [0] rfl ?_
        exact K2 S2 ((C_reset_l2_s  fu v1 S2).trans (if_pos hc4)) trivial
      · refine gx_aload_n X dX0_reset_7 rfl 0 rfl ?_
        refine gC_r0 X dX0_reset_8 ?_
        refine gx_iload_n X dX0_reset_11 rfl 1 rfl ?_
        refine gx_iload_n X dX0_reset_12 rfl 1 rfl ?_
        refine gC_s0 X (hD _) (by omega) dX0_reset_13 ?_
        refine gx_aload_n X dX0_reset_14 rfl 0 rfl ?_
        refine gC_r1 X dX0_reset_15 ?_
        refine gx_iload_n X dX0_reset_18 rfl 1 rfl ?_
        refine gx_iload_n X dX0_reset_19 rfl 1 rfl ?_
        refine gC_s1 X (hD _) (by omega) dX0_reset_20 ?_
        refine gx_iinc X dX0_reset_21 1 rfl (by decide) rfl ?_
        refine gx_goto (tgt := 2) X dX0_reset_24 (by decide) ?_
        refine gx_sub [1, 0] rfl ?_
        exact ih (v1 + 1) (mA (mA S2 0 v1 v1) 1 v1 v1) (by omega) (by omega) (by omega) (fun z e hx => K2 z ((C_reset_l2_s  fu v1 S2).trans ((if_neg hc4).trans e)) hx)
  refine gx_sub [1, 0] rfl ?_
  refine L2 (5) 0 S (by omega) (by omega) (by omega) (fun z2 e2 hx2 => ?_)
  refine gx_aload_n X dX0_reset_27 rfl 0 rfl ?_
  refine gC_r6 X dX0_reset_28 ?_
  refine gx_bipush (z := (-99)) X dX0_reset_31 (by decide) ?_
  refine gx_callSV (As := [.ref (q 7), .int (iI (-99))]) (rest := []) X (hD _) lk_C_36 (c_J_fillA (q 7) 30 (z2.2 6) (-99) (by decide)) (jn_cell (i := 7) rfl (hD _)) rfl ⟨by decide, by decide⟩ (Nat.le_of_ble_eq_true rfl) dX0_reset_33 ?_
  refine gx_eq (ws' := (wC K q (mW z2 6 (J_fillA 30 (z2.2 6) (-99))))) ?_ rfl rfl rfl
  refine gx_aload_n X dX0_reset_36 rfl 0 rfl ?_
  refine gx_iconst (z := 0) X dX0_reset_37 rfl ?_
  refine gC_p0 X (hD _) dX0_reset_38 ?_
  refine gx_aload_n X dX0_reset_41 rfl 0 rfl ?_
  refine gx_iconst (z := 0) X dX0_reset_42 rfl ?_
  refine gC_p1 X (hD _) dX0_reset_43 ?_
  refine gx_aload_n X dX0_reset_46 rfl 0 rfl ?_
  refine gx_iconst (z := 0) X dX0_reset_47 rfl ?_
  refine gC_p2 X (hD _) dX0_reset_48 ?_
  refine gx_aload_n X dX0_reset_51 rfl 0 rfl ?_
  refine gx_iconst (z := 0) X dX0_reset_52 rfl ?_
  refine gC_p3 X (hD _) dX0_reset_53 ?_
  refine gx_aload_n X dX0_reset_56 rfl 0 rfl ?_
  refine gx_iconst (z := 0) X dX0_reset_57 rfl ?_
  refine gC_p6 X (hD _) (by decide) dX0_reset_58 ?_
  exact gx_vret hR (congrArg (fun z : Sta => (wC K q z)) ((show C_reset S = (mI (mI (mI (mI (mI (mW z2 6 (J_fillA 30 (z2.2 6) (-99))) 0 0) 1 0) 2 0) 3 0) 6 0) from congrArg (fun z2 => C_reset_r2 z2) e2))) dX0_reset_61
