def P_fillEnd_l10 (h : Int) : Nat → Int → PS → PS
  | 0, v3, S10 => S10
  | fu + 1, v3, S10 => if 80 ≤ v3 then S10 else P_fillEnd_l10 h fu (v3 + 1) (pG (pF S10 ((P_index h 0 0 0) + v3) 0) ((P_index h 0 0 0) + v3) (lI 1073741824))
theorem P_fillEnd_l10_s (h : Int) (fu : Nat) (v3 : Int) (S10 : PS) : P_fillEnd_l10 h (fu + 1) v3 S10 = (if 80 ≤ v3 then S10 else P_fillEnd_l10 h fu (v3 + 1) (pG (pF S10 ((P_index h 0 0 0) + v3) 0) ((P_index h 0 0 0) + v3) (lI 1073741824))) := rfl
def P_fillEnd (S : PS) (h : Int) : PS := (P_fillEnd_l10 h (81) 0 S)
set_option maxRecDepth 100000 in
theorem c_P_fillEnd {l : Launch} {K : KK} (r q : Nat → Nat) (S : PS) (h : Int) (hp0 : 1 ≤ h ∧ h ≤ 30) : CtV l yX1_fillEnd cX1_fillEnd 4 (1, 23) K [.ref (r 0), .int (iI h)] (wPC K r q S) (wPC K r q (P_fillEnd S h)) := by
  refine ctV_of (by decide) (Nat.le_of_ble_eq_true rfl) ?_
  intro x X hD hR
  have hD : ∀ S9 : PS, va_D (cx_A x) (wPC K r q S9) := fun S9 => va_D_same hD rfl
  refine gx_iload_n X dX1_fillEnd_0 rfl 1 rfl ?_
  refine gx_iconst (z := 0) X dX1_fillEnd_1 rfl ?_
  refine gx_iconst (z := 0) X dX1_fillEnd_2 rfl ?_
  refine gx_iconst (z := 0) X dX1_fillEnd_3 rfl ?_
  refine gx_callSI (As := [.int (iI h), .int (iI 0), .int (iI 0), .int (iI 0)]) (rest := []) X (hD _) lk_P_55 (c_P_index h 0 0 0 ) jn_nil rfl ⟨by decide, by decide⟩ (Nat.le_of_ble_eq_true rfl) dX1_fillEnd_4 ?_
  have hq4_0 := P_index_sp h 0 0 0
  refine gx_istore_n X dX1_fillEnd_7 rfl (by decide) rfl ?_
  refine gx_iconst (z := 0) X dX1_fillEnd_8 rfl ?_
  refine gx_istore_n X dX1_fillEnd_9 rfl (by decide) rfl ?_
  have L10 : ∀ (fu : Nat) (v3 : Int) (S10 : PS), (0 ≤ v3) → (v3 ≤ 80) → (80 - v3) < (fu : Int) → (∀ z10 : PS, P_fillEnd_l10 h fu v3 S10 = z10 → True → GG l (rmK (1, 23)) K x (wPC K r q z10) 42 [(0, .ref (r 0)), (1, .int (iI h)), (2, .int (iI (P_index h 0 0 0)))] []) → GG l (rmK (1, 23)) K x (wPC K r q S10) 10 [(0, .ref (r 0)), (1, .int (iI h)), (2, .int (iI (P_index h 0 0 0))), (3, .int (iI v3))] [] := by
    intro fu
    induction fu with
    | zero => intro v3 S10 hi10_0 hi10_1 hm10 K10; exact absurd hm10 (by omega)
    | succ fu ih =>
      intro v3 S10 hi10_0 hi10_1 hm10 K10
      refine gx_iload_n X dX1_fillEnd_10 rfl 3 rfl ?_
      refine gx_bipush (z := 80) X dX1_fillEnd_11 (by decide) ?_
      refine gx_icmp_ge (tgt := 42) X dX1_fillEnd_13 (by decide) (by omega) (fun hc13 => ?_) (fun hc13 => ?_)
      · refine gx_sub [0, 1, 2] rfl ?_
        exact K10 S10 ((P_fillEnd_l10_s h fu v3 S10).trans (if_pos hc13)) trivial
      · refine gx_aload_n X dX1_fillEnd_16 rfl 0 rfl ?_
        refine gP_rF X dX1_fillEnd_17 ?_
        refine gx_iload_n X dX1_fillEnd_20 rfl 2 rfl ?_
        refine gx_iload_n X dX1_fillEnd_21 rfl 3 rfl ?_
        refine gx_iadd X dX1_fillEnd_22 ?_
        refine gx_iconst (z := 0) X dX1_fillEnd_23 rfl ?_
        refine gP_sF X (hD _) (by omega) dX1_fillEnd_24 ?_
        refine gx_aload_n X dX1_fillEnd_25 rfl 0 rfl ?_
        refine gP_rG X dX1_fillEnd_26 ?_
        refine gx_iload_n X dX1_fillEnd_29 rfl 2 rfl ?_
        refine gx_iload_n X dX1_fillEnd_30 rfl 3 rfl ?_
        refine gx_iadd X dX1_fillEnd_31 ?_
        refine gx_ldc2 (v := lI 1073741824) X t_P_83 dX1_fillEnd_32 ?_
        refine gP_sG X (hD _) (by omega) dX1_fillEnd_35 ?_
        refine gx_iinc X dX1_fillEnd_36 3 rfl (by decide) rfl ?_
        refine gx_goto (tgt := 10) X dX1_fillEnd_39 (by decide) ?_
        refine gx_sub [1, 2, 3, 0] rfl ?_
        exact ih (v3 + 1) (pG (pF S10 ((P_index h 0 0 0) + v3) 0) ((P_index h 0 0 0) + v3) (lI 1073741824)) (by omega) (by omega) (by omega) (fun z e hx => K10 z ((P_fillEnd_l10_s h fu v3 S10).trans ((if_neg hc13).trans e)) hx)
  refine gx_sub [2, 3, 1, 0] rfl ?_
  refine L10 (81) 0 S (by omega) (by omega) (by omega) (fun z10 e10 hx10 => ?_)
  exact gx_vret hR (congrArg (fun z : PS => (wPC K r q z)) ((show P_fillEnd S h = z10 from e10))) dX1_fillEnd_42
def P_wantLeastTwist_l15 (s : Int64) (h : Int) : Nat → Int → Int → PS → PS
  | 0, v5, v6, S15 => S15
  | fu + 1, v5, v6, S15 => if h < v6 then S15 else (fun (m91a : Int) (S91 : PS) => P_wantLeastTwist_l15 s h fu m91a (v6 + 1) S91) (if (zcr (s &&& (zl_shl (lI 1) (30 + v6))) (lI 0)) = 0 then v5 else if v5 < (J_abs ((S15.2.1 2) + ((C_sense S15.2) * v6))) then v5 else (J_abs ((S15.2.1 2) + ((C_sense S15.2) * v6)))) (if (zcr (s &&& (zl_shl (lI 1) (30 + v6))) (lI 0)) = 0 then S15 else if v5 < (J_abs ((S15.2.1 2) + ((C_sense S15.2) * v6))) then S15 else (pL S15 1 ((if v5 ≤ (J_abs ((S15.2.1 2) + ((C_sense S15.2) * v6))) then ((S15.1.1.2 1) ||| (zl_shl (lI 1) (30 + v6))) else (zl_shl (lI 1) (30 + v6))) : Int64)))
theorem P_wantLeastTwist_l15_s (s : Int64) (h : Int) (fu : Nat) (v5 : Int) (v6 : Int) (S15 : PS) : P_wantLeastTwist_l15 s h (fu + 1) v5 v6 S15 = (if h < v6 then S15 else (fun (m91a : Int) (S91 : PS) => P_wantLeastTwist_l15 s h fu m91a (v6 + 1) S91) (if (zcr (s &&& (zl_shl (lI 1) (30 + v6))) (lI 0)) = 0 then v5 else if v5 < (J_abs ((S15.2.1 2) + ((C_sense S15.2) * v6))) then v5 else (J_abs ((S15.2.1 2) + ((C_sense S15.2) * v6)))) (if (zcr (s &&& (zl_shl (lI 1) (30 + v6))) (lI 0)) = 0 then S15 else if v5 < (J_abs ((S15.2.1 2) + ((C_sense S15.2) * v6))) then S15 else (pL S15 1 ((if v5 ≤ (J_abs ((S15.2.1 2) + ((C_sense S15.2) * v6))) then ((S15.1.1.2 1) ||| (zl_shl (lI 1) (30 + v6))) else (zl_shl (lI 1) (30 + v6))) : Int64)))) := rfl
def P_wantLeastTwist (S : PS) (s : Int64) (h : Int) : PS := (P_wantLeastTwist_l15 s h (62) 1000 (-h) (pL S 1 (lI 0)))
set_option maxRecDepth 100000 in
theorem c_P_wantLeastTwist {l : Launch} {K : KK} {N : Int} (r q : Nat → Nat) (S : PS) (s : Int64) (h : Int) (hI : InvP N S) (hT : InvPT S) (hp2 : 0 ≤ h ∧ h ≤ 30) : CtV l yX1_wantLeastTwist cX1_wantLeastTwist 10 (1, 20) K [.ref (r 0), .ref (q 0), .long s, .int (iI h)] (wPC K r q S) (wPC K r q (P_wantLeastTwist S s h)) := by
  refine ctV_of (by decide) (Nat.le_of_ble_eq_true rfl) ?_
  intro x X hD hR
  have hD : ∀ S9 : PS, va_D (cx_A x) (wPC K r q S9) := fun S9 => va_D_same hD rfl
  have hs0 := InvP_s0 hI
  have hs1 := InvP_s1 hI
  have hs2 := InvP_s2 hI
  have hs3 := InvP_s3 hI
  refine gx_sipush (z := 1000) X dX1_wantLeastTwist_0 (by decide) ?_
  refine gx_istore X dX1_wantLeastTwist_3 (by decide) rfl ?_
  refine gx_aload_n X dX1_wantLeastTwist_5 rfl 1 rfl ?_
  refine gx_lconst (v := lI 0) X dX1_wantLeastTwist_6 rfl ?_
  refine gP_P1 X (hD _) dX1_wantLeastTwist_7 ?_
  refine gx_iload X dX1_wantLeastTwist_10 4 rfl ?_
  refine gx_ineg X dX1_wantLeastTwist_12 ?_
  refine gx_istore X dX1_wantLeastTwist_13 (by decide) rfl ?_
  have L15 : ∀ (fu : Nat) (v5 : Int) (v6 : Int) (S15 : PS), (-h ≤ v6) → (v6 ≤ h + 1) → (0 ≤ v5 ∧ v5 ≤ 1000) → (InvP N S15) → (InvPT S15) → (h + 1 - v6) < (fu : Int) → (∀ z15 : PS, P_wantLeastTwist_l15 s h fu v5 v6 S15 = z15 → True → GG l (rmK (1, 20)) K x (wPC K r q z15) 97 [(0, .ref (r 0)), (1, .ref (q 0)), (2, .long s), (4, .int (iI h))] []) → GG l (rmK (1, 20)) K x (wPC K r q S15) 15 [(0, .ref (r 0)), (1, .ref (q 0)), (2, .long s), (4, .int (iI h)), (5, .int (iI v5)), (6, .int (iI v6))] [] := by
    intro fu
    induction fu with
    | zero => intro v5 v6 S15 hi15_0 hi15_1 hi15_2 hi15_3 hi15_4 hm15 K15; exact absurd hm15 (by omega)
    | succ fu ih =>
      intro v5 v6 S15 hi15_0 hi15_1 hi15_2 hi15_3 hi15_4 hm15 K15
      refine gx_iload X dX1_wantLeastTwist_15 5 rfl ?_
      refine gx_iload X dX1_wantLeastTwist_17 3 rfl ?_
      refine gx_icmp_gt (tgt := 97) X dX1_wantLeastTwist_19 (by decide) (by omega) (fun hc19 => ?_) (fun hc19 => ?_)
      · refine gx_sub [0, 1, 2, 3] rfl ?_
        exact K15 S15 ((P_wantLeastTwist_l15_s s h fu v5 v6 S15).trans (if_pos hc19)) trivial
      · refine gx_lconst (v := lI 1) X dX1_wantLeastTwist_22 rfl ?_
        refine gx_bipush (z := 30) X dX1_wantLeastTwist_23 (by decide) ?_
        refine gx_iload X dX1_wantLeastTwist_25 5 rfl ?_
        refine gx_iadd X dX1_wantLeastTwist_27 ?_
        refine gx_lshl (v := (zl_shl (lI 1) (30 + v6))) X dX1_wantLeastTwist_28 rfl ?_
        refine gx_lstore X dX1_wantLeastTwist_29 (by decide) rfl ?_
        refine gx_aload_n X dX1_wantLeastTwist_31 rfl 2 rfl ?_
        refine gP_cg2 (v := (S15.2.1 2)) X rfl dX1_wantLeastTwist_32 ?_
        have hg32 := InvC_s2 hi15_4
        refine gx_aload_n X dX1_wantLeastTwist_35 rfl 2 rfl ?_
        refine gx_callVI (As := []) (rest := [.int (iI (S15.2.1 2))]) X (hD _) lk_P_113 (ci := 0) rfl rfl 0 rfl (c_C_sense q S15.2 (show 0 ≤ S15.2.1 0 ∧ S15.2.1 0 ≤ 1 from InvC_s0 hi15_3.1)) (jn_r (hD _)) rfl ⟨by decide, by decide⟩ (Nat.le_of_ble_eq_true rfl) dX1_wantLeastTwist_36 ?_
        have hq36_0 := C_sense_sp S15.2
        refine gx_iload X dX1_wantLeastTwist_39 6 rfl ?_
        refine gx_imul X dX1_wantLeastTwist_41 ?_
        refine gx_iadd X dX1_wantLeastTwist_42 ?_
        have hmul : C_sense S15.2 * v6 = v6 ∨ C_sense S15.2 * v6 = -v6 := by
          rcases C_sense_sp S15.2 with h9 | h9
          · rw [h9.2]; omega
          · rw [h9.2]; omega
        refine gx_callSI (As := [.int (iI ((S15.2.1 2) + ((C_sense S15.2) * v6)))]) (rest := []) X (hD _) lk_P_117 (c_J_abs ((S15.2.1 2) + ((C_sense S15.2) * v6)) (by omega)) jn_nil rfl ⟨by decide, by decide⟩ (Nat.le_of_ble_eq_true rfl) dX1_wantLeastTwist_43 ?_
        have hq43_0 := J_abs_sp ((S15.2.1 2) + ((C_sense S15.2) * v6))
        refine gx_istore X dX1_wantLeastTwist_46 (by decide) rfl ?_
        refine gx_lload_n X dX1_wantLeastTwist_48 rfl 4 rfl ?_
        refine gx_lload X dX1_wantLeastTwist_49 1 rfl ?_
        refine gx_land X dX1_wantLeastTwist_51 ?_
        refine gx_lconst (v := lI 0) X dX1_wantLeastTwist_52 rfl ?_
        refine gx_lcmpr X dX1_wantLeastTwist_53 ?_
        have ho53 := zcr_ok (s &&& (zl_shl (lI 1) (30 + v6))) (lI 0)
        have J91 : ∀ (m91a : Int) (S91 : PS), m91a = (if (zcr (s &&& (zl_shl (lI 1) (30 + v6))) (lI 0)) = 0 then v5 else if v5 < (J_abs ((S15.2.1 2) + ((C_sense S15.2) * v6))) then v5 else (J_abs ((S15.2.1 2) + ((C_sense S15.2) * v6)))) → S91 = (if (zcr (s &&& (zl_shl (lI 1) (30 + v6))) (lI 0)) = 0 then S15 else if v5 < (J_abs ((S15.2.1 2) + ((C_sense S15.2) * v6))) then S15 else (pL S15 1 ((if v5 ≤ (J_abs ((S15.2.1 2) + ((C_sense S15.2) * v6))) then ((S15.1.1.2 1) ||| (zl_shl (lI 1) (30 + v6))) else (zl_shl (lI 1) (30 + v6))) : Int64))) → (0 ≤ m91a ∧ m91a ≤ 1000) → (InvP N S91) → (InvPT S91) → GG l (rmK (1, 20)) K x (wPC K r q S91) 91 [(0, .ref (r 0)), (1, .ref (q 0)), (2, .long s), (4, .int (iI h)), (5, .int (iI m91a)), (6, .int (iI v6)), (7, .long (zl_shl (lI 1) (30 + v6))), (9, .int (iI (J_abs ((S15.2.1 2) + ((C_sense S15.2) * v6)))))] [] := by
          intro m91a S91 e_m91a e_S91 hf91_0 hf91_1 hf91_2
          refine gx_iinc X dX1_wantLeastTwist_91 5 rfl (by decide) rfl ?_
          refine gx_goto (tgt := 15) X dX1_wantLeastTwist_94 (by decide) ?_
          refine gx_sub [1, 2, 3, 4, 5, 0] rfl ?_
          subst e_m91a
          subst e_S91
          exact ih _ _ _ (by omega) (by omega) hf91_0 hf91_1 hf91_2 (by omega) (fun z e hx => K15 z ((P_wantLeastTwist_l15_s s h fu v5 v6 S15).trans ((if_neg hc19).trans e)) hx)
        refine gx_if_eq (tgt := 91) X dX1_wantLeastTwist_54 (by decide) (by omega) (fun hc54 => ?_) (fun hc54 => ?_)
        · refine gx_sub [2, 3, 4, 5, 6, 7, 1, 0] rfl ?_
          exact J91 v5 S15 ((if_pos hc54).symm) ((if_pos hc54).symm) (by omega) hi15_3 hi15_4
        · refine gx_iload X dX1_wantLeastTwist_57 0 rfl ?_
          refine gx_iload X dX1_wantLeastTwist_59 6 rfl ?_
          refine gx_icmp_gt (tgt := 91) X dX1_wantLeastTwist_61 (by decide) (by omega) (fun hc61 => ?_) (fun hc61 => ?_)
          · refine gx_sub [2, 3, 4, 5, 6, 7, 1, 0] rfl ?_
            exact J91 v5 S15 (((if_neg hc54).trans (if_pos hc61)).symm) (((if_neg hc54).trans (if_pos hc61)).symm) (by omega) hi15_3 hi15_4
          · refine gx_aload_n X dX1_wantLeastTwist_64 rfl 2 rfl ?_
            refine gx_iload X dX1_wantLeastTwist_65 0 rfl ?_
            refine gx_iload X dX1_wantLeastTwist_67 6 rfl ?_
            have J84 : ∀ (m84 : Int64), m84 = (if v5 ≤ (J_abs ((S15.2.1 2) + ((C_sense S15.2) * v6))) then ((S15.1.1.2 1) ||| (zl_shl (lI 1) (30 + v6))) else (zl_shl (lI 1) (30 + v6))) → GG l (rmK (1, 20)) K x (wPC K r q S15) 84 [(0, .ref (r 0)), (1, .ref (q 0)), (2, .long s), (4, .int (iI h)), (5, .int (iI v5)), (6, .int (iI v6)), (7, .long (zl_shl (lI 1) (30 + v6))), (9, .int (iI (J_abs ((S15.2.1 2) + ((C_sense S15.2) * v6)))))] [.long m84, .ref (r 0)] := by
              intro m84 e_m84
              refine gP_P1 X (hD _) dX1_wantLeastTwist_84 ?_
              refine gx_iload X dX1_wantLeastTwist_87 7 rfl ?_
              refine gx_istore X dX1_wantLeastTwist_89 (by decide) rfl ?_
              refine gx_sub [1, 2, 3, 4, 0, 5, 6, 7] rfl ?_
              subst e_m84
              exact J91 _ _ (((if_neg hc54).trans (if_neg hc61)).symm) (((if_neg hc54).trans (if_neg hc61)).symm) (by omega) hi15_3 hi15_4
            refine gx_icmp_ge (tgt := 77) X dX1_wantLeastTwist_69 (by decide) (by omega) (fun hc69 => ?_) (fun hc69 => ?_)
            · refine gx_aload_n X dX1_wantLeastTwist_77 rfl 2 rfl ?_
              refine gP_G1 (v := (S15.1.1.2 1)) X rfl dX1_wantLeastTwist_78 ?_
              refine gx_lload X dX1_wantLeastTwist_81 1 rfl ?_
              refine gx_lor X dX1_wantLeastTwist_83 ?_
              refine gx_sub [2, 3, 4, 5, 6, 7, 1, 0] rfl ?_
              exact J84 ((S15.1.1.2 1) ||| (zl_shl (lI 1) (30 + v6))) ((if_pos hc69).symm) 
            · refine gx_lload X dX1_wantLeastTwist_72 1 rfl ?_
              refine gx_goto (tgt := 84) X dX1_wantLeastTwist_74 (by decide) ?_
              refine gx_sub [2, 3, 4, 5, 6, 7, 1, 0] rfl ?_
              exact J84 (zl_shl (lI 1) (30 + v6)) ((if_neg hc69).symm) 
  refine gx_sub [2, 3, 4, 5, 1, 0] rfl ?_
  refine L15 (62) 1000 (-h) (pL S 1 (lI 0)) (by omega) (by omega) (by omega) hI hT (by omega) (fun z15 e15 hx15 => ?_)
  exact gx_vret hR (congrArg (fun z : PS => (wPC K r q z)) ((show P_wantLeastTwist S s h = z15 from e15))) dX1_wantLeastTwist_97
