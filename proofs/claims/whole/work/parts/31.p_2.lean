def pFW (S : PS) (g : Int → Int) : PS := ((S.1.1, (g, S.1.2.2)), S.2)
def pGW (S : PS) (g : Int → Int64) : PS := ((S.1.1, (S.1.2.1, g)), S.2)
def P_fillEnd (S : PS) (h : Int) : PS := (pGW (pFW S (J_fillB 2480 (S.1.2.1) (P_index h 0 0 0) ((P_index h 0 0 0) + 80) 0)) (J_fillL 2480 (S.1.2.2) (P_index h 0 0 0) ((P_index h 0 0 0) + 80) (lI 1073741824)))
set_option maxRecDepth 100000 in
theorem c_P_fillEnd {l : Launch} {K : KK} (r q : Nat → Nat) (S : PS) (h : Int) (hp0 : 1 ≤ h ∧ h ≤ 30) : CtV l yX1_fillEnd cX1_fillEnd 3 (2, 47) K [.ref (r 0), .int (iI h)] (wPC K r q S) (wPC K r q (P_fillEnd S h)) := by
  refine ctV_of (by decide) (Nat.le_of_ble_eq_true rfl) ?_
  intro x X hD hR
  have hD : ∀ S9 : PS, va_D (cx_A x) (wPC K r q S9) := fun S9 => va_D_same hD rfl
  refine gx_iload_n X dX1_fillEnd_0 rfl 1 rfl ?_
  refine gx_iconst (z := 0) X dX1_fillEnd_1 rfl ?_
  refine gx_iconst (z := 0) X dX1_fillEnd_2 rfl ?_
  refine gx_iconst (z := 0) X dX1_fillEnd_3 rfl ?_
  refine gx_callSI (As := [.int (iI h), .int (iI 0), .int (iI 0), .int (iI 0)]) (rest := []) X (hD _) lk_P_55 (c_P_index h 0 0 0 ) jn_nil rfl ⟨by decide, by decide⟩ (Nat.le_of_ble_eq_true rfl) dX1_fillEnd_4 ?_
  have hq4_0 := P_index_sp h 0 0 0
  refine gx_istore_n X dX1_fillEnd_7 rfl (by decide) rfl ?_
  refine gx_aload_n X dX1_fillEnd_8 rfl 1 rfl ?_
  refine gP_rF X dX1_fillEnd_9 ?_
  refine gx_iload_n X dX1_fillEnd_12 rfl 0 rfl ?_
  refine gx_iload_n X dX1_fillEnd_13 rfl 0 rfl ?_
  refine gx_bipush (z := 80) X dX1_fillEnd_14 (by decide) ?_
  refine gx_iadd X dX1_fillEnd_16 ?_
  refine gx_iconst (z := 0) X dX1_fillEnd_17 rfl ?_
  refine gx_callSV (As := [.ref (r 1), .int (iI (P_index h 0 0 0)), .int (iI ((P_index h 0 0 0) + 80)), .int (iI 0)]) (rest := []) X (hD _) lk_P_83 (c_J_fillB (r 1) 2480 (S.1.2.1) (P_index h 0 0 0) ((P_index h 0 0 0) + 80) 0 (by decide) (by omega)) (jn_cell (i := 1) rfl (hD _)) rfl ⟨by decide, by decide⟩ (Nat.le_of_ble_eq_true rfl) dX1_fillEnd_18 ?_
  refine gx_eq (ws' := (wPC K r q (pFW S (J_fillB 2480 (S.1.2.1) (P_index h 0 0 0) ((P_index h 0 0 0) + 80) 0)))) ?_ rfl rfl rfl
  refine gx_aload_n X dX1_fillEnd_21 rfl 1 rfl ?_
  refine gP_rG X dX1_fillEnd_22 ?_
  refine gx_iload_n X dX1_fillEnd_25 rfl 0 rfl ?_
  refine gx_iload_n X dX1_fillEnd_26 rfl 0 rfl ?_
  refine gx_bipush (z := 80) X dX1_fillEnd_27 (by decide) ?_
  refine gx_iadd X dX1_fillEnd_29 ?_
  refine gx_ldc2 (v := lI 1073741824) X t_P_89 dX1_fillEnd_30 ?_
  refine gx_callSV (As := [.ref (r 2), .int (iI (P_index h 0 0 0)), .int (iI ((P_index h 0 0 0) + 80)), .long (lI 1073741824)]) (rest := []) X (hD _) lk_P_91 (c_J_fillL (r 2) 2480 (S.1.2.2) (P_index h 0 0 0) ((P_index h 0 0 0) + 80) (lI 1073741824) (by decide) (by omega)) (jn_cell (i := 2) rfl (hD _)) rfl ⟨by decide, by decide⟩ (Nat.le_of_ble_eq_true rfl) dX1_fillEnd_33 ?_
  refine gx_eq (ws' := (wPC K r q (pGW (pFW S (J_fillB 2480 (S.1.2.1) (P_index h 0 0 0) ((P_index h 0 0 0) + 80) 0)) (J_fillL 2480 (S.1.2.2) (P_index h 0 0 0) ((P_index h 0 0 0) + 80) (lI 1073741824))))) ?_ rfl rfl rfl
  exact gx_vret hR (congrArg (fun z : PS => (wPC K r q z)) ((show P_fillEnd S h = (pGW (pFW S (J_fillB 2480 (S.1.2.1) (P_index h 0 0 0) ((P_index h 0 0 0) + 80) 0)) (J_fillL 2480 (S.1.2.2) (P_index h 0 0 0) ((P_index h 0 0 0) + 80) (lI 1073741824))) from rfl))) dX1_fillEnd_36
def P_wantLeastTwist_l14 (s : Int64) (h : Int) : Nat → Int → Int → PS → PS
  | 0, v5, v6, S14 => S14
  | fu + 1, v5, v6, S14 => if h < v6 then S14 else (fun (m90a : Int) (S90 : PS) => P_wantLeastTwist_l14 s h fu m90a (v6 + 1) S90) (if (zcr (s &&& (zl_shl (lI 1) (30 + v6))) (lI 0)) = 0 then v5 else if v5 < (J_abs ((S14.2.1 2) + ((C_sense S14.2) * v6))) then v5 else (J_abs ((S14.2.1 2) + ((C_sense S14.2) * v6)))) (if (zcr (s &&& (zl_shl (lI 1) (30 + v6))) (lI 0)) = 0 then S14 else if v5 < (J_abs ((S14.2.1 2) + ((C_sense S14.2) * v6))) then S14 else (pL S14 1 ((if v5 ≤ (J_abs ((S14.2.1 2) + ((C_sense S14.2) * v6))) then ((S14.1.1.2 1) ||| (zl_shl (lI 1) (30 + v6))) else (zl_shl (lI 1) (30 + v6))) : Int64)))
theorem P_wantLeastTwist_l14_s (s : Int64) (h : Int) (fu : Nat) (v5 : Int) (v6 : Int) (S14 : PS) : P_wantLeastTwist_l14 s h (fu + 1) v5 v6 S14 = (if h < v6 then S14 else (fun (m90a : Int) (S90 : PS) => P_wantLeastTwist_l14 s h fu m90a (v6 + 1) S90) (if (zcr (s &&& (zl_shl (lI 1) (30 + v6))) (lI 0)) = 0 then v5 else if v5 < (J_abs ((S14.2.1 2) + ((C_sense S14.2) * v6))) then v5 else (J_abs ((S14.2.1 2) + ((C_sense S14.2) * v6)))) (if (zcr (s &&& (zl_shl (lI 1) (30 + v6))) (lI 0)) = 0 then S14 else if v5 < (J_abs ((S14.2.1 2) + ((C_sense S14.2) * v6))) then S14 else (pL S14 1 ((if v5 ≤ (J_abs ((S14.2.1 2) + ((C_sense S14.2) * v6))) then ((S14.1.1.2 1) ||| (zl_shl (lI 1) (30 + v6))) else (zl_shl (lI 1) (30 + v6))) : Int64)))) := rfl
def P_wantLeastTwist (S : PS) (s : Int64) (h : Int) : PS := (P_wantLeastTwist_l14 s h (62) 2147483647 (-h) (pL S 1 (lI 0)))
set_option maxRecDepth 100000 in
theorem c_P_wantLeastTwist {l : Launch} {K : KK} {N : Int} (r q : Nat → Nat) (S : PS) (s : Int64) (h : Int) (hI : InvP N S) (hT : InvPT S) (hp2 : 0 ≤ h ∧ h ≤ 30) : CtV l yX1_wantLeastTwist cX1_wantLeastTwist 10 (1, 20) K [.ref (r 0), .ref (q 0), .long s, .int (iI h)] (wPC K r q S) (wPC K r q (P_wantLeastTwist S s h)) := by
  refine ctV_of (by decide) (Nat.le_of_ble_eq_true rfl) ?_
  intro x X hD hR
  have hD : ∀ S9 : PS, va_D (cx_A x) (wPC K r q S9) := fun S9 => va_D_same hD rfl
  have hs0 := InvP_s0 hI
  have hs1 := InvP_s1 hI
  have hs2 := InvP_s2 hI
  have hs3 := InvP_s3 hI
  refine gx_ldc (z := 2147483647) X t_P_121 dX1_wantLeastTwist_0 (by decide) ?_
  refine gx_istore X dX1_wantLeastTwist_2 (by decide) rfl ?_
  refine gx_aload_n X dX1_wantLeastTwist_4 rfl 1 rfl ?_
  refine gx_lconst (v := lI 0) X dX1_wantLeastTwist_5 rfl ?_
  refine gP_P1 X (hD _) dX1_wantLeastTwist_6 ?_
  refine gx_iload X dX1_wantLeastTwist_9 4 rfl ?_
  refine gx_ineg X dX1_wantLeastTwist_11 ?_
  refine gx_istore X dX1_wantLeastTwist_12 (by decide) rfl ?_
  have L14 : ∀ (fu : Nat) (v5 : Int) (v6 : Int) (S14 : PS), (-h ≤ v6) → (v6 ≤ h + 1) → (0 ≤ v5 ∧ v5 ≤ 2147483647) → (InvP N S14) → (InvPT S14) → (h + 1 - v6) < (fu : Int) → (∀ z14 : PS, P_wantLeastTwist_l14 s h fu v5 v6 S14 = z14 → True → GG l (rmK (1, 20)) K x (wPC K r q z14) 96 [(0, .ref (r 0)), (1, .ref (q 0)), (2, .long s), (4, .int (iI h))] []) → GG l (rmK (1, 20)) K x (wPC K r q S14) 14 [(0, .ref (r 0)), (1, .ref (q 0)), (2, .long s), (4, .int (iI h)), (5, .int (iI v5)), (6, .int (iI v6))] [] := by
    intro fu
    induction fu with
    | zero => intro v5 v6 S14 hi14_0 hi14_1 hi14_2 hi14_3 hi14_4 hm14 K14; exact absurd hm14 (by omega)
    | succ fu ih =>
      intro v5 v6 S14 hi14_0 hi14_1 hi14_2 hi14_3 hi14_4 hm14 K14
      refine gx_iload X dX1_wantLeastTwist_14 5 rfl ?_
      refine gx_iload X dX1_wantLeastTwist_16 3 rfl ?_
      refine gx_icmp_gt (tgt := 96) X dX1_wantLeastTwist_18 (by decide) (by omega) (fun hc18 => ?_) (fun hc18 => ?_)
      · refine gx_sub [0, 1, 2, 3] rfl ?_
        exact K14 S14 ((P_wantLeastTwist_l14_s s h fu v5 v6 S14).trans (if_pos hc18)) trivial
      · refine gx_lconst (v := lI 1) X dX1_wantLeastTwist_21 rfl ?_
        refine gx_bipush (z := 30) X dX1_wantLeastTwist_22 (by decide) ?_
        refine gx_iload X dX1_wantLeastTwist_24 5 rfl ?_
        refine gx_iadd X dX1_wantLeastTwist_26 ?_
        refine gx_lshl (v := (zl_shl (lI 1) (30 + v6))) X dX1_wantLeastTwist_27 rfl ?_
        refine gx_lstore X dX1_wantLeastTwist_28 (by decide) rfl ?_
        refine gx_aload_n X dX1_wantLeastTwist_30 rfl 2 rfl ?_
        refine gP_cg2 (v := (S14.2.1 2)) X rfl dX1_wantLeastTwist_31 ?_
        have hg31 := InvC_s2 hi14_4
        refine gx_aload_n X dX1_wantLeastTwist_34 rfl 2 rfl ?_
        refine gx_callVI (As := []) (rest := [.int (iI (S14.2.1 2))]) X (hD _) lk_P_125 (ci := 0) rfl rfl 0 rfl (c_C_sense q S14.2 (show 0 ≤ S14.2.1 0 ∧ S14.2.1 0 ≤ 1 from InvC_s0 hi14_3.1)) (jn_r (hD _)) rfl ⟨by decide, by decide⟩ (Nat.le_of_ble_eq_true rfl) dX1_wantLeastTwist_35 ?_
        have hq35_0 := C_sense_sp S14.2
        refine gx_iload X dX1_wantLeastTwist_38 6 rfl ?_
        refine gx_imul X dX1_wantLeastTwist_40 ?_
        refine gx_iadd X dX1_wantLeastTwist_41 ?_
        have hmul : C_sense S14.2 * v6 = v6 ∨ C_sense S14.2 * v6 = -v6 := by
          rcases C_sense_sp S14.2 with h9 | h9
          · rw [h9.2]; omega
          · rw [h9.2]; omega
        refine gx_callSI (As := [.int (iI ((S14.2.1 2) + ((C_sense S14.2) * v6)))]) (rest := []) X (hD _) lk_P_129 (c_J_abs ((S14.2.1 2) + ((C_sense S14.2) * v6)) (by omega)) jn_nil rfl ⟨by decide, by decide⟩ (Nat.le_of_ble_eq_true rfl) dX1_wantLeastTwist_42 ?_
        have hq42_0 := J_abs_sp ((S14.2.1 2) + ((C_sense S14.2) * v6))
        refine gx_istore X dX1_wantLeastTwist_45 (by decide) rfl ?_
        refine gx_lload_n X dX1_wantLeastTwist_47 rfl 4 rfl ?_
        refine gx_lload X dX1_wantLeastTwist_48 1 rfl ?_
        refine gx_land X dX1_wantLeastTwist_50 ?_
        refine gx_lconst (v := lI 0) X dX1_wantLeastTwist_51 rfl ?_
        refine gx_lcmpr X dX1_wantLeastTwist_52 ?_
        have ho52 := zcr_ok (s &&& (zl_shl (lI 1) (30 + v6))) (lI 0)
        have J90 : ∀ (m90a : Int) (S90 : PS), m90a = (if (zcr (s &&& (zl_shl (lI 1) (30 + v6))) (lI 0)) = 0 then v5 else if v5 < (J_abs ((S14.2.1 2) + ((C_sense S14.2) * v6))) then v5 else (J_abs ((S14.2.1 2) + ((C_sense S14.2) * v6)))) → S90 = (if (zcr (s &&& (zl_shl (lI 1) (30 + v6))) (lI 0)) = 0 then S14 else if v5 < (J_abs ((S14.2.1 2) + ((C_sense S14.2) * v6))) then S14 else (pL S14 1 ((if v5 ≤ (J_abs ((S14.2.1 2) + ((C_sense S14.2) * v6))) then ((S14.1.1.2 1) ||| (zl_shl (lI 1) (30 + v6))) else (zl_shl (lI 1) (30 + v6))) : Int64))) → (0 ≤ m90a ∧ m90a ≤ 2147483647) → (InvP N S90) → (InvPT S90) → GG l (rmK (1, 20)) K x (wPC K r q S90) 90 [(0, .ref (r 0)), (1, .ref (q 0)), (2, .long s), (4, .int (iI h)), (5, .int (iI m90a)), (6, .int (iI v6)), (7, .long (zl_shl (lI 1) (30 + v6))), (9, .int (iI (J_abs ((S14.2.1 2) + ((C_sense S14.2) * v6)))))] [] := by
          intro m90a S90 e_m90a e_S90 hf90_0 hf90_1 hf90_2
          refine gx_iinc X dX1_wantLeastTwist_90 5 rfl (by decide) rfl ?_
          refine gx_goto (tgt := 14) X dX1_wantLeastTwist_93 (by decide) ?_
          refine gx_sub [1, 2, 3, 4, 5, 0] rfl ?_
          subst e_m90a
          subst e_S90
          exact ih _ _ _ (by omega) (by omega) hf90_0 hf90_1 hf90_2 (by omega) (fun z e hx => K14 z ((P_wantLeastTwist_l14_s s h fu v5 v6 S14).trans ((if_neg hc18).trans e)) hx)
        refine gx_if_eq (tgt := 90) X dX1_wantLeastTwist_53 (by decide) (by omega) (fun hc53 => ?_) (fun hc53 => ?_)
        · refine gx_sub [2, 3, 4, 5, 6, 7, 1, 0] rfl ?_
          exact J90 v5 S14 ((if_pos hc53).symm) ((if_pos hc53).symm) (by omega) hi14_3 hi14_4
        · refine gx_iload X dX1_wantLeastTwist_56 0 rfl ?_
          refine gx_iload X dX1_wantLeastTwist_58 6 rfl ?_
          refine gx_icmp_gt (tgt := 90) X dX1_wantLeastTwist_60 (by decide) (by omega) (fun hc60 => ?_) (fun hc60 => ?_)
          · refine gx_sub [2, 3, 4, 5, 6, 7, 1, 0] rfl ?_
            exact J90 v5 S14 (((if_neg hc53).trans (if_pos hc60)).symm) (((if_neg hc53).trans (if_pos hc60)).symm) (by omega) hi14_3 hi14_4
          · refine gx_aload_n X dX1_wantLeastTwist_63 rfl 2 rfl ?_
            refine gx_iload X dX1_wantLeastTwist_64 0 rfl ?_
            refine gx_iload X dX1_wantLeastTwist_66 6 rfl ?_
            have J83 : ∀ (m83 : Int64), m83 = (if v5 ≤ (J_abs ((S14.2.1 2) + ((C_sense S14.2) * v6))) then ((S14.1.1.2 1) ||| (zl_shl (lI 1) (30 + v6))) else (zl_shl (lI 1) (30 + v6))) → GG l (rmK (1, 20)) K x (wPC K r q S14) 83 [(0, .ref (r 0)), (1, .ref (q 0)), (2, .long s), (4, .int (iI h)), (5, .int (iI v5)), (6, .int (iI v6)), (7, .long (zl_shl (lI 1) (30 + v6))), (9, .int (iI (J_abs ((S14.2.1 2) + ((C_sense S14.2) * v6)))))] [.long m83, .ref (r 0)] := by
              intro m83 e_m83
              refine gP_P1 X (hD _) dX1_wantLeastTwist_83 ?_
              refine gx_iload X dX1_wantLeastTwist_86 7 rfl ?_
              refine gx_istore X dX1_wantLeastTwist_88 (by decide) rfl ?_
              refine gx_sub [1, 2, 3, 4, 0, 5, 6, 7] rfl ?_
              subst e_m83
              exact J90 _ _ (((if_neg hc53).trans (if_neg hc60)).symm) (((if_neg hc53).trans (if_neg hc60)).symm) (by omega) hi14_3 hi14_4
            refine gx_icmp_ge (tgt := 76) X dX1_wantLeastTwist_68 (by decide) (by omega) (fun hc68 => ?_) (fun hc68 => ?_)
            · refine gx_aload_n X dX1_wantLeastTwist_76 rfl 2 rfl ?_
              refine gP_G1 (v := (S14.1.1.2 1)) X rfl dX1_wantLeastTwist_77 ?_
              refine gx_lload X dX1_wantLeastTwist_80 1 rfl ?_
              refine gx_lor X dX1_wantLeastTwist_82 ?_
              refine gx_sub [2, 3, 4, 5, 6, 7, 1, 0] rfl ?_
              exact J83 ((S14.1.1.2 1) ||| (zl_shl (lI 1) (30 + v6))) ((if_pos hc68).symm) 
            · refine gx_lload X dX1_wantLeastTwist_71 1 rfl ?_
              refine gx_goto (tgt := 83) X dX1_wantLeastTwist_73 (by decide) ?_
              refine gx_sub [2, 3, 4, 5, 6, 7, 1, 0] rfl ?_
              exact J83 (zl_shl (lI 1) (30 + v6)) ((if_neg hc68).symm) 
  refine gx_sub [2, 3, 4, 5, 1, 0] rfl ?_
  refine L14 (62) 2147483647 (-h) (pL S 1 (lI 0)) (by omega) (by omega) (by omega) hI hT (by omega) (fun z14 e14 hx14 => ?_)
  exact gx_vret hR (congrArg (fun z : PS => (wPC K r q z)) ((show P_wantLeastTwist S s h = z14 from e14))) dX1_wantLeastTwist_96
