theorem InvW_pick {N : Int} {S : Sta} {v : Int} (h : InvW N S) (hv : 0 ≤ v ∧ v ≤ 60) : InvW N (mI S 2 v) := ⟨⟨h.1.1, h.1.2.1, hv, h.1.2.2.2⟩, h.2⟩
def M_weave_l30 (S : Sta) (v1 : Int) (S7 : Sta) : Nat → Int → Sta → Sta
  | 0, v2, S30 => S30
  | fu + 1, v2, S30 => if (S.1 3) ≤ v2 then S30 else M_weave_l30 S v1 S7 fu (v2 + 1) (mA S30 19 ((16 * v2) + v1) ((M_look S7 v1).2.2 18 v2))
theorem M_weave_l30_s (S : Sta) (v1 : Int) (S7 : Sta) (fu : Nat) (v2 : Int) (S30 : Sta) : M_weave_l30 S v1 S7 (fu + 1) v2 S30 = (if (S.1 3) ≤ v2 then S30 else M_weave_l30 S v1 S7 fu (v2 + 1) (mA S30 19 ((16 * v2) + v1) ((M_look S7 v1).2.2 18 v2))) := rfl
def M_weave_l7 (S : Sta) : Nat → Int → Sta → (Int × Sta) ⊕ (Sta)
  | 0, v1, S7 => .inr S7
  | fu + 1, v1, S7 => if (S.1 1) ≤ v1 then .inr S7 else if (M_look S7 v1).1 = 1000000 then .inl ((-99), (M_look S7 v1).2) else (fun (z30 : Sta) => M_weave_l7 S fu (v1 + 1) z30) (M_weave_l30 S v1 S7 (31) 0 ((M_look S7 v1).2))
theorem M_weave_l7_s (S : Sta) (fu : Nat) (v1 : Int) (S7 : Sta) : M_weave_l7 S (fu + 1) v1 S7 = (if (S.1 1) ≤ v1 then .inr S7 else if (M_look S7 v1).1 = 1000000 then .inl ((-99), (M_look S7 v1).2) else (fun (z30 : Sta) => M_weave_l7 S fu (v1 + 1) z30) (M_weave_l30 S v1 S7 (31) 0 ((M_look S7 v1).2))) := rfl
def M_weave_l96 (v1 : Int) (S86 : Sta) : Nat → Int → Sta → Sta
  | 0, v2, S96 => S96
  | fu + 1, v2, S96 => if (S86.1 1) ≤ v2 then S96 else M_weave_l96 v1 S86 fu (v2 + 1) (M_make S96 v2 (S96.2 19 ((16 * v1) + v2)))
theorem M_weave_l96_s (v1 : Int) (S86 : Sta) (fu : Nat) (v2 : Int) (S96 : Sta) : M_weave_l96 v1 S86 (fu + 1) v2 S96 = (if (S86.1 1) ≤ v2 then S96 else M_weave_l96 v1 S86 fu (v2 + 1) (M_make S96 v2 (S96.2 19 ((16 * v1) + v2)))) := rfl
def M_weave_l86  : Nat → Int → Sta → Sta
  | 0, v1, S86 => S86
  | fu + 1, v1, S86 => if (S86.1 3) ≤ v1 then S86 else (fun (z96 : Sta) => M_weave_l86  fu (v1 + 1) (mI z96 2 ((S86.1 2) + 1))) (M_weave_l96 v1 S86 (17) 0 S86)
theorem M_weave_l86_s  (fu : Nat) (v1 : Int) (S86 : Sta) : M_weave_l86  (fu + 1) v1 S86 = (if (S86.1 3) ≤ v1 then S86 else (fun (z96 : Sta) => M_weave_l86  fu (v1 + 1) (mI z96 2 ((S86.1 2) + 1))) (M_weave_l96 v1 S86 (17) 0 S86)) := rfl
def M_weave_r86 (z86 : Sta) : Int × Sta := ((z86.1 2), z86)
def M_weave_r7 (S : Sta) (z7 : Sta) : Int × Sta := if ((S.1 2) + (S.1 3)) ≤ 60 then (fun z86 => M_weave_r86 z86) (M_weave_l86  (31) 0 z7) else ((-4), z7)
def M_weave (S : Sta) : Int × Sta := Sum.elim id (fun z7 => M_weave_r7 S z7) (M_weave_l7 S (17) 0 S)
set_option maxRecDepth 100000 in
theorem c_M_weave {l : Launch} {K : KK} {N : Int} (q : Nat → Nat) (S : Sta) (hI : InvW N S) (hT : InvT S) : CtI l yX3_weave cX3_weave 3 .int (3, 84) K [.ref (q 0)] (wM K q S) (M_weave S).1 (wM K q ((M_weave S).2)) := by
  refine ctI_of (by decide) (Nat.le_of_ble_eq_true rfl) rfl ?_
  intro x X hD hR
  have hD : ∀ S9 : Sta, va_D (cx_A x) (wM K q S9) := fun S9 => va_D_same hD rfl
  have hs1 := InvM_s1 hI
  have hs2 := InvM_s2 hI
  have hs3 := InvM_s3 hI
  have hs4 := InvM_s4 hI
  refine gx_aload_n X dX3_weave_0 rfl 0 rfl ?_
  refine gx_iconst (z := 0) X dX3_weave_1 rfl ?_
  refine gM_t0 X (hD _) (InvM_t hI) dX3_weave_2 ?_
  refine gx_iconst (z := 0) X dX3_weave_5 rfl ?_
  refine gx_istore_n X dX3_weave_6 rfl (by decide) rfl ?_
  have L7 : ∀ (fu : Nat) (v1 : Int) (S7 : Sta), (0 ≤ v1) → (v1 ≤ (S.1 1)) → (InvW N S7) → (InvT S7) → (∀ j : Nat, j ≠ 5 → S7.1 j = S.1 j) → ((S.1 1) - v1) < (fu : Int) → (∀ z7 : Sta, M_weave_l7 S fu v1 S7 = .inr z7 → (InvW N z7) ∧ (∀ j : Nat, j ≠ 5 → z7.1 j = S.1 j) → GG l (rmK (3, 84)) K x (wM K q z7) 67 [(0, .ref (q 0))] []) → (∀ zz : Int × Sta, M_weave_l7 S fu v1 S7 = .inl zz → M_weave S = zz) → GG l (rmK (3, 84)) K x (wM K q S7) 7 [(0, .ref (q 0)), (1, .int (iI v1))] [] := by
    intro fu
    induction fu with
    | zero => intro v1 S7 hi7_0 hi7_1 hi7_2 hi7_3 hi7_4 hm7 K7 KR7; exact absurd hm7 (by omega)
    | succ fu ih =>
      intro v1 S7 hi7_0 hi7_1 hi7_2 hi7_3 hi7_4 hm7 K7 KR7
      refine gx_iload_n X dX3_weave_7 rfl 1 rfl ?_
      refine gx_aload_n X dX3_weave_8 rfl 0 rfl ?_
      refine gM_g1 (v := (S.1 1)) X (hi7_4  1 (by decide)) dX3_weave_9 ?_
      refine gx_icmp_ge (tgt := 67) X dX3_weave_12 (by decide) (by omega) (fun hc12 => ?_) (fun hc12 => ?_)
      · refine gx_sub [0] rfl ?_
        exact K7 S7 ((M_weave_l7_s S fu v1 S7).trans (if_pos hc12)) ⟨hi7_2, (fun j hj => (hi7_4  j hj))⟩
      · refine gx_aload_n X dX3_weave_15 rfl 0 rfl ?_
        refine gx_iload_n X dX3_weave_16 rfl 1 rfl ?_
        refine gx_callVI (As := [.int (iI v1)]) (rest := []) X (hD _) lk_M_175 (ci := 3) rfl rfl 0 rfl (c_M_look q S7 v1 hi7_2 hi7_3 (by omega)) jn_all rfl ⟨by decide, by decide⟩ (Nat.le_of_ble_eq_true rfl) dX3_weave_17 ?_
        have hp17_0 := M_look_rg S7 v1 hi7_2 hi7_3 (by omega)
        have hl17 := M_look_all S7 v1 hi7_2 hi7_3 (by omega)
        have ht17 := InvT_of hi7_3 (hl17.2.2.1 4 (by decide)) (hl17.2.2.1 5 (by decide))
        refine gx_ldc (z := 1000000) X t_M_161 dX3_weave_20 (by decide) ?_
        refine gx_icmp_ne (tgt := 28) X dX3_weave_22 (by decide) (by omega) (fun hc22 => ?_) (fun hc22 => ?_)
        · refine gx_iconst (z := 0) X dX3_weave_28 rfl ?_
          refine gx_istore_n X dX3_weave_29 rfl (by decide) rfl ?_
          have L30 : ∀ (fu : Nat) (v2 : Int) (S30 : Sta), (0 ≤ v2) → (v2 ≤ (S.1 3)) → (InvW N S30) → (S30.1 = ((M_look S7 v1).2).1) → (∀ k : Nat, k ∉ [19] → S30.2 k = ((M_look S7 v1).2).2 k) → ((S.1 3) - v2) < (fu : Int) → (∀ z30 : Sta, M_weave_l30 S v1 S7 fu v2 S30 = z30 → (InvW N z30) ∧ (z30.1 = ((M_look S7 v1).2).1) ∧ (∀ k : Nat, k ∉ [19] → z30.2 k = ((M_look S7 v1).2).2 k) → GG l (rmK (3, 84)) K x (wM K q z30) 61 [(0, .ref (q 0)), (1, .int (iI v1))] []) → GG l (rmK (3, 84)) K x (wM K q S30) 30 [(0, .ref (q 0)), (1, .int (iI v1)), (2, .int (iI v2))] [] := by
            intro fu
            induction fu with
            | zero => intro v2 S30 hi30_0 hi30_1 hi30_2 hi30_3 hi30_4 hm30 K30; exact absurd hm30 (by omega)
            | succ fu ih =>
              intro v2 S30 hi30_0 hi30_1 hi30_2 hi30_3 hi30_4 hm30 K30
              refine gx_iload_n X dX3_weave_30 rfl 2 rfl ?_
              refine gx_aload_n X dX3_weave_31 rfl 0 rfl ?_
              refine gM_g3 (v := (S.1 3)) X ((congrFun (hi30_3 ) 3).trans ((hl17.2.1  3 (by decide)).trans (hi7_4  3 (by decide)))) dX3_weave_32 ?_
              refine gx_icmp_ge (tgt := 61) X dX3_weave_35 (by decide) (by omega) (fun hc35 => ?_) (fun hc35 => ?_)
              · refine gx_sub [0, 1] rfl ?_
                exact K30 S30 ((M_weave_l30_s S v1 S7 fu v2 S30).trans (if_pos hc35)) ⟨hi30_2, (hi30_3 ), (fun k hk => (hi30_4  k hk))⟩
              · refine gx_aload_n X dX3_weave_38 rfl 0 rfl ?_
                refine gM_r19 X dX3_weave_39 ?_
                refine gx_bipush (z := 16) X dX3_weave_42 (by decide) ?_
                refine gx_iload_n X dX3_weave_44 rfl 2 rfl ?_
                refine gx_imul X dX3_weave_45 ?_
                refine gx_iload_n X dX3_weave_46 rfl 1 rfl ?_
                refine gx_iadd X dX3_weave_47 ?_
                refine gx_aload_n X dX3_weave_48 rfl 0 rfl ?_
                refine gM_r18 X dX3_weave_49 ?_
                refine gx_iload_n X dX3_weave_52 rfl 2 rfl ?_
                refine gM_l18 (v := ((M_look S7 v1).2.2 18 v2)) X (by omega) (congrFun (hi30_4  18 (by decide)) v2) dX3_weave_53 ?_
                have hr53 := InvM_a18 hl17.1 v2
                refine gM_s19 X (hD _) (by omega) dX3_weave_54 ?_
                refine gx_iinc X dX3_weave_55 2 rfl (by decide) rfl ?_
                refine gx_goto (tgt := 30) X dX3_weave_58 (by decide) ?_
                refine gx_sub [1, 2, 0] rfl ?_
                exact ih (v2 + 1) (mA S30 19 ((16 * v2) + v1) ((M_look S7 v1).2.2 18 v2)) (by omega) (by omega) (InvW.mA hi30_2 (show 0 ≤ _ ∧ _ ≤ 2 from InvM_a18 hl17.1 _)) (hi30_3 ) (fun k hk => (mA_nin hk (by decide)).trans ((hi30_4  k hk))) (by omega) (fun z e hx => K30 z ((M_weave_l30_s S v1 S7 fu v2 S30).trans ((if_neg hc35).trans e)) hx)
          refine gx_sub [1, 2, 0] rfl ?_
          refine L30 (31) 0 ((M_look S7 v1).2) (by omega) (by omega) hl17.1 rfl (fun _ _ => rfl) (by omega) (fun z30 e30 hx30 => ?_)
          refine gx_iinc X dX3_weave_61 1 rfl (by decide) rfl ?_
          refine gx_goto (tgt := 7) X dX3_weave_64 (by decide) ?_
          refine gx_sub [1, 0] rfl ?_
          subst e30
          exact ih _ _ (by omega) (by omega) hx30.1 (InvT_of ht17 (hx30.2.2 4 (by decide)) (hx30.2.2 5 (by decide))) (fun j hj => ((congrFun (hx30.2.1 ) j)).trans ((fun j hj => ((hl17.2.1  j hj)).trans ((fun j hj => (hi7_4  j hj)) j hj)) j hj)) (by omega) (fun z e hx => K7 z ((M_weave_l7_s S fu v1 S7).trans (((if_neg hc12).trans (if_neg hc22)).trans e)) hx) (fun z e => KR7 z ((M_weave_l7_s S fu v1 S7).trans (((if_neg hc12).trans (if_neg hc22)).trans e)))
        · refine gx_bipush (z := (-99)) X dX3_weave_25 (by decide) ?_
          exact gx_iret hR (congrArg Prod.fst ((show M_weave S = ((-99), (M_look S7 v1).2) from KR7 ((-99), (M_look S7 v1).2) ((M_weave_l7_s S fu v1 S7).trans ((if_neg hc12).trans (if_pos hc22)))))) (ret2 (fun z => (wM K q z)) ((show M_weave S = ((-99), (M_look S7 v1).2) from KR7 ((-99), (M_look S7 v1).2) ((M_weave_l7_s S fu v1 S7).trans ((if_neg hc12).trans (if_pos hc22)))))) dX3_weave_27
  refine gx_sub [1, 0] rfl ?_
  refine L7 (17) 0 S (by omega) (by omega) hI hT (fun _ _ => rfl) (by omega) (fun z7 e7 hx7 => ?_) (fun z e => congrArg (Sum.elim id (fun z7 => M_weave_r7 S z7)) e)
  refine gx_aload_n X dX3_weave_67 rfl 0 rfl ?_
  refine gM_g2 (v := (S.1 2)) X (hx7.2  2 (by decide)) dX3_weave_68 ?_
  refine gx_aload_n X dX3_weave_71 rfl 0 rfl ?_
  refine gM_g3 (v := (S.1 3)) X (hx7.2  3 (by decide)) dX3_weave_72 ?_
  refine gx_iadd X dX3_weave_75 ?_
  refine gx_bipush (z := 60) X dX3_weave_76 (by decide) ?_
  refine gx_icmp_le (tgt := 84) X dX3_weave_78 (by decide) (by omega) (fun hc78 => ?_) (fun hc78 => ?_)
  · refine gx_iconst (z := 0) X dX3_weave_84 rfl ?_
    refine gx_istore_n X dX3_weave_85 rfl (by decide) rfl ?_
    have L86 : ∀ (fu : Nat) (v1 : Int) (S86 : Sta), (0 ≤ v1) → (v1 ≤ (S.1 3)) → (InvW N S86) → ((S86.1 1 = (S.1 1) ∧ S86.1 3 = (S.1 3)) ∧ S86.1 2 = (S.1 2) + v1) → ((S.1 3) - v1) < (fu : Int) → (∀ z86 : Sta, M_weave_l86  fu v1 S86 = z86 → (z86.1 2 = z86.1 2) → GG l (rmK (3, 84)) K x (wM K q z86) 142 [(0, .ref (q 0))] []) → GG l (rmK (3, 84)) K x (wM K q S86) 86 [(0, .ref (q 0)), (1, .int (iI v1))] [] := by
      intro fu
      induction fu with
      | zero => intro v1 S86 hi86_0 hi86_1 hi86_2 hi86_3 hm86 K86; exact absurd hm86 (by omega)
      | succ fu ih =>
        intro v1 S86 hi86_0 hi86_1 hi86_2 hi86_3 hm86 K86
        refine gx_iload_n X dX3_weave_86 rfl 1 rfl ?_
        refine gx_aload_n X dX3_weave_87 rfl 0 rfl ?_
        refine gM_g3 (v := (S86.1 3)) X rfl dX3_weave_88 ?_
        have hg88 := InvM_s3 hi86_2
        refine gx_icmp_ge (tgt := 142) X dX3_weave_91 (by decide) (by omega) (fun hc91 => ?_) (fun hc91 => ?_)
        · refine gx_sub [0] rfl ?_
          exact K86 S86 ((M_weave_l86_s  fu v1 S86).trans (if_pos hc91)) (rfl)
        · refine gx_iconst (z := 0) X dX3_weave_94 rfl ?_
          refine gx_istore_n X dX3_weave_95 rfl (by decide) rfl ?_
          have L96 : ∀ (fu : Nat) (v2 : Int) (S96 : Sta), (0 ≤ v2) → (v2 ≤ (S.1 1)) → (InvW N S96) → (S96.1 = S86.1) → ((S.1 1) - v2) < (fu : Int) → (∀ z96 : Sta, M_weave_l96 v1 S86 fu v2 S96 = z96 → (InvW N z96) ∧ (z96.1 = S86.1) → GG l (rmK (3, 84)) K x (wM K q z96) 126 [(0, .ref (q 0)), (1, .int (iI v1))] []) → GG l (rmK (3, 84)) K x (wM K q S96) 96 [(0, .ref (q 0)), (1, .int (iI v1)), (2, .int (iI v2))] [] := by
            intro fu
            induction fu with
            | zero => intro v2 S96 hi96_0 hi96_1 hi96_2 hi96_3 hm96 K96; exact absurd hm96 (by omega)
            | succ fu ih =>
              intro v2 S96 hi96_0 hi96_1 hi96_2 hi96_3 hm96 K96
              refine gx_iload_n X dX3_weave_96 rfl 2 rfl ?_
              refine gx_aload_n X dX3_weave_97 rfl 0 rfl ?_
              refine gM_g1 (v := (S86.1 1)) X (congrFun (hi96_3 ) 1) dX3_weave_98 ?_
              have hg98 := InvM_s1 hi86_2
              refine gx_icmp_ge (tgt := 126) X dX3_weave_101 (by decide) (by omega) (fun hc101 => ?_) (fun hc101 => ?_)
              · refine gx_sub [0, 1] rfl ?_
                exact K96 S96 ((M_weave_l96_s v1 S86 fu v2 S96).trans (if_pos hc101)) ⟨hi96_2, (hi96_3 )⟩
              · have hkp := congrFun hi96_3 2
                refine gx_aload_n X dX3_weave_104 rfl 0 rfl ?_
                refine gx_iload_n X dX3_weave_105 rfl 2 rfl ?_
                refine gx_aload_n X dX3_weave_106 rfl 0 rfl ?_
                refine gM_r19 X dX3_weave_107 ?_
                refine gx_bipush (z := 16) X dX3_weave_110 (by decide) ?_
                refine gx_iload_n X dX3_weave_112 rfl 1 rfl ?_
                refine gx_imul X dX3_weave_113 ?_
                refine gx_iload_n X dX3_weave_114 rfl 2 rfl ?_
                refine gx_iadd X dX3_weave_115 ?_
                refine gM_l19 (v := (S96.2 19 ((16 * v1) + v2))) X (by omega) rfl dX3_weave_116 ?_
                have hr116 := InvM_a19 hi96_2 ((16 * v1) + v2)
                refine gx_callVV (As := [.int (iI v2), .int (iI (S96.2 19 ((16 * v1) + v2)))]) (rest := []) X (hD _) lk_M_112 (ci := 3) rfl rfl 0 rfl (c_M_make q S96 v2 (S96.2 19 ((16 * v1) + v2)) hi96_2 (by omega) (by omega) (by omega)) jn_all rfl ⟨by decide, by decide⟩ (Nat.le_of_ble_eq_true rfl) dX3_weave_117 ?_
                refine gx_iinc X dX3_weave_120 2 rfl (by decide) rfl ?_
                refine gx_goto (tgt := 96) X dX3_weave_123 (by decide) ?_
                refine gx_sub [1, 2, 0] rfl ?_
                exact ih (v2 + 1) (M_make S96 v2 (S96.2 19 ((16 * v1) + v2))) (by omega) (by omega) (M_make_inv _ _ _ hi96_2 (by omega) (by omega) (by omega)) (((M_make_sc _ _ _)).trans (hi96_3 )) (by omega) (fun z e hx => K96 z ((M_weave_l96_s v1 S86 fu v2 S96).trans ((if_neg hc101).trans e)) hx)
          refine gx_sub [1, 2, 0] rfl ?_
          refine L96 (17) 0 S86 (by omega) (by omega) hi86_2 rfl (by omega) (fun z96 e96 hx96 => ?_)
          refine gx_aload_n X dX3_weave_126 rfl 0 rfl ?_
          refine gx_dup X dX3_weave_127 rfl ?_
          refine gM_g2 (v := (S86.1 2)) X (congrFun (hx96.2 ) 2) dX3_weave_128 ?_
          have hg128 := InvM_s2 hi86_2
          refine gx_iconst (z := 1) X dX3_weave_131 rfl ?_
          refine gx_iadd X dX3_weave_132 ?_
          refine gM_p2 X (hD _) dX3_weave_133 ?_
          refine gx_iinc X dX3_weave_136 1 rfl (by decide) rfl ?_
          refine gx_goto (tgt := 86) X dX3_weave_139 (by decide) ?_
          refine gx_sub [1, 0] rfl ?_
          subst e96
          exact ih _ _ (by omega) (by omega) (InvW_pick hx96.1 (by have e2 := congrFun hx96.2 2; omega)) (by have e1 := congrFun hx96.2 1; have e2 := congrFun hx96.2 2; have e3 := congrFun hx96.2 3; refine ⟨⟨e1.trans hi86_3.1.1, e3.trans hi86_3.1.2⟩, ?_⟩; show S86.1 2 + 1 = _; omega) (by omega) (fun z e hx => K86 z ((M_weave_l86_s  fu v1 S86).trans ((if_neg hc91).trans e)) hx)
    refine gx_sub [1, 0] rfl ?_
    refine L86 (31) 0 z7 (by omega) (by omega) hx7.1 (by have e1 := hx7.2 1 (by decide); have e2 := hx7.2 2 (by decide); have e3 := hx7.2 3 (by decide); omega) (by omega) (fun z86 e86 hx86 => ?_)
    refine gx_aload_n X dX3_weave_142 rfl 0 rfl ?_
    refine gM_g2 (v := (z86.1 2)) X rfl dX3_weave_143 ?_
    exact gx_iret hR (congrArg Prod.fst ((show M_weave S = ((z86.1 2), z86) from (congrArg (Sum.elim id (fun z7 => M_weave_r7 S z7)) e7).trans ((if_pos hc78).trans (congrArg (fun z86 => M_weave_r86 z86) e86))))) (ret2 (fun z => (wM K q z)) ((show M_weave S = ((z86.1 2), z86) from (congrArg (Sum.elim id (fun z7 => M_weave_r7 S z7)) e7).trans ((if_pos hc78).trans (congrArg (fun z86 => M_weave_r86 z86) e86))))) dX3_weave_146
  · refine gx_bipush (z := (-4)) X dX3_weave_81 (by decide) ?_
    exact gx_iret hR (congrArg Prod.fst ((show M_weave S = ((-4), z7) from (congrArg (Sum.elim id (fun z7 => M_weave_r7 S z7)) e7).trans (if_neg hc78)))) (ret2 (fun z => (wM K q z)) ((show M_weave S = ((-4), z7) from (congrArg (Sum.elim id (fun z7 => M_weave_r7 S z7)) e7).trans (if_neg hc78)))) dX3_weave_83
