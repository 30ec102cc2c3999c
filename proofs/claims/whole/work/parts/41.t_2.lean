def T_startAgain_l22  : Nat → Int → TS → TS
  | 0, v2, S22 => S22
  | fu + 1, v2, S22 => if 16 ≤ v2 then S22 else T_startAgain_l22  fu (v2 + 1) (tC S22 v2 (C_reset (S22.2.2.2 v2)))
theorem T_startAgain_l22_s  (fu : Nat) (v2 : Int) (S22 : TS) : T_startAgain_l22  (fu + 1) v2 S22 = (if 16 ≤ v2 then S22 else T_startAgain_l22  fu (v2 + 1) (tC S22 v2 (C_reset (S22.2.2.2 v2)))) := rfl
def T_startAgain (S : TS) (n : Int) : TS := (T_startAgain_l22  (17) 0 (tI (tI (tI (tI S 0 n) 1 0) 2 1) 3 3))
set_option maxRecDepth 100000 in
theorem c_T_startAgain {l : Launch} {K : KK} (u r : Nat → Nat) (ca : Nat → Nat → Nat) (S : TS) (n : Int) (hp0 : ok32 n) : CtV l yX2_startAgain cX2_startAgain 3 (2, 44) K [.ref (u 0), .int (iI n)] (wT K u r ca S) (wT K u r ca (T_startAgain S n)) := by
  refine ctV_of (by decide) (Nat.le_of_ble_eq_true rfl) ?_
  intro x X hD hR
  have hD : ∀ S9 : TS, va_D (cx_A x) (wT K u r ca S9) := fun S9 => va_D_same hD rfl
  refine gx_aload_n X dX2_startAgain_0 rfl 0 rfl ?_
  refine gx_iload_n X dX2_startAgain_1 rfl 1 rfl ?_
  refine gT_p0 X (hD _) dX2_startAgain_2 ?_
  refine gx_aload_n X dX2_startAgain_5 rfl 0 rfl ?_
  refine gx_iconst (z := 0) X dX2_startAgain_6 rfl ?_
  refine gT_p1 X (hD _) dX2_startAgain_7 ?_
  refine gx_aload_n X dX2_startAgain_10 rfl 0 rfl ?_
  refine gx_iconst (z := 1) X dX2_startAgain_11 rfl ?_
  refine gT_p2 X (hD _) dX2_startAgain_12 ?_
  refine gx_aload_n X dX2_startAgain_15 rfl 0 rfl ?_
  refine gx_iconst (z := 3) X dX2_startAgain_16 rfl ?_
  refine gT_p3 X (hD _) dX2_startAgain_17 ?_
  refine gx_iconst (z := 0) X dX2_startAgain_20 rfl ?_
  refine gx_istore_n X dX2_startAgain_21 rfl (by decide) rfl ?_
  have L22 : ∀ (fu : Nat) (v2 : Int) (S22 : TS), (0 ≤ v2) → (v2 ≤ 16) → (16 - v2) < (fu : Int) → (∀ z22 : TS, T_startAgain_l22  fu v2 S22 = z22 → True → GG l (rmK (2, 44)) K x (wT K u r ca z22) 43 [(0, .ref (u 0)), (1, .int (iI n))] []) → GG l (rmK (2, 44)) K x (wT K u r ca S22) 22 [(0, .ref (u 0)), (1, .int (iI n)), (2, .int (iI v2))] [] := by
    intro fu
    induction fu with
    | zero => intro v2 S22 hi22_0 hi22_1 hm22 K22; exact absurd hm22 (by omega)
    | succ fu ih =>
      intro v2 S22 hi22_0 hi22_1 hm22 K22
      refine gx_iload_n X dX2_startAgain_22 rfl 2 rfl ?_
      refine gx_bipush (z := 16) X dX2_startAgain_23 (by decide) ?_
      refine gx_icmp_ge (tgt := 43) X dX2_startAgain_25 (by decide) (by omega) (fun hc25 => ?_) (fun hc25 => ?_)
      · refine gx_sub [0, 1] rfl ?_
        exact K22 S22 ((T_startAgain_l22_s  fu v2 S22).trans (if_pos hc25)) trivial
      · refine gx_aload_n X dX2_startAgain_28 rfl 0 rfl ?_
        refine gT_band X dX2_startAgain_29 ?_
        refine gx_iload_n X dX2_startAgain_32 rfl 2 rfl ?_
        refine gT_card X (by omega) dX2_startAgain_33 ?_
        refine gx_callVV (As := []) (rest := []) X (hD _) lk_T_200 (ci := 0) rfl rfl 0 rfl (c_C_reset (ca v2.toNat) (S22.2.2.2 v2) ) (jn_cd K u r ca S22 (by omega) _ rfl (hD _)) rfl ⟨by decide, by decide⟩ (Nat.le_of_ble_eq_true rfl) dX2_startAgain_34 ?_
        refine gx_iinc X dX2_startAgain_37 2 rfl (by decide) rfl ?_
        refine gx_goto (tgt := 22) X dX2_startAgain_40 (by decide) ?_
        refine gx_sub [1, 2, 0] rfl ?_
        exact ih (v2 + 1) (tC S22 v2 (C_reset (S22.2.2.2 v2))) (by omega) (by omega) (by omega) (fun z e hx => K22 z ((T_startAgain_l22_s  fu v2 S22).trans ((if_neg hc25).trans e)) hx)
  refine gx_sub [1, 2, 0] rfl ?_
  refine L22 (17) 0 (tI (tI (tI (tI S 0 n) 1 0) 2 1) 3 3) (by omega) (by omega) (by omega) (fun z22 e22 hx22 => ?_)
  exact gx_vret hR (congrArg (fun z : TS => (wT K u r ca z)) ((show T_startAgain S n = z22 from e22))) dX2_startAgain_43
def T_cards (S : TS) (n : Int) : Int × TS := if (T_within n 1 16) = 0 then ((-2), S) else ((S.1 0), (T_startAgain S n))
set_option maxRecDepth 100000 in
theorem c_T_cards {l : Launch} {K : KK} {N : Int} (u r : Nat → Nat) (ca : Nat → Nat → Nat) (S : TS) (n : Int) (hI : InvTC N S) (hp1 : ok32 n) : CtI l yX2_cards cX2_cards 3 .int (3, 66) K [.ref (u 0), .int (iI n)] (wT K u r ca S) (T_cards S n).1 (wT K u r ca ((T_cards S n).2)) := by
  refine ctI_of (by decide) (Nat.le_of_ble_eq_true rfl) rfl ?_
  intro x X hD hR
  have hD : ∀ S9 : TS, va_D (cx_A x) (wT K u r ca S9) := fun S9 => va_D_same hD rfl
  have hs0 := InvTC_s0 hI
  have hs1 := InvTC_s1 hI
  have hs2 := InvTC_s2 hI
  have hs3 := InvTC_s3 hI
  refine gx_iload_n X dX2_cards_0 rfl 1 rfl ?_
  refine gx_iconst (z := 1) X dX2_cards_1 rfl ?_
  refine gx_bipush (z := 16) X dX2_cards_2 (by decide) ?_
  refine gx_callSI (As := [.int (iI n), .int (iI 1), .int (iI 16)]) (rest := []) X (hD _) lk_T_31 (c_T_within n 1 16 (by omega) (by omega) (by omega)) jn_nil rfl ⟨by decide, by decide⟩ (Nat.le_of_ble_eq_true rfl) dX2_cards_4 ?_
  have hq4_0 := T_within_sp n 1 16
  refine gx_if_ne (tgt := 13) X dX2_cards_7 (by decide) (by omega) (fun hc7 => ?_) (fun hc7 => ?_)
  · refine gx_aload_n X dX2_cards_13 rfl 0 rfl ?_
    refine gT_g0 (v := (S.1 0)) X rfl dX2_cards_14 ?_
    refine gx_istore_n X dX2_cards_17 rfl (by decide) rfl ?_
    refine gx_aload_n X dX2_cards_18 rfl 1 rfl ?_
    refine gx_iload_n X dX2_cards_19 rfl 2 rfl ?_
    refine gx_callVV (As := [.int (iI n)]) (rest := []) X (hD _) lk_T_27 (ci := 2) rfl rfl 0 rfl (c_T_startAgain u r ca S n (by omega)) jn_all rfl ⟨by decide, by decide⟩ (Nat.le_of_ble_eq_true rfl) dX2_cards_20 ?_
    refine gx_iload_n X dX2_cards_23 rfl 0 rfl ?_
    exact gx_iret hR (congrArg Prod.fst ((show T_cards S n = ((S.1 0), (T_startAgain S n)) from if_neg hc7))) (ret2 (fun z => (wT K u r ca z)) ((show T_cards S n = ((S.1 0), (T_startAgain S n)) from if_neg hc7))) dX2_cards_24
  · refine gx_bipush (z := (-2)) X dX2_cards_10 (by decide) ?_
    exact gx_iret hR (congrArg Prod.fst ((show T_cards S n = ((-2), S) from if_pos hc7))) (ret2 (fun z => (wT K u r ca z)) ((show T_cards S n = ((-2), S) from if_pos hc7))) dX2_cards_12
def T_thread (S : TS) (c : Int) (t : Int) (v : Int) : Int × TS := if (T_isCard S c) = 0 then ((-1), S) else if (T_isThread t) = 0 then ((-1), S) else if (T_isColour v) = 0 then ((-2), S) else if (S.1 1) ≤ 0 then (((S.2.2.2 c).2 1 t), (tC S c (mI (mA (S.2.2.2 c) 1 t v) 6 0))) else ((-3), S)
set_option maxRecDepth 100000 in
theorem c_T_thread {l : Launch} {K : KK} {N : Int} (u r : Nat → Nat) (ca : Nat → Nat → Nat) (S : TS) (c : Int) (t : Int) (v : Int) (hI : InvTC N S) (hp1 : ok32 c) (hp2 : ok32 t) (hp3 : ok32 v) : CtI l yX2_thread cX2_thread 6 .int (2, 43) K [.ref (u 0), .int (iI c), .int (iI t), .int (iI v)] (wT K u r ca S) (T_thread S c t v).1 (wT K u r ca ((T_thread S c t v).2)) := by
  refine ctI_of (by decide) (Nat.le_of_ble_eq_true rfl) rfl ?_
  intro x X hD hR
  have hD : ∀ S9 : TS, va_D (cx_A x) (wT K u r ca S9) := fun S9 => va_D_same hD rfl
  have hs0 := InvTC_s0 hI
  have hs1 := InvTC_s1 hI
  have hs2 := InvTC_s2 hI
  have hs3 := InvTC_s3 hI
  refine gx_aload_n X dX2_thread_0 rfl 0 rfl ?_
  refine gx_iload_n X dX2_thread_1 rfl 1 rfl ?_
  refine gx_callVI (As := [.int (iI c)]) (rest := []) X (hD _) lk_T_39 (ci := 2) rfl rfl 0 rfl (c_T_isCard u r ca S c hI (by omega)) jn_all rfl ⟨by decide, by decide⟩ (Nat.le_of_ble_eq_true rfl) dX2_thread_2 ?_
  have hq2_0 := T_isCard_sp S c
  refine gx_if_eq (tgt := 15) X dX2_thread_5 (by decide) (by omega) (fun hc5 => ?_) (fun hc5 => ?_)
  · refine gx_iconst (z := (-1)) X dX2_thread_15 rfl ?_
    exact gx_iret hR (congrArg Prod.fst ((show T_thread S c t v = ((-1), S) from if_pos hc5))) (ret2 (fun z => (wT K u r ca z)) ((show T_thread S c t v = ((-1), S) from if_pos hc5))) dX2_thread_16
  · refine gx_iload_n X dX2_thread_8 rfl 2 rfl ?_
    refine gx_callSI (As := [.int (iI t)]) (rest := []) X (hD _) lk_T_43 (c_T_isThread t (by omega)) jn_nil rfl ⟨by decide, by decide⟩ (Nat.le_of_ble_eq_true rfl) dX2_thread_9 ?_
    have hq9_0 := T_isThread_sp t
    refine gx_if_ne (tgt := 17) X dX2_thread_12 (by decide) (by omega) (fun hc12 => ?_) (fun hc12 => ?_)
    · refine gx_iload_n X dX2_thread_17 rfl 3 rfl ?_
      refine gx_callSI (As := [.int (iI v)]) (rest := []) X (hD _) lk_T_46 (c_T_isColour v (by omega)) jn_nil rfl ⟨by decide, by decide⟩ (Nat.le_of_ble_eq_true rfl) dX2_thread_18 ?_
      have hq18_0 := T_isColour_sp v
      refine gx_if_ne (tgt := 27) X dX2_thread_21 (by decide) (by omega) (fun hc21 => ?_) (fun hc21 => ?_)
      · refine gx_aload_n X dX2_thread_27 rfl 0 rfl ?_
        refine gT_g1 (v := (S.1 1)) X rfl dX2_thread_28 ?_
        refine gx_if_le (tgt := 37) X dX2_thread_31 (by decide) (by omega) (fun hc31 => ?_) (fun hc31 => ?_)
        · refine gx_aload_n X dX2_thread_37 rfl 0 rfl ?_
          refine gT_band X dX2_thread_38 ?_
          refine gx_iload_n X dX2_thread_41 rfl 1 rfl ?_
          refine gT_card X (by omega) dX2_thread_42 ?_
          refine gx_astore X dX2_thread_43 (by decide) rfl ?_
          refine gx_aload X dX2_thread_45 0 rfl ?_
          refine gT_cr1 X (by omega) dX2_thread_47 ?_
          refine gx_iload_n X dX2_thread_50 rfl 3 rfl ?_
          refine gT_cl1 (v := ((S.2.2.2 c).2 1 t)) X (by omega) (by omega) rfl dX2_thread_51 ?_
          have hr51 := InvC_a1 (InvTC_c hI c) t
          refine gx_istore X dX2_thread_52 (by decide) rfl ?_
          refine gx_aload X dX2_thread_54 1 rfl ?_
          refine gT_cr1 X (by omega) dX2_thread_56 ?_
          refine gx_iload_n X dX2_thread_59 rfl 4 rfl ?_
          refine gx_iload_n X dX2_thread_60 rfl 5 rfl ?_
          refine gT_cs1 X (hD _) (by omega) (by omega) dX2_thread_61 ?_
          refine gx_aload X dX2_thread_62 1 rfl ?_
          refine gx_iconst (z := 0) X dX2_thread_64 rfl ?_
          refine gT_cp6 X (hD _) (by omega) (by decide) dX2_thread_65 ?_
          refine gx_eq (ws' := (wT K u r ca (tC S c (mI (mA (S.2.2.2 c) 1 t v) 6 0)))) ?_ (congrArg (wT K u r ca) (tC_upd S c (mA (S.2.2.2 c) 1 t v) (fun q : Sta => mI q 6 0))) rfl rfl
          refine gx_iload X dX2_thread_68 0 rfl ?_
          exact gx_iret hR (congrArg Prod.fst ((show T_thread S c t v = (((S.2.2.2 c).2 1 t), (tC S c (mI (mA (S.2.2.2 c) 1 t v) 6 0))) from (if_neg hc5).trans ((if_neg hc12).trans ((if_neg hc21).trans (if_pos hc31)))))) (ret2 (fun z => (wT K u r ca z)) ((show T_thread S c t v = (((S.2.2.2 c).2 1 t), (tC S c (mI (mA (S.2.2.2 c) 1 t v) 6 0))) from (if_neg hc5).trans ((if_neg hc12).trans ((if_neg hc21).trans (if_pos hc31)))))) dX2_thread_70
        · refine gx_bipush (z := (-3)) X dX2_thread_34 (by decide) ?_
          exact gx_iret hR (congrArg Prod.fst ((show T_thread S c t v = ((-3), S) from (if_neg hc5).trans ((if_neg hc12).trans ((if_neg hc21).trans (if_neg hc31)))))) (ret2 (fun z => (wT K u r ca z)) ((show T_thread S c t v = ((-3), S) from (if_neg hc5).trans ((if_neg hc12).trans ((if_neg hc21).trans (if_neg hc31)))))) dX2_thread_36
      · refine gx_bipush (z := (-2)) X dX2_thread_24 (by decide) ?_
        exact gx_iret hR (congrArg Prod.fst ((show T_thread S c t v = ((-2), S) from (if_neg hc5).trans ((if_neg hc12).trans (if_pos hc21))))) (ret2 (fun z => (wT K u r ca z)) ((show T_thread S c t v = ((-2), S) from (if_neg hc5).trans ((if_neg hc12).trans (if_pos hc21))))) dX2_thread_26
    · refine gx_iconst (z := (-1)) X dX2_thread_15 rfl ?_
      exact gx_iret hR (congrArg Prod.fst ((show T_thread S c t v = ((-1), S) from (if_neg hc5).trans (if_pos hc12)))) (ret2 (fun z => (wT K u r ca z)) ((show T_thread S c t v = ((-1), S) from (if_neg hc5).trans (if_pos hc12)))) dX2_thread_16
def T_way (S : TS) (c : Int) (v : Int) : Int × TS := if (T_isCard S c) = 0 then ((-1), S) else if (T_within v 0 1) = 0 then ((-2), S) else if (S.1 1) ≤ 0 then (((S.2.2.2 c).1 0), (tC S c (mI (mI (S.2.2.2 c) 0 v) 6 0))) else ((-3), S)
set_option maxRecDepth 100000 in
theorem c_T_way {l : Launch} {K : KK} {N : Int} (u r : Nat → Nat) (ca : Nat → Nat → Nat) (S : TS) (c : Int) (v : Int) (hI : InvTC N S) (hp1 : ok32 c) (hp2 : ok32 v) : CtI l yX2_way cX2_way 5 .int (2, 43) K [.ref (u 0), .int (iI c), .int (iI v)] (wT K u r ca S) (T_way S c v).1 (wT K u r ca ((T_way S c v).2)) := by
  refine ctI_of (by decide) (Nat.le_of_ble_eq_true rfl) rfl ?_
  intro x X hD hR
  have hD : ∀ S9 : TS, va_D (cx_A x) (wT K u r ca S9) := fun S9 => va_D_same hD rfl
  have hs0 := InvTC_s0 hI
  have hs1 := InvTC_s1 hI
  have hs2 := InvTC_s2 hI
  have hs3 := InvTC_s3 hI
  refine gx_aload_n X dX2_way_0 rfl 0 rfl ?_
  refine gx_iload_n X dX2_way_1 rfl 1 rfl ?_
  refine gx_callVI (As := [.int (iI c)]) (rest := []) X (hD _) lk_T_39 (ci := 2) rfl rfl 0 rfl (c_T_isCard u r ca S c hI (by omega)) jn_all rfl ⟨by decide, by decide⟩ (Nat.le_of_ble_eq_true rfl) dX2_way_2 ?_
  have hq2_0 := T_isCard_sp S c
  refine gx_if_ne (tgt := 10) X dX2_way_5 (by decide) (by omega) (fun hc5 => ?_) (fun hc5 => ?_)
  · refine gx_iload_n X dX2_way_10 rfl 2 rfl ?_
    refine gx_iconst (z := 0) X dX2_way_11 rfl ?_
    refine gx_iconst (z := 1) X dX2_way_12 rfl ?_
    refine gx_callSI (As := [.int (iI v), .int (iI 0), .int (iI 1)]) (rest := []) X (hD _) lk_T_31 (c_T_within v 0 1 (by omega) (by omega) (by omega)) jn_nil rfl ⟨by decide, by decide⟩ (Nat.le_of_ble_eq_true rfl) dX2_way_13 ?_
    have hq13_0 := T_within_sp v 0 1
    refine gx_if_ne (tgt := 22) X dX2_way_16 (by decide) (by omega) (fun hc16 => ?_) (fun hc16 => ?_)
    · refine gx_aload_n X dX2_way_22 rfl 0 rfl ?_
      refine gT_g1 (v := (S.1 1)) X rfl dX2_way_23 ?_
      refine gx_if_le (tgt := 32) X dX2_way_26 (by decide) (by omega) (fun hc26 => ?_) (fun hc26 => ?_)
      · refine gx_aload_n X dX2_way_32 rfl 0 rfl ?_
        refine gT_band X dX2_way_33 ?_
        refine gx_iload_n X dX2_way_36 rfl 1 rfl ?_
        refine gT_card X (by omega) dX2_way_37 ?_
        refine gx_astore_n X dX2_way_38 rfl (by decide) rfl ?_
        refine gx_aload_n X dX2_way_39 rfl 0 rfl ?_
        refine gT_cg0 (v := ((S.2.2.2 c).1 0)) X (by omega) rfl dX2_way_40 ?_
        have hg40 := InvC_s0 (InvTC_c hI c)
        refine gx_istore X dX2_way_43 (by decide) rfl ?_
        refine gx_aload_n X dX2_way_45 rfl 1 rfl ?_
        refine gx_iload_n X dX2_way_46 rfl 4 rfl ?_
        refine gT_cp0 X (hD _) (by omega) dX2_way_47 ?_
        refine gx_aload_n X dX2_way_50 rfl 1 rfl ?_
        refine gx_iconst (z := 0) X dX2_way_51 rfl ?_
        refine gT_cp6 X (hD _) (by omega) (by decide) dX2_way_52 ?_
        refine gx_eq (ws' := (wT K u r ca (tC S c (mI (mI (S.2.2.2 c) 0 v) 6 0)))) ?_ (congrArg (wT K u r ca) (tC_upd S c (mI (S.2.2.2 c) 0 v) (fun q : Sta => mI q 6 0))) rfl rfl
        refine gx_iload X dX2_way_55 0 rfl ?_
        exact gx_iret hR (congrArg Prod.fst ((show T_way S c v = (((S.2.2.2 c).1 0), (tC S c (mI (mI (S.2.2.2 c) 0 v) 6 0))) from (if_neg hc5).trans ((if_neg hc16).trans (if_pos hc26))))) (ret2 (fun z => (wT K u r ca z)) ((show T_way S c v = (((S.2.2.2 c).1 0), (tC S c (mI (mI (S.2.2.2 c) 0 v) 6 0))) from (if_neg hc5).trans ((if_neg hc16).trans (if_pos hc26))))) dX2_way_57
      · refine gx_bipush (z := (-3)) X dX2_way_29 (by decide) ?_
        exact gx_iret hR (congrArg Prod.fst ((show T_way S c v = ((-3), S) from (if_neg hc5).trans ((if_neg hc16).trans (if_neg hc26))))) (ret2 (fun z => (wT K u r ca z)) ((show T_way S c v = ((-3), S) from (if_neg hc5).trans ((if_neg hc16).trans (if_neg hc26))))) dX2_way_31
    · refine gx_bipush (z := (-2)) X dX2_way_19 (by decide) ?_
      exact gx_iret hR (congrArg Prod.fst ((show T_way S c v = ((-2), S) from (if_neg hc5).trans (if_pos hc16)))) (ret2 (fun z => (wT K u r ca z)) ((show T_way S c v = ((-2), S) from (if_neg hc5).trans (if_pos hc16)))) dX2_way_21
  · refine gx_iconst (z := (-1)) X dX2_way_8 rfl ?_
    exact gx_iret hR (congrArg Prod.fst ((show T_way S c v = ((-1), S) from if_pos hc5))) (ret2 (fun z => (wT K u r ca z)) ((show T_way S c v = ((-1), S) from if_pos hc5))) dX2_way_9
def T_flip (S : TS) (c : Int) : Int × TS := if (T_isCard S c) = 0 then ((-1), S) else (((C_turnOver (S.2.2.2 c)).1 0), (tC S c (mI (C_turnOver (S.2.2.2 c)) 3 (((C_turnOver (S.2.2.2 c)).1 3) + 1))))
set_option maxRecDepth 100000 in
theorem c_T_flip {l : Launch} {K : KK} {N : Int} (u r : Nat → Nat) (ca : Nat → Nat → Nat) (S : TS) (c : Int) (hI : InvTC N S) (hp1 : ok32 c) : CtI l yX2_flip cX2_flip 3 .int (2, 43) K [.ref (u 0), .int (iI c)] (wT K u r ca S) (T_flip S c).1 (wT K u r ca ((T_flip S c).2)) := by
  refine ctI_of (by decide) (Nat.le_of_ble_eq_true rfl) rfl ?_
  intro x X hD hR
  have hD : ∀ S9 : TS, va_D (cx_A x) (wT K u r ca S9) := fun S9 => va_D_same hD rfl
  have hs0 := InvTC_s0 hI
  have hs1 := InvTC_s1 hI
  have hs2 := InvTC_s2 hI
  have hs3 := InvTC_s3 hI
  refine gx_aload_n X dX2_flip_0 rfl 0 rfl ?_
  refine gx_iload_n X dX2_flip_1 rfl 1 rfl ?_
  refine gx_callVI (As := [.int (iI c)]) (rest := []) X (hD _) lk_T_39 (ci := 2) rfl rfl 0 rfl (c_T_isCard u r ca S c hI (by omega)) jn_all rfl ⟨by decide, by decide⟩ (Nat.le_of_ble_eq_true rfl) dX2_flip_2 ?_
  have hq2_0 := T_isCard_sp S c
  refine gx_if_ne (tgt := 10) X dX2_flip_5 (by decide) (by omega) (fun hc5 => ?_) (fun hc5 => ?_)
  · refine gx_aload_n X dX2_flip_10 rfl 0 rfl ?_
    refine gT_band X dX2_flip_11 ?_
    refine gx_iload_n X dX2_flip_14 rfl 1 rfl ?_
    refine gT_card X (by omega) dX2_flip_15 ?_
    refine gx_astore_n X dX2_flip_16 rfl (by decide) rfl ?_
    refine gx_aload_n X dX2_flip_17 rfl 0 rfl ?_
    refine gx_callVV (As := []) (rest := []) X (hD _) lk_T_62 (ci := 0) rfl rfl 0 rfl (c_C_turnOver (ca c.toNat) (S.2.2.2 c) ) (jn_cd K u r ca S (by omega) _ rfl (hD _)) rfl ⟨by decide, by decide⟩ (Nat.le_of_ble_eq_true rfl) dX2_flip_18 ?_
    refine gx_aload_n X dX2_flip_21 rfl 0 rfl ?_
    refine gx_dup X dX2_flip_22 rfl ?_
    refine gT_cg3 (v := ((C_turnOver (S.2.2.2 c)).1 3)) X (by omega) (Eq.trans (congrArg (fun q : Sta => q.1 3) (tC_at _ _ (C_turnOver (S.2.2.2 c)))) rfl) dX2_flip_23 ?_
    refine gx_iconst (z := 1) X dX2_flip_26 rfl ?_
    refine gx_iadd X dX2_flip_27 ?_
    refine gT_cp3 X (hD _) (by omega) dX2_flip_28 ?_
    refine gx_eq (ws' := (wT K u r ca (tC S c (mI (C_turnOver (S.2.2.2 c)) 3 (((C_turnOver (S.2.2.2 c)).1 3) + 1))))) ?_ (congrArg (wT K u r ca) (tC_upd S c (C_turnOver (S.2.2.2 c)) (fun q : Sta => mI q 3 (((C_turnOver (S.2.2.2 c)).1 3) + 1)))) rfl rfl
    refine gx_aload_n X dX2_flip_31 rfl 0 rfl ?_
    refine gT_cg0 (v := ((C_turnOver (S.2.2.2 c)).1 0)) X (by omega) (Eq.trans (congrArg (fun q : Sta => q.1 0) (tC_at _ _ (mI (C_turnOver (S.2.2.2 c)) 3 (((C_turnOver (S.2.2.2 c)).1 3) + 1)))) rfl) dX2_flip_32 ?_
    exact gx_iret hR (congrArg Prod.fst ((show T_flip S c = (((C_turnOver (S.2.2.2 c)).1 0), (tC S c (mI (C_turnOver (S.2.2.2 c)) 3 (((C_turnOver (S.2.2.2 c)).1 3) + 1)))) from if_neg hc5))) (ret2 (fun z => (wT K u r ca z)) ((show T_flip S c = (((C_turnOver (S.2.2.2 c)).1 0), (tC S c (mI (C_turnOver (S.2.2.2 c)) 3 (((C_turnOver (S.2.2.2 c)).1 3) + 1)))) from if_neg hc5))) dX2_flip_35
  · refine gx_iconst (z := (-1)) X dX2_flip_8 rfl ?_
    exact gx_iret hR (congrArg Prod.fst ((show T_flip S c = ((-1), S) from if_pos hc5))) (ret2 (fun z => (wT K u r ca z)) ((show T_flip S c = ((-1), S) from if_pos hc5))) dX2_flip_9
def T_pack (S : TS) (c : Int) (p : Int) : Int × TS := if (T_isCard S c) = 0 then ((-1), S) else if (T_isPack p) = 0 then ((-1), S) else (((S.2.2.2 c).1 1), (tC S c (mI (S.2.2.2 c) 1 p)))
set_option maxRecDepth 100000 in
theorem c_T_pack {l : Launch} {K : KK} {N : Int} (u r : Nat → Nat) (ca : Nat → Nat → Nat) (S : TS) (c : Int) (p : Int) (hI : InvTC N S) (hp1 : ok32 c) (hp2 : ok32 p) : CtI l yX2_pack cX2_pack 4 .int (2, 43) K [.ref (u 0), .int (iI c), .int (iI p)] (wT K u r ca S) (T_pack S c p).1 (wT K u r ca ((T_pack S c p).2)) := by
  refine ctI_of (by decide) (Nat.le_of_ble_eq_true rfl) rfl ?_
  intro x X hD hR
  have hD : ∀ S9 : TS, va_D (cx_A x) (wT K u r ca S9) := fun S9 => va_D_same hD rfl
  have hs0 := InvTC_s0 hI
  have hs1 := InvTC_s1 hI
  have hs2 := InvTC_s2 hI
  have hs3 := InvTC_s3 hI
  refine gx_aload_n X dX2_pack_0 rfl 0 rfl ?_
  refine gx_iload_n X dX2_pack_1 rfl 1 rfl ?_
  refine gx_callVI (As := [.int (iI c)]) (rest := []) X (hD _) lk_T_39 (ci := 2) rfl rfl 0 rfl (c_T_isCard u r ca S c hI (by omega)) jn_all rfl ⟨by decide, by decide⟩ (Nat.le_of_ble_eq_true rfl) dX2_pack_2 ?_
  have hq2_0 := T_isCard_sp S c
  refine gx_if_eq (tgt := 15) X dX2_pack_5 (by decide) (by omega) (fun hc5 => ?_) (fun hc5 => ?_)
  · refine gx_iconst (z := (-1)) X dX2_pack_15 rfl ?_
    exact gx_iret hR (congrArg Prod.fst ((show T_pack S c p = ((-1), S) from if_pos hc5))) (ret2 (fun z => (wT K u r ca z)) ((show T_pack S c p = ((-1), S) from if_pos hc5))) dX2_pack_16
  · refine gx_iload_n X dX2_pack_8 rfl 2 rfl ?_
    refine gx_callSI (As := [.int (iI p)]) (rest := []) X (hD _) lk_T_68 (c_T_isPack p (by omega)) jn_nil rfl ⟨by decide, by decide⟩ (Nat.le_of_ble_eq_true rfl) dX2_pack_9 ?_
    have hq9_0 := T_isPack_sp p
    refine gx_if_ne (tgt := 17) X dX2_pack_12 (by decide) (by omega) (fun hc12 => ?_) (fun hc12 => ?_)
    · refine gx_aload_n X dX2_pack_17 rfl 0 rfl ?_
      refine gT_band X dX2_pack_18 ?_
      refine gx_iload_n X dX2_pack_21 rfl 1 rfl ?_
      refine gT_card X (by omega) dX2_pack_22 ?_
      refine gT_cg1 (v := ((S.2.2.2 c).1 1)) X (by omega) rfl dX2_pack_23 ?_
      have hg23 := InvC_s1 (InvTC_c hI c)
      refine gx_istore_n X dX2_pack_26 rfl (by decide) rfl ?_
      refine gx_aload_n X dX2_pack_27 rfl 1 rfl ?_
      refine gT_band X dX2_pack_28 ?_
      refine gx_iload_n X dX2_pack_31 rfl 2 rfl ?_
      refine gT_card X (by omega) dX2_pack_32 ?_
      refine gx_iload_n X dX2_pack_33 rfl 3 rfl ?_
      refine gT_cp1 X (hD _) (by omega) dX2_pack_34 ?_
      refine gx_iload_n X dX2_pack_37 rfl 0 rfl ?_
      exact gx_iret hR (congrArg Prod.fst ((show T_pack S c p = (((S.2.2.2 c).1 1), (tC S c (mI (S.2.2.2 c) 1 p))) from (if_neg hc5).trans (if_neg hc12)))) (ret2 (fun z => (wT K u r ca z)) ((show T_pack S c p = (((S.2.2.2 c).1 1), (tC S c (mI (S.2.2.2 c) 1 p))) from (if_neg hc5).trans (if_neg hc12)))) dX2_pack_38
    · refine gx_iconst (z := (-1)) X dX2_pack_15 rfl ?_
      exact gx_iret hR (congrArg Prod.fst ((show T_pack S c p = ((-1), S) from (if_neg hc5).trans (if_pos hc12)))) (ret2 (fun z => (wT K u r ca z)) ((show T_pack S c p = ((-1), S) from (if_neg hc5).trans (if_pos hc12)))) dX2_pack_16
def T_paint (S : TS) (r0 : Int) (c : Int) (v : Int) : Int × TS := if (T_isCard S c) = 0 then ((-1), S) else if (T_within r0 0 29) = 0 then ((-2), S) else if v = (-99) then (((S.2.2.2 c).2 6 r0), (tC S c (mI (mA (S.2.2.2 c) 6 r0 v) 6 0))) else if (T_isColour v) = 0 then ((-2), S) else (((S.2.2.2 c).2 6 r0), (tC S c (mI (mA (S.2.2.2 c) 6 r0 v) 6 0)))
set_option maxRecDepth 100000 in
theorem c_T_paint {l : Launch} {K : KK} {N : Int} (u r : Nat → Nat) (ca : Nat → Nat → Nat) (S : TS) (r0 : Int) (c : Int) (v : Int) (hI : InvTC N S) (hp1 : ok32 r0) (hp2 : ok32 c) (hp3 : ok32 v) : CtI l yX2_paint cX2_paint 6 .int (2, 43) K [.ref (u 0), .int (iI r0), .int (iI c), .int (iI v)] (wT K u r ca S) (T_paint S r0 c v).1 (wT K u r ca ((T_paint S r0 c v).2)) := by
  refine ctI_of (by decide) (Nat.le_of_ble_eq_true rfl) rfl ?_
  intro x X hD hR
  have hD : ∀ S9 : TS, va_D (cx_A x) (wT K u r ca S9) := fun S9 => va_D_same hD rfl
  have hs0 := InvTC_s0 hI
  have hs1 := InvTC_s1 hI
  have hs2 := InvTC_s2 hI
  have hs3 := InvTC_s3 hI
  refine gx_aload_n X dX2_paint_0 rfl 0 rfl ?_
  refine gx_iload_n X dX2_paint_1 rfl 2 rfl ?_
  refine gx_callVI (As := [.int (iI c)]) (rest := []) X (hD _) lk_T_39 (ci := 2) rfl rfl 0 rfl (c_T_isCard u r ca S c hI (by omega)) jn_all rfl ⟨by decide, by decide⟩ (Nat.le_of_ble_eq_true rfl) dX2_paint_2 ?_
  have hq2_0 := T_isCard_sp S c
  refine gx_if_ne (tgt := 10) X dX2_paint_5 (by decide) (by omega) (fun hc5 => ?_) (fun hc5 => ?_)
  · refine gx_iload_n X dX2_paint_10 rfl 1 rfl ?_
    refine gx_iconst (z := 0) X dX2_paint_11 rfl ?_
    refine gx_bipush (z := 29) X dX2_paint_12 (by decide) ?_
    refine gx_callSI (As := [.int (iI r0), .int (iI 0), .int (iI 29)]) (rest := []) X (hD _) lk_T_31 (c_T_within r0 0 29 (by omega) (by omega) (by omega)) jn_nil rfl ⟨by decide, by decide⟩ (Nat.le_of_ble_eq_true rfl) dX2_paint_14 ?_
    have hq14_0 := T_within_sp r0 0 29
    refine gx_if_eq (tgt := 33) X dX2_paint_17 (by decide) (by omega) (fun hc17 => ?_) (fun hc17 => ?_)
    · refine gx_bipush (z := (-2)) X dX2_paint_33 (by decide) ?_
      exact gx_iret hR (congrArg Prod.fst ((show T_paint S r0 c v = ((-2), S) from (if_neg hc5).trans (if_pos hc17)))) (ret2 (fun z => (wT K u r ca z)) ((show T_paint S r0 c v = ((-2), S) from (if_neg hc5).trans (if_pos hc17)))) dX2_paint_35
    · refine gx_iload_n X dX2_paint_20 rfl 3 rfl ?_
      refine gx_bipush (z := (-99)) X dX2_paint_21 (by decide) ?_
      refine gx_icmp_eq (tgt := 36) X dX2_paint_23 (by decide) (by omega) (fun hc23 => ?_) (fun hc23 => ?_)
      · refine gx_aload_n X dX2_paint_36 rfl 0 rfl ?_
        refine gT_band X dX2_paint_37 ?_
        refine gx_iload_n X dX2_paint_40 rfl 2 rfl ?_
        refine gT_card X (by omega) dX2_paint_41 ?_
        refine gx_astore X dX2_paint_42 (by decide) rfl ?_
        refine gx_aload X dX2_paint_44 0 rfl ?_
        refine gT_cr6 X (by omega) dX2_paint_46 ?_
        refine gx_iload_n X dX2_paint_49 rfl 2 rfl ?_
        refine gT_cl6 (v := ((S.2.2.2 c).2 6 r0)) X (by omega) (by omega) rfl dX2_paint_50 ?_
        have hr50 := InvC_a6 (InvTC_c hI c) r0
        refine gx_istore X dX2_paint_51 (by decide) rfl ?_
        refine gx_aload X dX2_paint_53 1 rfl ?_
        refine gT_cr6 X (by omega) dX2_paint_55 ?_
        refine gx_iload_n X dX2_paint_58 rfl 3 rfl ?_
        refine gx_iload_n X dX2_paint_59 rfl 5 rfl ?_
        refine gT_cs6 X (hD _) (by omega) (by omega) dX2_paint_60 ?_
        refine gx_aload X dX2_paint_61 1 rfl ?_
        refine gx_iconst (z := 0) X dX2_paint_63 rfl ?_
        refine gT_cp6 X (hD _) (by omega) (by decide) dX2_paint_64 ?_
        refine gx_eq (ws' := (wT K u r ca (tC S c (mI (mA (S.2.2.2 c) 6 r0 v) 6 0)))) ?_ (congrArg (wT K u r ca) (tC_upd S c (mA (S.2.2.2 c) 6 r0 v) (fun q : Sta => mI q 6 0))) rfl rfl
        refine gx_iload X dX2_paint_67 0 rfl ?_
        exact gx_iret hR (congrArg Prod.fst ((show T_paint S r0 c v = (((S.2.2.2 c).2 6 r0), (tC S c (mI (mA (S.2.2.2 c) 6 r0 v) 6 0))) from (if_neg hc5).trans ((if_neg hc17).trans (if_pos hc23))))) (ret2 (fun z => (wT K u r ca z)) ((show T_paint S r0 c v = (((S.2.2.2 c).2 6 r0), (tC S c (mI (mA (S.2.2.2 c) 6 r0 v) 6 0))) from (if_neg hc5).trans ((if_neg hc17).trans (if_pos hc23))))) dX2_paint_69
      · refine gx_iload_n X dX2_paint_26 rfl 3 rfl ?_
        refine gx_callSI (As := [.int (iI v)]) (rest := []) X (hD _) lk_T_46 (c_T_isColour v (by omega)) jn_nil rfl ⟨by decide, by decide⟩ (Nat.le_of_ble_eq_true rfl) dX2_paint_27 ?_
        have hq27_0 := T_isColour_sp v
        refine gx_if_ne (tgt := 36) X dX2_paint_30 (by decide) (by omega) (fun hc30 => ?_) (fun hc30 => ?_)
        · refine gx_aload_n X dX2_paint_36 rfl 0 rfl ?_
          refine gT_band X dX2_paint_37 ?_
          refine gx_iload_n X dX2_paint_40 rfl 2 rfl ?_
          refine gT_card X (by omega) dX2_paint_41 ?_
          refine gx_astore X dX2_paint_42 (by decide) rfl ?_
          refine gx_aload X dX2_paint_44 0 rfl ?_
          refine gT_cr6 X (by omega) dX2_paint_46 ?_
          refine gx_iload_n X dX2_paint_49 rfl 2 rfl ?_
          refine gT_cl6 (v := ((S.2.2.2 c).2 6 r0)) X (by omega) (by omega) rfl dX2_paint_50 ?_
          have hr50 := InvC_a6 (InvTC_c hI c) r0
          refine gx_istore X dX2_paint_51 (by decide) rfl ?_
          refine gx_aload X dX2_paint_53 1 rfl ?_
          refine gT_cr6 X (by omega) dX2_paint_55 ?_
          refine gx_iload_n X dX2_paint_58 rfl 3 rfl ?_
          refine gx_iload_n X dX2_paint_59 rfl 5 rfl ?_
          refine gT_cs6 X (hD _) (by omega) (by omega) dX2_paint_60 ?_
          refine gx_aload X dX2_paint_61 1 rfl ?_
          refine gx_iconst (z := 0) X dX2_paint_63 rfl ?_
          refine gT_cp6 X (hD _) (by omega) (by decide) dX2_paint_64 ?_
          refine gx_eq (ws' := (wT K u r ca (tC S c (mI (mA (S.2.2.2 c) 6 r0 v) 6 0)))) ?_ (congrArg (wT K u r ca) (tC_upd S c (mA (S.2.2.2 c) 6 r0 v) (fun q : Sta => mI q 6 0))) rfl rfl
          refine gx_iload X dX2_paint_67 0 rfl ?_
          exact gx_iret hR (congrArg Prod.fst ((show T_paint S r0 c v = (((S.2.2.2 c).2 6 r0), (tC S c (mI (mA (S.2.2.2 c) 6 r0 v) 6 0))) from (if_neg hc5).trans ((if_neg hc17).trans ((if_neg hc23).trans (if_neg hc30)))))) (ret2 (fun z => (wT K u r ca z)) ((show T_paint S r0 c v = (((S.2.2.2 c).2 6 r0), (tC S c (mI (mA (S.2.2.2 c) 6 r0 v) 6 0))) from (if_neg hc5).trans ((if_neg hc17).trans ((if_neg hc23).trans (if_neg hc30)))))) dX2_paint_69
        · refine gx_bipush (z := (-2)) X dX2_paint_33 (by decide) ?_
          exact gx_iret hR (congrArg Prod.fst ((show T_paint S r0 c v = ((-2), S) from (if_neg hc5).trans ((if_neg hc17).trans ((if_neg hc23).trans (if_pos hc30)))))) (ret2 (fun z => (wT K u r ca z)) ((show T_paint S r0 c v = ((-2), S) from (if_neg hc5).trans ((if_neg hc17).trans ((if_neg hc23).trans (if_pos hc30)))))) dX2_paint_35
  · refine gx_iconst (z := (-1)) X dX2_paint_8 rfl ?_
    exact gx_iret hR (congrArg Prod.fst ((show T_paint S r0 c v = ((-1), S) from if_pos hc5))) (ret2 (fun z => (wT K u r ca z)) ((show T_paint S r0 c v = ((-1), S) from if_pos hc5))) dX2_paint_9
def T_forgetPlans_l2 (S : TS) : Nat → Int → TS → TS
  | 0, v1, S2 => S2
  | fu + 1, v1, S2 => if (S.1 0) ≤ v1 then S2 else T_forgetPlans_l2 S fu (v1 + 1) (tC S2 v1 (mI (S2.2.2.2 v1) 6 0))
theorem T_forgetPlans_l2_s (S : TS) (fu : Nat) (v1 : Int) (S2 : TS) : T_forgetPlans_l2 S (fu + 1) v1 S2 = (if (S.1 0) ≤ v1 then S2 else T_forgetPlans_l2 S fu (v1 + 1) (tC S2 v1 (mI (S2.2.2.2 v1) 6 0))) := rfl
def T_forgetPlans (S : TS) : TS := (T_forgetPlans_l2 S (17) 0 S)
set_option maxRecDepth 100000 in
theorem c_T_forgetPlans {l : Launch} {K : KK} {N : Int} (u r : Nat → Nat) (ca : Nat → Nat → Nat) (S : TS) (hI : InvTC N S) : CtV l yX2_forgetPlans cX2_forgetPlans 2 (0, 0) K [.ref (u 0)] (wT K u r ca S) (wT K u r ca (T_forgetPlans S)) := by
  refine ctV_of (by decide) (Nat.le_of_ble_eq_true rfl) ?_
  intro x X hD hR
  have hD : ∀ S9 : TS, va_D (cx_A x) (wT K u r ca S9) := fun S9 => va_D_same hD rfl
  have hs0 := InvTC_s0 hI
  have hs1 := InvTC_s1 hI
  have hs2 := InvTC_s2 hI
  have hs3 := InvTC_s3 hI
  refine gx_iconst (z := 0) X dX2_forgetPlans_0 rfl ?_
  refine gx_istore_n X dX2_forgetPlans_1 rfl (by decide) rfl ?_
  have L2 : ∀ (fu : Nat) (v1 : Int) (S2 : TS), (0 ≤ v1) → (v1 ≤ (S.1 0)) → (S2.1 = S.1) → ((S.1 0) - v1) < (fu : Int) → (∀ z2 : TS, T_forgetPlans_l2 S fu v1 S2 = z2 → (z2.1 = S.1) → GG l (rmK (0, 0)) K x (wT K u r ca z2) 26 [(0, .ref (u 0))] []) → GG l (rmK (0, 0)) K x (wT K u r ca S2) 2 [(0, .ref (u 0)), (1, .int (iI v1))] [] := by
    intro fu
    induction fu with
    | zero => intro v1 S2 hi2_0 hi2_1 hi2_2 hm2 K2; exact absurd hm2 (by omega)
    | succ fu ih =>
      intro v1 S2 hi2_0 hi2_1 hi2_2 hm2 K2
      refine gx_iload_n X dX2_forgetPlans_2 rfl 1 rfl ?_
      refine gx_aload_n X dX2_forgetPlans_3 rfl 0 rfl ?_
      refine gT_g0 (v := (S.1 0)) X (congrFun (hi2_2 ) 0) dX2_forgetPlans_4 ?_
      refine gx_icmp_ge (tgt := 26) X dX2_forgetPlans_7 (by decide) (by omega) (fun hc7 => ?_) (fun hc7 => ?_)
      · refine gx_sub [0] rfl ?_
        exact K2 S2 ((T_forgetPlans_l2_s S fu v1 S2).trans (if_pos hc7)) ((hi2_2 ))
      · refine gx_aload_n X dX2_forgetPlans_10 rfl 0 rfl ?_
        refine gT_band X dX2_forgetPlans_11 ?_
        refine gx_iload_n X dX2_forgetPlans_14 rfl 1 rfl ?_
        refine gT_card X (by omega) dX2_forgetPlans_15 ?_
        refine gx_iconst (z := 0) X dX2_forgetPlans_16 rfl ?_
        refine gT_cp6 X (hD _) (by omega) (by decide) dX2_forgetPlans_17 ?_
        refine gx_iinc X dX2_forgetPlans_20 1 rfl (by decide) rfl ?_
        refine gx_goto (tgt := 2) X dX2_forgetPlans_23 (by decide) ?_
        refine gx_sub [1, 0] rfl ?_
        exact ih (v1 + 1) (tC S2 v1 (mI (S2.2.2.2 v1) 6 0)) (by omega) (by omega) (hi2_2 ) (by omega) (fun z e hx => K2 z ((T_forgetPlans_l2_s S fu v1 S2).trans ((if_neg hc7).trans e)) hx)
  refine gx_sub [1, 0] rfl ?_
  refine L2 (17) 0 S (by omega) (by omega) rfl (by omega) (fun z2 e2 hx2 => ?_)
  exact gx_vret hR (congrArg (fun z : TS => (wT K u r ca z)) ((show T_forgetPlans S = z2 from e2))) dX2_forgetPlans_26
def T_rule (S : TS) (w : Int) (v : Int) : Int × TS := if w = 0 then if (T_within v 1 30) = 0 then if w = 1 then if (T_within v 0 9) = 0 then ((-2), S) else ((S.1 3), (T_forgetPlans (tI S 3 v))) else ((-2), S) else ((S.1 2), (T_forgetPlans (tI S 2 v))) else if w = 1 then if (T_within v 0 9) = 0 then ((-2), S) else ((S.1 3), (T_forgetPlans (tI S 3 v))) else ((-2), S)
set_option maxRecDepth 100000 in
theorem c_T_rule {l : Launch} {K : KK} {N : Int} (u r : Nat → Nat) (ca : Nat → Nat → Nat) (S : TS) (w : Int) (v : Int) (hI : InvTC N S) (hp1 : ok32 w) (hp2 : ok32 v) : CtI l yX2_rule cX2_rule 4 .int (1, 22) K [.ref (u 0), .int (iI w), .int (iI v)] (wT K u r ca S) (T_rule S w v).1 (wT K u r ca ((T_rule S w v).2)) := by
  refine ctI_of (by decide) (Nat.le_of_ble_eq_true rfl) rfl ?_
  intro x X hD hR
  have hD : ∀ S9 : TS, va_D (cx_A x) (wT K u r ca S9) := fun S9 => va_D_same hD rfl
  have hs0 := InvTC_s0 hI
  have hs1 := InvTC_s1 hI
  have hs2 := InvTC_s2 hI
  have hs3 := InvTC_s3 hI
  refine gx_iload_n X dX2_rule_0 rfl 1 rfl ?_
  refine gx_if_ne (tgt := 30) X dX2_rule_1 (by decide) (by omega) (fun hc1 => ?_) (fun hc1 => ?_)
  · refine gx_iload_n X dX2_rule_30 rfl 1 rfl ?_
    refine gx_iconst (z := 1) X dX2_rule_31 rfl ?_
    refine gx_icmp_ne (tgt := 61) X dX2_rule_32 (by decide) (by omega) (fun hc32 => ?_) (fun hc32 => ?_)
    · refine gx_bipush (z := (-2)) X dX2_rule_61 (by decide) ?_
      exact gx_iret hR (congrArg Prod.fst ((show T_rule S w v = ((-2), S) from (if_neg hc1).trans (if_neg hc32)))) (ret2 (fun z => (wT K u r ca z)) ((show T_rule S w v = ((-2), S) from (if_neg hc1).trans (if_neg hc32)))) dX2_rule_63
    · refine gx_iload_n X dX2_rule_35 rfl 2 rfl ?_
      refine gx_iconst (z := 0) X dX2_rule_36 rfl ?_
      refine gx_bipush (z := 9) X dX2_rule_37 (by decide) ?_
      refine gx_callSI (As := [.int (iI v), .int (iI 0), .int (iI 9)]) (rest := []) X (hD _) lk_T_31 (c_T_within v 0 9 (by omega) (by omega) (by omega)) jn_nil rfl ⟨by decide, by decide⟩ (Nat.le_of_ble_eq_true rfl) dX2_rule_39 ?_
      have hq39_0 := T_within_sp v 0 9
      refine gx_if_eq (tgt := 61) X dX2_rule_42 (by decide) (by omega) (fun hc42 => ?_) (fun hc42 => ?_)
      · refine gx_bipush (z := (-2)) X dX2_rule_61 (by decide) ?_
        exact gx_iret hR (congrArg Prod.fst ((show T_rule S w v = ((-2), S) from (if_neg hc1).trans ((if_pos hc32).trans (if_pos hc42))))) (ret2 (fun z => (wT K u r ca z)) ((show T_rule S w v = ((-2), S) from (if_neg hc1).trans ((if_pos hc32).trans (if_pos hc42))))) dX2_rule_63
      · refine gx_aload_n X dX2_rule_45 rfl 0 rfl ?_
        refine gT_g3 (v := (S.1 3)) X rfl dX2_rule_46 ?_
        refine gx_istore_n X dX2_rule_49 rfl (by decide) rfl ?_
        refine gx_aload_n X dX2_rule_50 rfl 1 rfl ?_
        refine gx_iload_n X dX2_rule_51 rfl 3 rfl ?_
        refine gT_p3 X (hD _) dX2_rule_52 ?_
        refine gx_aload_n X dX2_rule_55 rfl 1 rfl ?_
        refine gx_callVV (As := []) (rest := []) X (hD _) lk_T_151 (ci := 2) rfl rfl 0 rfl (c_T_forgetPlans u r ca (tI S 3 v)  (hI.tI3 (by omega))) jn_all rfl ⟨by decide, by decide⟩ (Nat.le_of_ble_eq_true rfl) dX2_rule_56 ?_
        refine gx_iload_n X dX2_rule_59 rfl 0 rfl ?_
        exact gx_iret hR (congrArg Prod.fst ((show T_rule S w v = ((S.1 3), (T_forgetPlans (tI S 3 v))) from (if_neg hc1).trans ((if_pos hc32).trans (if_neg hc42))))) (ret2 (fun z => (wT K u r ca z)) ((show T_rule S w v = ((S.1 3), (T_forgetPlans (tI S 3 v))) from (if_neg hc1).trans ((if_pos hc32).trans (if_neg hc42))))) dX2_rule_60
  · refine gx_iload_n X dX2_rule_4 rfl 2 rfl ?_
    refine gx_iconst (z := 1) X dX2_rule_5 rfl ?_
    refine gx_bipush (z := 30) X dX2_rule_6 (by decide) ?_
    refine gx_callSI (As := [.int (iI v), .int (iI 1), .int (iI 30)]) (rest := []) X (hD _) lk_T_31 (c_T_within v 1 30 (by omega) (by omega) (by omega)) jn_nil rfl ⟨by decide, by decide⟩ (Nat.le_of_ble_eq_true rfl) dX2_rule_8 ?_
    have hq8_0 := T_within_sp v 1 30
    refine gx_if_eq (tgt := 30) X dX2_rule_11 (by decide) (by omega) (fun hc11 => ?_) (fun hc11 => ?_)
    · refine gx_iload_n X dX2_rule_30 rfl 1 rfl ?_
      refine gx_iconst (z := 1) X dX2_rule_31 rfl ?_
      refine gx_icmp_ne (tgt := 61) X dX2_rule_32 (by decide) (by omega) (fun hc32 => ?_) (fun hc32 => ?_)
      · refine gx_bipush (z := (-2)) X dX2_rule_61 (by decide) ?_
        exact gx_iret hR (congrArg Prod.fst ((show T_rule S w v = ((-2), S) from (if_pos hc1).trans ((if_pos hc11).trans (if_neg hc32))))) (ret2 (fun z => (wT K u r ca z)) ((show T_rule S w v = ((-2), S) from (if_pos hc1).trans ((if_pos hc11).trans (if_neg hc32))))) dX2_rule_63
      · refine gx_iload_n X dX2_rule_35 rfl 2 rfl ?_
        refine gx_iconst (z := 0) X dX2_rule_36 rfl ?_
        refine gx_bipush (z := 9) X dX2_rule_37 (by decide) ?_
        refine gx_callSI (As := [.int (iI v), .int (iI 0), .int (iI 9)]) (rest := []) X (hD _) lk_T_31 (c_T_within v 0 9 (by omega) (by omega) (by omega)) jn_nil rfl ⟨by decide, by decide⟩ (Nat.le_of_ble_eq_true rfl) dX2_rule_39 ?_
        have hq39_0 := T_within_sp v 0 9
        refine gx_if_eq (tgt := 61) X dX2_rule_42 (by decide) (by omega) (fun hc42 => ?_) (fun hc42 => ?_)
        · refine gx_bipush (z := (-2)) X dX2_rule_61 (by decide) ?_
          exact gx_iret hR (congrArg Prod.fst ((show T_rule S w v = ((-2), S) from (if_pos hc1).trans ((if_pos hc11).trans ((if_pos hc32).trans (if_pos hc42)))))) (ret2 (fun z => (wT K u r ca z)) ((show T_rule S w v = ((-2), S) from (if_pos hc1).trans ((if_pos hc11).trans ((if_pos hc32).trans (if_pos hc42)))))) dX2_rule_63
        · refine gx_aload_n X dX2_rule_45 rfl 0 rfl ?_
          refine gT_g3 (v := (S.1 3)) X rfl dX2_rule_46 ?_
          refine gx_istore_n X dX2_rule_49 rfl (by decide) rfl ?_
          refine gx_aload_n X dX2_rule_50 rfl 1 rfl ?_
          refine gx_iload_n X dX2_rule_51 rfl 3 rfl ?_
          refine gT_p3 X (hD _) dX2_rule_52 ?_
          refine gx_aload_n X dX2_rule_55 rfl 1 rfl ?_
          refine gx_callVV (As := []) (rest := []) X (hD _) lk_T_151 (ci := 2) rfl rfl 0 rfl (c_T_forgetPlans u r ca (tI S 3 v)  (hI.tI3 (by omega))) jn_all rfl ⟨by decide, by decide⟩ (Nat.le_of_ble_eq_true rfl) dX2_rule_56 ?_
          refine gx_iload_n X dX2_rule_59 rfl 0 rfl ?_
          exact gx_iret hR (congrArg Prod.fst ((show T_rule S w v = ((S.1 3), (T_forgetPlans (tI S 3 v))) from (if_pos hc1).trans ((if_pos hc11).trans ((if_pos hc32).trans (if_neg hc42)))))) (ret2 (fun z => (wT K u r ca z)) ((show T_rule S w v = ((S.1 3), (T_forgetPlans (tI S 3 v))) from (if_pos hc1).trans ((if_pos hc11).trans ((if_pos hc32).trans (if_neg hc42)))))) dX2_rule_60
    · refine gx_aload_n X dX2_rule_14 rfl 0 rfl ?_
      refine gT_g2 (v := (S.1 2)) X rfl dX2_rule_15 ?_
      refine gx_istore_n X dX2_rule_18 rfl (by decide) rfl ?_
      refine gx_aload_n X dX2_rule_19 rfl 1 rfl ?_
      refine gx_iload_n X dX2_rule_20 rfl 3 rfl ?_
      refine gT_p2 X (hD _) dX2_rule_21 ?_
      refine gx_aload_n X dX2_rule_24 rfl 1 rfl ?_
      refine gx_callVV (As := []) (rest := []) X (hD _) lk_T_151 (ci := 2) rfl rfl 0 rfl (c_T_forgetPlans u r ca (tI S 2 v)  (hI.tI2 (by omega))) jn_all rfl ⟨by decide, by decide⟩ (Nat.le_of_ble_eq_true rfl) dX2_rule_25 ?_
      refine gx_iload_n X dX2_rule_28 rfl 0 rfl ?_
      exact gx_iret hR (congrArg Prod.fst ((show T_rule S w v = ((S.1 2), (T_forgetPlans (tI S 2 v))) from (if_pos hc1).trans (if_neg hc11)))) (ret2 (fun z => (wT K u r ca z)) ((show T_rule S w v = ((S.1 2), (T_forgetPlans (tI S 2 v))) from (if_pos hc1).trans (if_neg hc11)))) dX2_rule_29
def T_pick_l43 (S : TS) (f : Int) (b : Int) : Nat → Int → TS → TS
  | 0, v4, S43 => S43
  | fu + 1, v4, S43 => if (S.1 0) ≤ v4 then S43 else T_pick_l43 S f b fu (v4 + 1) (tC S43 v4 (C_turnIn (S43.2.2.2 v4) (S.1 1) (T_turnOfBits f b v4)))
theorem T_pick_l43_s (S : TS) (f : Int) (b : Int) (fu : Nat) (v4 : Int) (S43 : TS) : T_pick_l43 S f b (fu + 1) v4 S43 = (if (S.1 0) ≤ v4 then S43 else T_pick_l43 S f b fu (v4 + 1) (tC S43 v4 (C_turnIn (S43.2.2.2 v4) (S.1 1) (T_turnOfBits f b v4)))) := rfl
def T_pick_r43 (S : TS) (z43 : TS) : Int × TS := (((S.1 1) + 1), (tI z43 1 ((S.1 1) + 1)))
def T_pick (S : TS) (f : Int) (b : Int) : Int × TS := if (zi_and (zi_or f b) (zi_xor ((zi_shl 1 (S.1 0)) - 1) (-1))) = 0 then if (zi_and f b) = 0 then if (S.1 1) < 60 then (fun z43 => T_pick_r43 S z43) (T_pick_l43 S f b (17) 0 S) else ((-4), S) else ((-2), S) else ((-2), S)
set_option maxRecDepth 100000 in
theorem c_T_pick {l : Launch} {K : KK} {N : Int} (u r : Nat → Nat) (ca : Nat → Nat → Nat) (S : TS) (f : Int) (b : Int) (hI : InvTC N S) (hp1 : ok32 f) (hp2 : ok32 b) : CtI l yX2_pick cX2_pick 5 .int (4, 85) K [.ref (u 0), .int (iI f), .int (iI b)] (wT K u r ca S) (T_pick S f b).1 (wT K u r ca ((T_pick S f b).2)) := by
  refine ctI_of (by decide) (Nat.le_of_ble_eq_true rfl) rfl ?_
  intro x X hD hR
  have hD : ∀ S9 : TS, va_D (cx_A x) (wT K u r ca S9) := fun S9 => va_D_same hD rfl
  have hs0 := InvTC_s0 hI
  have hs1 := InvTC_s1 hI
  have hs2 := InvTC_s2 hI
  have hs3 := InvTC_s3 hI
  refine gx_iconst (z := 1) X dX2_pick_0 rfl ?_
  refine gx_aload_n X dX2_pick_1 rfl 0 rfl ?_
  refine gT_g0 (v := (S.1 0)) X rfl dX2_pick_2 ?_
  refine gx_ishl X dX2_pick_5 ?_
  have ho5 := ok_shl 1 (S.1 0)
  refine gx_iconst (z := 1) X dX2_pick_6 rfl ?_
  refine gx_isub X dX2_pick_7 ?_
  refine gx_istore_n X dX2_pick_8 rfl (by decide) rfl ?_
  refine gx_iload_n X dX2_pick_9 rfl 2 rfl ?_
  refine gx_iload_n X dX2_pick_10 rfl 3 rfl ?_
  refine gx_ior X dX2_pick_11 ?_
  have ho11 := ok_or f b
  refine gx_iload_n X dX2_pick_12 rfl 0 rfl ?_
  refine gx_iconst (z := (-1)) X dX2_pick_13 rfl ?_
  refine gx_ixor X dX2_pick_14 ?_
  have ho14 := ok_xor ((zi_shl 1 (S.1 0)) - 1) (-1)
  refine gx_iand X dX2_pick_15 ?_
  have ho15 := ok_and (zi_or f b) (zi_xor ((zi_shl 1 (S.1 0)) - 1) (-1))
  refine gx_if_ne (tgt := 25) X dX2_pick_16 (by decide) (by omega) (fun hc16 => ?_) (fun hc16 => ?_)
  · refine gx_bipush (z := (-2)) X dX2_pick_25 (by decide) ?_
    exact gx_iret hR (congrArg Prod.fst ((show T_pick S f b = ((-2), S) from if_neg hc16))) (ret2 (fun z => (wT K u r ca z)) ((show T_pick S f b = ((-2), S) from if_neg hc16))) dX2_pick_27
  · refine gx_iload_n X dX2_pick_19 rfl 2 rfl ?_
    refine gx_iload_n X dX2_pick_20 rfl 3 rfl ?_
    refine gx_iand X dX2_pick_21 ?_
    have ho21 := ok_and f b
    refine gx_if_eq (tgt := 28) X dX2_pick_22 (by decide) (by omega) (fun hc22 => ?_) (fun hc22 => ?_)
    · refine gx_aload_n X dX2_pick_28 rfl 1 rfl ?_
      refine gT_g1 (v := (S.1 1)) X rfl dX2_pick_29 ?_
      refine gx_bipush (z := 60) X dX2_pick_32 (by decide) ?_
      refine gx_icmp_lt (tgt := 40) X dX2_pick_34 (by decide) (by omega) (fun hc34 => ?_) (fun hc34 => ?_)
      · refine gx_iconst (z := 0) X dX2_pick_40 rfl ?_
        refine gx_istore X dX2_pick_41 (by decide) rfl ?_
        have L43 : ∀ (fu : Nat) (v4 : Int) (S43 : TS), (0 ≤ v4) → (v4 ≤ (S.1 0)) → (InvTC N S43) → (S43.1 = S.1) → ((S.1 0) - v4) < (fu : Int) → (∀ z43 : TS, T_pick_l43 S f b fu v4 S43 = z43 → (z43.1 = S.1) → GG l (rmK (4, 85)) K x (wT K u r ca z43) 79 [(0, .ref (u 0)), (1, .int (iI f)), (2, .int (iI b)), (3, .int (iI ((zi_shl 1 (S.1 0)) - 1)))] []) → GG l (rmK (4, 85)) K x (wT K u r ca S43) 43 [(0, .ref (u 0)), (1, .int (iI f)), (2, .int (iI b)), (3, .int (iI ((zi_shl 1 (S.1 0)) - 1))), (4, .int (iI v4))] [] := by
          intro fu
          induction fu with
          | zero => intro v4 S43 hi43_0 hi43_1 hi43_2 hi43_3 hm43 K43; exact absurd hm43 (by omega)
          | succ fu ih =>
            intro v4 S43 hi43_0 hi43_1 hi43_2 hi43_3 hm43 K43
            refine gx_iload X dX2_pick_43 4 rfl ?_
            refine gx_aload_n X dX2_pick_45 rfl 0 rfl ?_
            refine gT_g0 (v := (S.1 0)) X (congrFun (hi43_3 ) 0) dX2_pick_46 ?_
            refine gx_icmp_ge (tgt := 79) X dX2_pick_49 (by decide) (by omega) (fun hc49 => ?_) (fun hc49 => ?_)
            · refine gx_sub [0, 1, 2, 3] rfl ?_
              exact K43 S43 ((T_pick_l43_s S f b fu v4 S43).trans (if_pos hc49)) ((hi43_3 ))
            · refine gx_aload_n X dX2_pick_52 rfl 0 rfl ?_
              refine gT_band X dX2_pick_53 ?_
              refine gx_iload X dX2_pick_56 4 rfl ?_
              refine gT_card X (by omega) dX2_pick_58 ?_
              refine gx_aload_n X dX2_pick_59 rfl 0 rfl ?_
              refine gT_g1 (v := (S.1 1)) X (congrFun (hi43_3 ) 1) dX2_pick_60 ?_
              refine gx_iload_n X dX2_pick_63 rfl 1 rfl ?_
              refine gx_iload_n X dX2_pick_64 rfl 2 rfl ?_
              refine gx_iload X dX2_pick_65 4 rfl ?_
              refine gx_callSI (As := [.int (iI f), .int (iI b), .int (iI v4)]) (rest := [.int (iI (S.1 1)), .ref (ca v4.toNat 0)]) X (hD _) lk_T_84 (c_T_turnOfBits f b v4 (by omega) (by omega) (by omega)) jn_nil rfl ⟨by decide, by decide⟩ (Nat.le_of_ble_eq_true rfl) dX2_pick_67 ?_
              have hq67_0 := T_turnOfBits_rg f b v4
              refine gx_callVV (As := [.int (iI (S.1 1)), .int (iI (T_turnOfBits f b v4))]) (rest := []) X (hD _) lk_T_88 (ci := 0) rfl rfl 0 rfl (c_C_turnIn (ca v4.toNat) (S43.2.2.2 v4) (S.1 1) (T_turnOfBits f b v4) (show 0 ≤ (S43.2.2.2 v4).1 0 ∧ (S43.2.2.2 v4).1 0 ≤ 1 from InvC_s0 (InvTC_c hi43_2 v4)) (by omega) (by omega)) (jn_cd K u r ca S43 (by omega) _ rfl (hD _)) rfl ⟨by decide, by decide⟩ (Nat.le_of_ble_eq_true rfl) dX2_pick_70 ?_
              refine gx_iinc X dX2_pick_73 4 rfl (by decide) rfl ?_
              refine gx_goto (tgt := 43) X dX2_pick_76 (by decide) ?_
              refine gx_sub [1, 2, 3, 4, 0] rfl ?_
              exact ih (v4 + 1) (tC S43 v4 (C_turnIn (S43.2.2.2 v4) (S.1 1) (T_turnOfBits f b v4))) (by omega) (by omega) (hi43_2.tC (C_turnIn_inv (InvTC_c hi43_2 _) (by omega))) (hi43_3 ) (by omega) (fun z e hx => K43 z ((T_pick_l43_s S f b fu v4 S43).trans ((if_neg hc49).trans e)) hx)
        refine gx_sub [2, 3, 4, 1, 0] rfl ?_
        refine L43 (17) 0 S (by omega) (by omega) hI rfl (by omega) (fun z43 e43 hx43 => ?_)
        refine gx_aload_n X dX2_pick_79 rfl 0 rfl ?_
        refine gx_dup X dX2_pick_80 rfl ?_
        refine gT_g1 (v := (S.1 1)) X (congrFun (hx43 ) 1) dX2_pick_81 ?_
        refine gx_iconst (z := 1) X dX2_pick_84 rfl ?_
        refine gx_iadd X dX2_pick_85 ?_
        refine gT_p1 X (hD _) dX2_pick_86 ?_
        refine gx_aload_n X dX2_pick_89 rfl 0 rfl ?_
        refine gT_g1 (v := ((S.1 1) + 1)) X rfl dX2_pick_90 ?_
        exact gx_iret hR (congrArg Prod.fst ((show T_pick S f b = (((S.1 1) + 1), (tI z43 1 ((S.1 1) + 1))) from (if_pos hc16).trans ((if_pos hc22).trans ((if_pos hc34).trans (congrArg (fun z43 => T_pick_r43 S z43) e43)))))) (ret2 (fun z => (wT K u r ca z)) ((show T_pick S f b = (((S.1 1) + 1), (tI z43 1 ((S.1 1) + 1))) from (if_pos hc16).trans ((if_pos hc22).trans ((if_pos hc34).trans (congrArg (fun z43 => T_pick_r43 S z43) e43)))))) dX2_pick_93
      · refine gx_bipush (z := (-4)) X dX2_pick_37 (by decide) ?_
        exact gx_iret hR (congrArg Prod.fst ((show T_pick S f b = ((-4), S) from (if_pos hc16).trans ((if_pos hc22).trans (if_neg hc34))))) (ret2 (fun z => (wT K u r ca z)) ((show T_pick S f b = ((-4), S) from (if_pos hc16).trans ((if_pos hc22).trans (if_neg hc34))))) dX2_pick_39
    · refine gx_bipush (z := (-2)) X dX2_pick_25 (by decide) ?_
      exact gx_iret hR (congrArg Prod.fst ((show T_pick S f b = ((-2), S) from (if_pos hc16).trans (if_neg hc22)))) (ret2 (fun z => (wT K u r ca z)) ((show T_pick S f b = ((-2), S) from (if_pos hc16).trans (if_neg hc22)))) dX2_pick_27
def T_packs_l47 (S : TS) (a : Int) (b : Int) (c : Int) (d : Int) : Nat → Int → TS → TS
  | 0, v5, S47 => S47
  | fu + 1, v5, S47 => if (S.1 0) ≤ v5 then S47 else T_packs_l47 S a b c d fu (v5 + 1) (tC S47 v5 (C_turnIn (S47.2.2.2 v5) (S.1 1) (T_turnOfPack ((S47.2.2.2 v5).1 1) a b c d)))
theorem T_packs_l47_s (S : TS) (a : Int) (b : Int) (c : Int) (d : Int) (fu : Nat) (v5 : Int) (S47 : TS) : T_packs_l47 S a b c d (fu + 1) v5 S47 = (if (S.1 0) ≤ v5 then S47 else T_packs_l47 S a b c d fu (v5 + 1) (tC S47 v5 (C_turnIn (S47.2.2.2 v5) (S.1 1) (T_turnOfPack ((S47.2.2.2 v5).1 1) a b c d)))) := rfl
def T_packs_r47 (S : TS) (z47 : TS) : Int × TS := (((S.1 1) + 1), (tI z47 1 ((S.1 1) + 1)))
def T_packs (S : TS) (a : Int) (b : Int) (c : Int) (d : Int) : Int × TS := if (T_isTurn a) = 0 then ((-2), S) else if (T_isTurn b) = 0 then ((-2), S) else if (T_isTurn c) = 0 then ((-2), S) else if (T_isTurn d) = 0 then ((-2), S) else if (S.1 1) < 60 then (fun z47 => T_packs_r47 S z47) (T_packs_l47 S a b c d (17) 0 S) else ((-4), S)
set_option maxRecDepth 100000 in
theorem c_T_packs {l : Launch} {K : KK} {N : Int} (u r : Nat → Nat) (ca : Nat → Nat → Nat) (S : TS) (a : Int) (b : Int) (c : Int) (d : Int) (hI : InvTC N S) (hp1 : ok32 a) (hp2 : ok32 b) (hp3 : ok32 c) (hp4 : ok32 d) : CtI l yX2_packs cX2_packs 6 .int (4, 85) K [.ref (u 0), .int (iI a), .int (iI b), .int (iI c), .int (iI d)] (wT K u r ca S) (T_packs S a b c d).1 (wT K u r ca ((T_packs S a b c d).2)) := by
  refine ctI_of (by decide) (Nat.le_of_ble_eq_true rfl) rfl ?_
  intro x X hD hR
  have hD : ∀ S9 : TS, va_D (cx_A x) (wT K u r ca S9) := fun S9 => va_D_same hD rfl
  have hs0 := InvTC_s0 hI
  have hs1 := InvTC_s1 hI
  have hs2 := InvTC_s2 hI
  have hs3 := InvTC_s3 hI
  refine gx_iload_n X dX2_packs_0 rfl 1 rfl ?_
  refine gx_callSI (As := [.int (iI a)]) (rest := []) X (hD _) lk_T_92 (c_T_isTurn a (by omega)) jn_nil rfl ⟨by decide, by decide⟩ (Nat.le_of_ble_eq_true rfl) dX2_packs_1 ?_
  have hq1_0 := T_isTurn_sp a
  refine gx_if_eq (tgt := 29) X dX2_packs_4 (by decide) (by omega) (fun hc4 => ?_) (fun hc4 => ?_)
  · refine gx_bipush (z := (-2)) X dX2_packs_29 (by decide) ?_
    exact gx_iret hR (congrArg Prod.fst ((show T_packs S a b c d = ((-2), S) from if_pos hc4))) (ret2 (fun z => (wT K u r ca z)) ((show T_packs S a b c d = ((-2), S) from if_pos hc4))) dX2_packs_31
  · refine gx_iload_n X dX2_packs_7 rfl 2 rfl ?_
    refine gx_callSI (As := [.int (iI b)]) (rest := []) X (hD _) lk_T_92 (c_T_isTurn b (by omega)) jn_nil rfl ⟨by decide, by decide⟩ (Nat.le_of_ble_eq_true rfl) dX2_packs_8 ?_
    have hq8_0 := T_isTurn_sp b
    refine gx_if_eq (tgt := 29) X dX2_packs_11 (by decide) (by omega) (fun hc11 => ?_) (fun hc11 => ?_)
    · refine gx_bipush (z := (-2)) X dX2_packs_29 (by decide) ?_
      exact gx_iret hR (congrArg Prod.fst ((show T_packs S a b c d = ((-2), S) from (if_neg hc4).trans (if_pos hc11)))) (ret2 (fun z => (wT K u r ca z)) ((show T_packs S a b c d = ((-2), S) from (if_neg hc4).trans (if_pos hc11)))) dX2_packs_31
    · refine gx_iload_n X dX2_packs_14 rfl 3 rfl ?_
      refine gx_callSI (As := [.int (iI c)]) (rest := []) X (hD _) lk_T_92 (c_T_isTurn c (by omega)) jn_nil rfl ⟨by decide, by decide⟩ (Nat.le_of_ble_eq_true rfl) dX2_packs_15 ?_
      have hq15_0 := T_isTurn_sp c
      refine gx_if_eq (tgt := 29) X dX2_packs_18 (by decide) (by omega) (fun hc18 => ?_) (fun hc18 => ?_)
      · refine gx_bipush (z := (-2)) X dX2_packs_29 (by decide) ?_
        exact gx_iret hR (congrArg Prod.fst ((show T_packs S a b c d = ((-2), S) from (if_neg hc4).trans ((if_neg hc11).trans (if_pos hc18))))) (ret2 (fun z => (wT K u r ca z)) ((show T_packs S a b c d = ((-2), S) from (if_neg hc4).trans ((if_neg hc11).trans (if_pos hc18))))) dX2_packs_31
      · refine gx_iload X dX2_packs_21 4 rfl ?_
        refine gx_callSI (As := [.int (iI d)]) (rest := []) X (hD _) lk_T_92 (c_T_isTurn d (by omega)) jn_nil rfl ⟨by decide, by decide⟩ (Nat.le_of_ble_eq_true rfl) dX2_packs_23 ?_
        have hq23_0 := T_isTurn_sp d
        refine gx_if_ne (tgt := 32) X dX2_packs_26 (by decide) (by omega) (fun hc26 => ?_) (fun hc26 => ?_)
        · refine gx_aload_n X dX2_packs_32 rfl 0 rfl ?_
          refine gT_g1 (v := (S.1 1)) X rfl dX2_packs_33 ?_
          refine gx_bipush (z := 60) X dX2_packs_36 (by decide) ?_
          refine gx_icmp_lt (tgt := 44) X dX2_packs_38 (by decide) (by omega) (fun hc38 => ?_) (fun hc38 => ?_)
          · refine gx_iconst (z := 0) X dX2_packs_44 rfl ?_
            refine gx_istore X dX2_packs_45 (by decide) rfl ?_
            have L47 : ∀ (fu : Nat) (v5 : Int) (S47 : TS), (0 ≤ v5) → (v5 ≤ (S.1 0)) → (InvTC N S47) → (S47.1 = S.1) → ((S.1 0) - v5) < (fu : Int) → (∀ z47 : TS, T_packs_l47 S a b c d fu v5 S47 = z47 → (z47.1 = S.1) → GG l (rmK (4, 85)) K x (wT K u r ca z47) 94 [(0, .ref (u 0)), (1, .int (iI a)), (2, .int (iI b)), (3, .int (iI c)), (4, .int (iI d))] []) → GG l (rmK (4, 85)) K x (wT K u r ca S47) 47 [(0, .ref (u 0)), (1, .int (iI a)), (2, .int (iI b)), (3, .int (iI c)), (4, .int (iI d)), (5, .int (iI v5))] [] := by
              intro fu
              induction fu with
              | zero => intro v5 S47 hi47_0 hi47_1 hi47_2 hi47_3 hm47 K47; exact absurd hm47 (by omega)
              | succ fu ih =>
                intro v5 S47 hi47_0 hi47_1 hi47_2 hi47_3 hm47 K47
                refine gx_iload X dX2_packs_47 5 rfl ?_
                refine gx_aload_n X dX2_packs_49 rfl 0 rfl ?_
                refine gT_g0 (v := (S.1 0)) X (congrFun (hi47_3 ) 0) dX2_packs_50 ?_
                refine gx_icmp_ge (tgt := 94) X dX2_packs_53 (by decide) (by omega) (fun hc53 => ?_) (fun hc53 => ?_)
                · refine gx_sub [0, 1, 2, 3, 4] rfl ?_
                  exact K47 S47 ((T_packs_l47_s S a b c d fu v5 S47).trans (if_pos hc53)) ((hi47_3 ))
                · refine gx_aload_n X dX2_packs_56 rfl 0 rfl ?_
                  refine gT_band X dX2_packs_57 ?_
                  refine gx_iload X dX2_packs_60 5 rfl ?_
                  refine gT_card X (by omega) dX2_packs_62 ?_
                  refine gx_aload_n X dX2_packs_63 rfl 0 rfl ?_
                  refine gT_g1 (v := (S.1 1)) X (congrFun (hi47_3 ) 1) dX2_packs_64 ?_
                  refine gx_aload_n X dX2_packs_67 rfl 0 rfl ?_
                  refine gT_band X dX2_packs_68 ?_
                  refine gx_iload X dX2_packs_71 5 rfl ?_
                  refine gT_card X (by omega) dX2_packs_73 ?_
                  refine gT_cg1 (v := ((S47.2.2.2 v5).1 1)) X (by omega) rfl dX2_packs_74 ?_
                  have hg74 := InvC_s1 (InvTC_c hi47_2 v5)
                  refine gx_iload_n X dX2_packs_77 rfl 1 rfl ?_
                  refine gx_iload_n X dX2_packs_78 rfl 2 rfl ?_
                  refine gx_iload_n X dX2_packs_79 rfl 3 rfl ?_
                  refine gx_iload X dX2_packs_80 4 rfl ?_
                  refine gx_callSI (As := [.int (iI ((S47.2.2.2 v5).1 1)), .int (iI a), .int (iI b), .int (iI c), .int (iI d)]) (rest := [.int (iI (S.1 1)), .ref (ca v5.toNat 0)]) X (hD _) lk_T_95 (c_T_turnOfPack ((S47.2.2.2 v5).1 1) a b c d (by omega) (by omega) (by omega) (by omega) (by omega)) jn_nil rfl ⟨by decide, by decide⟩ (Nat.le_of_ble_eq_true rfl) dX2_packs_82 ?_
                  have hq82_0 := T_turnOfPack_sp ((S47.2.2.2 v5).1 1) a b c d
                  refine gx_callVV (As := [.int (iI (S.1 1)), .int (iI (T_turnOfPack ((S47.2.2.2 v5).1 1) a b c d))]) (rest := []) X (hD _) lk_T_88 (ci := 0) rfl rfl 0 rfl (c_C_turnIn (ca v5.toNat) (S47.2.2.2 v5) (S.1 1) (T_turnOfPack ((S47.2.2.2 v5).1 1) a b c d) (show 0 ≤ (S47.2.2.2 v5).1 0 ∧ (S47.2.2.2 v5).1 0 ≤ 1 from InvC_s0 (InvTC_c hi47_2 v5)) (by omega) (by omega)) (jn_cd K u r ca S47 (by omega) _ rfl (hD _)) rfl ⟨by decide, by decide⟩ (Nat.le_of_ble_eq_true rfl) dX2_packs_85 ?_
                  refine gx_iinc X dX2_packs_88 5 rfl (by decide) rfl ?_
                  refine gx_goto (tgt := 47) X dX2_packs_91 (by decide) ?_
                  refine gx_sub [1, 2, 3, 4, 5, 0] rfl ?_
                  exact ih (v5 + 1) (tC S47 v5 (C_turnIn (S47.2.2.2 v5) (S.1 1) (T_turnOfPack ((S47.2.2.2 v5).1 1) a b c d))) (by omega) (by omega) (hi47_2.tC (C_turnIn_inv (InvTC_c hi47_2 _) (by omega))) (hi47_3 ) (by omega) (fun z e hx => K47 z ((T_packs_l47_s S a b c d fu v5 S47).trans ((if_neg hc53).trans e)) hx)
            refine gx_sub [1, 2, 3, 4, 5, 0] rfl ?_
            refine L47 (17) 0 S (by omega) (by omega) hI rfl (by omega) (fun z47 e47 hx47 => ?_)
            refine gx_aload_n X dX2_packs_94 rfl 0 rfl ?_
            refine gx_dup X dX2_packs_95 rfl ?_
            refine gT_g1 (v := (S.1 1)) X (congrFun (hx47 ) 1) dX2_packs_96 ?_
            refine gx_iconst (z := 1) X dX2_packs_99 rfl ?_
            refine gx_iadd X dX2_packs_100 ?_
            refine gT_p1 X (hD _) dX2_packs_101 ?_
            refine gx_aload_n X dX2_packs_104 rfl 0 rfl ?_
            refine gT_g1 (v := ((S.1 1) + 1)) X rfl dX2_packs_105 ?_
            exact gx_iret hR (congrArg Prod.fst ((show T_packs S a b c d = (((S.1 1) + 1), (tI z47 1 ((S.1 1) + 1))) from (if_neg hc4).trans ((if_neg hc11).trans ((if_neg hc18).trans ((if_neg hc26).trans ((if_pos hc38).trans (congrArg (fun z47 => T_packs_r47 S z47) e47)))))))) (ret2 (fun z => (wT K u r ca z)) ((show T_packs S a b c d = (((S.1 1) + 1), (tI z47 1 ((S.1 1) + 1))) from (if_neg hc4).trans ((if_neg hc11).trans ((if_neg hc18).trans ((if_neg hc26).trans ((if_pos hc38).trans (congrArg (fun z47 => T_packs_r47 S z47) e47)))))))) dX2_packs_108
          · refine gx_bipush (z := (-4)) X dX2_packs_41 (by decide) ?_
            exact gx_iret hR (congrArg Prod.fst ((show T_packs S a b c d = ((-4), S) from (if_neg hc4).trans ((if_neg hc11).trans ((if_neg hc18).trans ((if_neg hc26).trans (if_neg hc38))))))) (ret2 (fun z => (wT K u r ca z)) ((show T_packs S a b c d = ((-4), S) from (if_neg hc4).trans ((if_neg hc11).trans ((if_neg hc18).trans ((if_neg hc26).trans (if_neg hc38))))))) dX2_packs_43
        · refine gx_bipush (z := (-2)) X dX2_packs_29 (by decide) ?_
          exact gx_iret hR (congrArg Prod.fst ((show T_packs S a b c d = ((-2), S) from (if_neg hc4).trans ((if_neg hc11).trans ((if_neg hc18).trans (if_pos hc26)))))) (ret2 (fun z => (wT K u r ca z)) ((show T_packs S a b c d = ((-2), S) from (if_neg hc4).trans ((if_neg hc11).trans ((if_neg hc18).trans (if_pos hc26)))))) dX2_packs_31
def T_unweave_l22 (S : TS) : Nat → Int → TS → TS
  | 0, v1, S22 => S22
  | fu + 1, v1, S22 => if (S.1 0) ≤ v1 then S22 else T_unweave_l22 S fu (v1 + 1) (tC S22 v1 (C_takeBack (S22.2.2.2 v1) ((S.1 1) - 1)))
theorem T_unweave_l22_s (S : TS) (fu : Nat) (v1 : Int) (S22 : TS) : T_unweave_l22 S (fu + 1) v1 S22 = (if (S.1 0) ≤ v1 then S22 else T_unweave_l22 S fu (v1 + 1) (tC S22 v1 (C_takeBack (S22.2.2.2 v1) ((S.1 1) - 1)))) := rfl
def T_unweave_r22 (S : TS) (z22 : TS) : Int × TS := (((S.1 1) - 1), z22)
def T_unweave (S : TS) : Int × TS := if 0 < (S.1 1) then (fun z22 => T_unweave_r22 S z22) (T_unweave_l22 S (17) 0 (tI S 1 ((S.1 1) - 1))) else ((-3), S)
set_option maxRecDepth 100000 in
theorem c_T_unweave {l : Launch} {K : KK} {N : Int} (u r : Nat → Nat) (ca : Nat → Nat → Nat) (S : TS) (hI : InvTC N S) (hp1 : 0 < S.1 1 → ∀ i : Int, 0 ≤ i → i < S.1 0 → (S.2.2.2 i).2 5 (S.1 1 - 1) ≤ (S.2.2.2 i).1 3) : CtI l yX2_unweave cX2_unweave 2 .int (4, 84) K [.ref (u 0)] (wT K u r ca S) (T_unweave S).1 (wT K u r ca ((T_unweave S).2)) := by
  refine ctI_of (by decide) (Nat.le_of_ble_eq_true rfl) rfl ?_
  intro x X hD hR
  have hD : ∀ S9 : TS, va_D (cx_A x) (wT K u r ca S9) := fun S9 => va_D_same hD rfl
  have hs0 := InvTC_s0 hI
  have hs1 := InvTC_s1 hI
  have hs2 := InvTC_s2 hI
  have hs3 := InvTC_s3 hI
  refine gx_aload_n X dX2_unweave_0 rfl 0 rfl ?_
  refine gT_g1 (v := (S.1 1)) X rfl dX2_unweave_1 ?_
  refine gx_if_gt (tgt := 10) X dX2_unweave_4 (by decide) (by omega) (fun hc4 => ?_) (fun hc4 => ?_)
  · refine gx_aload_n X dX2_unweave_10 rfl 0 rfl ?_
    refine gx_dup X dX2_unweave_11 rfl ?_
    refine gT_g1 (v := (S.1 1)) X rfl dX2_unweave_12 ?_
    refine gx_iconst (z := 1) X dX2_unweave_15 rfl ?_
    refine gx_isub X dX2_unweave_16 ?_
    refine gT_p1 X (hD _) dX2_unweave_17 ?_
    refine gx_iconst (z := 0) X dX2_unweave_20 rfl ?_
    refine gx_istore_n X dX2_unweave_21 rfl (by decide) rfl ?_
    have L22 : ∀ (fu : Nat) (v1 : Int) (S22 : TS), (0 ≤ v1) → (v1 ≤ (S.1 0)) → (InvTC N S22) → (∀ j : Int, v1 ≤ j → S22.2.2.2 j = S.2.2.2 j) → (S22.1 = (tI S 1 ((S.1 1) - 1)).1) → ((S.1 0) - v1) < (fu : Int) → (∀ z22 : TS, T_unweave_l22 S fu v1 S22 = z22 → (z22.1 = (tI S 1 ((S.1 1) - 1)).1) → GG l (rmK (4, 84)) K x (wT K u r ca z22) 49 [(0, .ref (u 0))] []) → GG l (rmK (4, 84)) K x (wT K u r ca S22) 22 [(0, .ref (u 0)), (1, .int (iI v1))] [] := by
      intro fu
      induction fu with
      | zero => intro v1 S22 hi22_0 hi22_1 hi22_2 hi22_3 hi22_4 hm22 K22; exact absurd hm22 (by omega)
      | succ fu ih =>
        intro v1 S22 hi22_0 hi22_1 hi22_2 hi22_3 hi22_4 hm22 K22
        refine gx_iload_n X dX2_unweave_22 rfl 1 rfl ?_
        refine gx_aload_n X dX2_unweave_23 rfl 0 rfl ?_
        refine gT_g0 (v := (S.1 0)) X (congrFun (hi22_4 ) 0) dX2_unweave_24 ?_
        refine gx_icmp_ge (tgt := 49) X dX2_unweave_27 (by decide) (by omega) (fun hc27 => ?_) (fun hc27 => ?_)
        · refine gx_sub [0] rfl ?_
          exact K22 S22 ((T_unweave_l22_s S fu v1 S22).trans (if_pos hc27)) ((hi22_4 ))
        · refine gx_aload_n X dX2_unweave_30 rfl 0 rfl ?_
          refine gT_band X dX2_unweave_31 ?_
          refine gx_iload_n X dX2_unweave_34 rfl 1 rfl ?_
          refine gT_card X (by omega) dX2_unweave_35 ?_
          refine gx_aload_n X dX2_unweave_36 rfl 0 rfl ?_
          refine gT_g1 (v := ((S.1 1) - 1)) X (congrFun (hi22_4 ) 1) dX2_unweave_37 ?_
          refine gx_callVV (As := [.int (iI ((S.1 1) - 1))]) (rest := []) X (hD _) lk_T_99 (ci := 0) rfl rfl 0 rfl (c_C_takeBack (ca v1.toNat) (S22.2.2.2 v1) ((S.1 1) - 1) (InvTC_c hi22_2 v1) (by omega) (by rw [hi22_3 _ (Int.le_refl _)]; exact hp1 (by omega) _ (by omega) (by omega))) (jn_cd K u r ca S22 (by omega) _ rfl (hD _)) rfl ⟨by decide, by decide⟩ (Nat.le_of_ble_eq_true rfl) dX2_unweave_40 ?_
          refine gx_iinc X dX2_unweave_43 1 rfl (by decide) rfl ?_
          refine gx_goto (tgt := 22) X dX2_unweave_46 (by decide) ?_
          refine gx_sub [1, 0] rfl ?_
          exact ih (v1 + 1) (tC S22 v1 (C_takeBack (S22.2.2.2 v1) ((S.1 1) - 1))) (by omega) (by omega) (hi22_2.tC (C_takeBack_inv (InvTC_c hi22_2 _))) (fun j hj => (tC_ne _ _ (by omega)).trans (hi22_3 j (by omega))) (hi22_4 ) (by omega) (fun z e hx => K22 z ((T_unweave_l22_s S fu v1 S22).trans ((if_neg hc27).trans e)) hx)
    refine gx_sub [1, 0] rfl ?_
    refine L22 (17) 0 (tI S 1 ((S.1 1) - 1)) (by omega) (by omega) (hI.tI1 (by omega)) (fun _ _ => rfl) rfl (by omega) (fun z22 e22 hx22 => ?_)
    refine gx_aload_n X dX2_unweave_49 rfl 0 rfl ?_
    refine gT_g1 (v := ((S.1 1) - 1)) X (congrFun (hx22 ) 1) dX2_unweave_50 ?_
    exact gx_iret hR (congrArg Prod.fst ((show T_unweave S = (((S.1 1) - 1), z22) from (if_pos hc4).trans (congrArg (fun z22 => T_unweave_r22 S z22) e22)))) (ret2 (fun z => (wT K u r ca z)) ((show T_unweave S = (((S.1 1) - 1), z22) from (if_pos hc4).trans (congrArg (fun z22 => T_unweave_r22 S z22) e22)))) dX2_unweave_53
  · refine gx_bipush (z := (-3)) X dX2_unweave_7 (by decide) ?_
    exact gx_iret hR (congrArg Prod.fst ((show T_unweave S = ((-3), S) from if_neg hc4))) (ret2 (fun z => (wT K u r ca z)) ((show T_unweave S = ((-3), S) from if_neg hc4))) dX2_unweave_9
def T_listWrongTurns_l19 (S : TS) (i : Int) (v4 : Int) : Nat → Int → Int → TS → Int × TS
  | 0, v3', v5, S19 => (v3', S19)
  | fu + 1, v3', v5, S19 => if 3 ≤ v5 then (v3', S19) else (fun (m66a : Int) (S66 : TS) => T_listWrongTurns_l19 S i v4 fu m66a (v5 + 1) S66) (if v5 = ((S.2.2.2 i).2 2 v4) then v3' else if (C_fitsWith (S.2.2.2 i) v4 v5 (T_wovenRows S)) = 0 then v3' else (v3' + 1)) (if v5 = ((S.2.2.2 i).2 2 v4) then S19 else if (C_fitsWith (S.2.2.2 i) v4 v5 (T_wovenRows S)) = 0 then S19 else (tW S19 v3' ((10 * v4) + v5)))
theorem T_listWrongTurns_l19_s (S : TS) (i : Int) (v4 : Int) (fu : Nat) (v3' : Int) (v5 : Int) (S19 : TS) : T_listWrongTurns_l19 S i v4 (fu + 1) v3' v5 S19 = (if 3 ≤ v5 then (v3', S19) else (fun (m66a : Int) (S66 : TS) => T_listWrongTurns_l19 S i v4 fu m66a (v5 + 1) S66) (if v5 = ((S.2.2.2 i).2 2 v4) then v3' else if (C_fitsWith (S.2.2.2 i) v4 v5 (T_wovenRows S)) = 0 then v3' else (v3' + 1)) (if v5 = ((S.2.2.2 i).2 2 v4) then S19 else if (C_fitsWith (S.2.2.2 i) v4 v5 (T_wovenRows S)) = 0 then S19 else (tW S19 v3' ((10 * v4) + v5)))) := rfl
def T_listWrongTurns_l10 (S : TS) (i : Int) : Nat → Int → Int → TS → Int × TS
  | 0, v3, v4, S10 => (v3, S10)
  | fu + 1, v3, v4, S10 => if (T_wovenRows S) ≤ v4 then (v3, S10) else (fun (z19 : Int × TS) => T_listWrongTurns_l10 S i fu z19.1 (v4 + 1) z19.2) (T_listWrongTurns_l19 S i v4 (4) v3 0 S10)
theorem T_listWrongTurns_l10_s (S : TS) (i : Int) (fu : Nat) (v3 : Int) (v4 : Int) (S10 : TS) : T_listWrongTurns_l10 S i (fu + 1) v3 v4 S10 = (if (T_wovenRows S) ≤ v4 then (v3, S10) else (fun (z19 : Int × TS) => T_listWrongTurns_l10 S i fu z19.1 (v4 + 1) z19.2) (T_listWrongTurns_l19 S i v4 (4) v3 0 S10)) := rfl
def T_listWrongTurns_r10 (z10 : Int × TS) : Int × TS := (z10.1, z10.2)
def T_listWrongTurns (S : TS) (i : Int) : Int × TS := (fun z10 => T_listWrongTurns_r10 z10) (T_listWrongTurns_l10 S i (31) 0 0 S)
set_option maxRecDepth 100000 in
theorem c_T_listWrongTurns {l : Launch} {K : KK} {N : Int} (u r : Nat → Nat) (ca : Nat → Nat → Nat) (S : TS) (i : Int) (hI : InvTC N S) (hp1 : 0 ≤ i ∧ i < 16) : CtI l yX2_listWrongTurns cX2_listWrongTurns 6 .int (2, 49) K [.ref (u 0), .ref (ca i.toNat 0)] (wT K u r ca S) (T_listWrongTurns S i).1 (wT K u r ca ((T_listWrongTurns S i).2)) := by
  refine ctI_of (by decide) (Nat.le_of_ble_eq_true rfl) rfl ?_
  intro x X hD hR
  have hD : ∀ S9 : TS, va_D (cx_A x) (wT K u r ca S9) := fun S9 => va_D_same hD rfl
  have hs0 := InvTC_s0 hI
  have hs1 := InvTC_s1 hI
  have hs2 := InvTC_s2 hI
  have hs3 := InvTC_s3 hI
  have hw := T_wovenRows_sp S
  refine gx_aload_n X dX2_listWrongTurns_0 rfl 0 rfl ?_
  refine gx_callVI (As := []) (rest := []) X (hD _) lk_T_157 (ci := 2) rfl rfl 0 rfl (c_T_wovenRows u r ca S  hI) jn_all rfl ⟨by decide, by decide⟩ (Nat.le_of_ble_eq_true rfl) dX2_listWrongTurns_1 ?_
  have hq1_0 := T_wovenRows_sp S 
  refine gx_istore_n X dX2_listWrongTurns_4 rfl (by decide) rfl ?_
  refine gx_iconst (z := 0) X dX2_listWrongTurns_5 rfl ?_
  refine gx_istore_n X dX2_listWrongTurns_6 rfl (by decide) rfl ?_
  refine gx_iconst (z := 0) X dX2_listWrongTurns_7 rfl ?_
  refine gx_istore X dX2_listWrongTurns_8 (by decide) rfl ?_
  have L10 : ∀ (fu : Nat) (v3 : Int) (v4 : Int) (S10 : TS), (0 ≤ v4 ∧ v4 ≤ (T_wovenRows S)) → (0 ≤ v3 ∧ v3 ≤ 2 * v4) → (S10.1 = S.1) → (S10.2.2.2 = S.2.2.2) → ((T_wovenRows S) - v4) < (fu : Int) → (∀ z10 : Int × TS, T_listWrongTurns_l10 S i fu v3 v4 S10 = z10 → (z10.2.1 = S.1) ∧ (z10.2.2.2.2 = S.2.2.2) → GG l (rmK (2, 49)) K x (wT K u r ca z10.2) 78 [(0, .ref (u 0)), (1, .ref (ca i.toNat 0)), (2, .int (iI (T_wovenRows S))), (3, .int (iI z10.1))] []) → GG l (rmK (2, 49)) K x (wT K u r ca S10) 10 [(0, .ref (u 0)), (1, .ref (ca i.toNat 0)), (2, .int (iI (T_wovenRows S))), (3, .int (iI v3)), (4, .int (iI v4))] [] := by
    intro fu
    induction fu with
    | zero => intro v3 v4 S10 hi10_0 hi10_1 hi10_2 hi10_3 hm10 K10; exact absurd hm10 (by omega)
    | succ fu ih =>
      intro v3 v4 S10 hi10_0 hi10_1 hi10_2 hi10_3 hm10 K10
      refine gx_iload X dX2_listWrongTurns_10 4 rfl ?_
      refine gx_iload_n X dX2_listWrongTurns_12 rfl 2 rfl ?_
      refine gx_icmp_ge (tgt := 78) X dX2_listWrongTurns_13 (by decide) (by omega) (fun hc13 => ?_) (fun hc13 => ?_)
      · refine gx_sub [0, 1, 2, 3] rfl ?_
        exact K10 (v3, S10) ((T_listWrongTurns_l10_s S i fu v3 v4 S10).trans (if_pos hc13)) ⟨(hi10_2 ), (hi10_3 )⟩
      · have ht4 := InvC_a2 (InvTC_c hI i) v4
        refine gx_iconst (z := 0) X dX2_listWrongTurns_16 rfl ?_
        refine gx_istore X dX2_listWrongTurns_17 (by decide) rfl ?_
        have L19 : ∀ (fu : Nat) (v3' : Int) (v5 : Int) (S19 : TS), (0 ≤ v5 ∧ v5 ≤ 3) → (0 ≤ v3' ∧ v3' ≤ 2 * v4 + v5) → ((S.2.2.2 i).2 2 v4 < v5 → v3' ≤ 2 * v4 + v5 - 1) → (S19.1 = S10.1) → (S19.2.2.2 = S10.2.2.2) → (3 - v5) < (fu : Int) → (∀ z19 : Int × TS, T_listWrongTurns_l19 S i v4 fu v3' v5 S19 = z19 → (0 ≤ z19.1 ∧ z19.1 ≤ 2 * v4 + 2) ∧ (z19.2.1 = S10.1) ∧ (z19.2.2.2.2 = S10.2.2.2) → GG l (rmK (2, 49)) K x (wT K u r ca z19.2) 72 [(0, .ref (u 0)), (1, .ref (ca i.toNat 0)), (2, .int (iI (T_wovenRows S))), (3, .int (iI z19.1)), (4, .int (iI v4))] []) → GG l (rmK (2, 49)) K x (wT K u r ca S19) 19 [(0, .ref (u 0)), (1, .ref (ca i.toNat 0)), (2, .int (iI (T_wovenRows S))), (3, .int (iI v3')), (4, .int (iI v4)), (5, .int (iI v5))] [] := by
          intro fu
          induction fu with
          | zero => intro v3' v5 S19 hi19_0 hi19_1 hi19_2 hi19_3 hi19_4 hm19 K19; exact absurd hm19 (by omega)
          | succ fu ih =>
            intro v3' v5 S19 hi19_0 hi19_1 hi19_2 hi19_3 hi19_4 hm19 K19
            refine gx_iload X dX2_listWrongTurns_19 5 rfl ?_
            refine gx_iconst (z := 3) X dX2_listWrongTurns_21 rfl ?_
            refine gx_icmp_ge (tgt := 72) X dX2_listWrongTurns_22 (by decide) (by omega) (fun hc22 => ?_) (fun hc22 => ?_)
            · refine gx_sub [0, 1, 2, 3, 4] rfl ?_
              exact K19 (v3', S19) ((T_listWrongTurns_l19_s S i v4 fu v3' v5 S19).trans (if_pos hc22)) ⟨by omega, (hi19_3 ), (hi19_4 )⟩
            · refine gx_iload X dX2_listWrongTurns_25 5 rfl ?_
              refine gx_aload_n X dX2_listWrongTurns_27 rfl 1 rfl ?_
              refine gT_cr2 X (by omega) dX2_listWrongTurns_28 ?_
              refine gx_iload X dX2_listWrongTurns_31 4 rfl ?_
              refine gT_cl2 (v := ((S.2.2.2 i).2 2 v4)) X (by omega) (by omega) (congrArg (fun q : Sta => q.2 2 v4) ((congrFun (hi19_4 ) i).trans (congrFun (hi10_3 ) i))) dX2_listWrongTurns_33 ?_
              have hr33 := InvC_a2 (InvTC_c hI i) v4
              have J66 : ∀ (m66a : Int) (S66 : TS), m66a = (if v5 = ((S.2.2.2 i).2 2 v4) then v3' else if (C_fitsWith (S.2.2.2 i) v4 v5 (T_wovenRows S)) = 0 then v3' else (v3' + 1)) → S66 = (if v5 = ((S.2.2.2 i).2 2 v4) then S19 else if (C_fitsWith (S.2.2.2 i) v4 v5 (T_wovenRows S)) = 0 then S19 else (tW S19 v3' ((10 * v4) + v5))) → (S66.1 = S19.1) → (S66.2.2.2 = S19.2.2.2) → GG l (rmK (2, 49)) K x (wT K u r ca S66) 66 [(0, .ref (u 0)), (1, .ref (ca i.toNat 0)), (2, .int (iI (T_wovenRows S))), (3, .int (iI m66a)), (4, .int (iI v4)), (5, .int (iI v5))] [] := by
                intro m66a S66 e_m66a e_S66 hf66_0 hf66_1
                refine gx_iinc X dX2_listWrongTurns_66 5 rfl (by decide) rfl ?_
                refine gx_goto (tgt := 19) X dX2_listWrongTurns_69 (by decide) ?_
                refine gx_sub [1, 2, 3, 4, 5, 0] rfl ?_
                subst e_m66a
                subst e_S66
                exact ih _ _ _ (by omega) (by omega) (by omega) (((hf66_0 )).trans (hi19_3 )) (((hf66_1 )).trans (hi19_4 )) (by omega) (fun z e hx => K19 z ((T_listWrongTurns_l19_s S i v4 fu v3' v5 S19).trans ((if_neg hc22).trans e)) hx)
              refine gx_icmp_eq (tgt := 66) X dX2_listWrongTurns_34 (by decide) (by omega) (fun hc34 => ?_) (fun hc34 => ?_)
              · refine gx_sub [0, 1, 2, 3, 4, 5] rfl ?_
                exact J66 v3' S19 ((if_pos hc34).symm) ((if_pos hc34).symm) rfl rfl
              · refine gx_aload_n X dX2_listWrongTurns_37 rfl 1 rfl ?_
                refine gx_iload X dX2_listWrongTurns_38 4 rfl ?_
                refine gx_iload X dX2_listWrongTurns_40 5 rfl ?_
                refine gx_iload_n X dX2_listWrongTurns_42 rfl 2 rfl ?_
                refine gx_callVI (As := [.int (iI v4), .int (iI v5), .int (iI (T_wovenRows S))]) (rest := []) X (hD _) lk_T_218 (ci := 0) rfl rfl 0 rfl (c_C_fitsWith (ca i.toNat) (S.2.2.2 i) v4 v5 (T_wovenRows S) (InvTC_c hI i) (by omega) (by omega) (by omega)) (jn_cdP K u r ca S19 (by omega) ((congrFun (hi19_4 ) i).trans (congrFun (hi10_3 ) i)) (hD _)) rfl ⟨by decide, by decide⟩ (Nat.le_of_ble_eq_true rfl) dX2_listWrongTurns_43 ?_
                have hq43_0 := C_fitsWith_01 (S.2.2.2 i) v4 v5 (T_wovenRows S)
                refine gx_if_eq (tgt := 66) X dX2_listWrongTurns_46 (by decide) (by omega) (fun hc46 => ?_) (fun hc46 => ?_)
                · refine gx_sub [0, 1, 2, 3, 4, 5] rfl ?_
                  exact J66 v3' S19 (((if_neg hc34).trans (if_pos hc46)).symm) (((if_neg hc34).trans (if_pos hc46)).symm) rfl rfl
                · refine gx_aload_n X dX2_listWrongTurns_49 rfl 0 rfl ?_
                  refine gT_wrongTurns X dX2_listWrongTurns_50 ?_
                  refine gx_iload_n X dX2_listWrongTurns_53 rfl 3 rfl ?_
                  refine gx_bipush (z := 10) X dX2_listWrongTurns_54 (by decide) ?_
                  refine gx_iload X dX2_listWrongTurns_56 4 rfl ?_
                  refine gx_imul X dX2_listWrongTurns_58 ?_
                  refine gx_iload X dX2_listWrongTurns_59 5 rfl ?_
                  refine gx_iadd X dX2_listWrongTurns_61 ?_
                  refine gT_sW X (hD _) (by omega) dX2_listWrongTurns_62 ?_
                  refine gx_iinc X dX2_listWrongTurns_63 3 rfl (by decide) rfl ?_
                  refine gx_sub [1, 2, 3, 0, 4, 5] rfl ?_
                  exact J66 (v3' + 1) (tW S19 v3' ((10 * v4) + v5)) (((if_neg hc34).trans (if_neg hc46)).symm) (((if_neg hc34).trans (if_neg hc46)).symm) rfl rfl
        refine gx_sub [1, 2, 3, 4, 5, 0] rfl ?_
        refine L19 (4) v3 0 S10 (by omega) (by omega) (by omega) rfl rfl (by omega) (fun z19 e19 hx19 => ?_)
        refine gx_iinc X dX2_listWrongTurns_72 4 rfl (by decide) rfl ?_
        refine gx_goto (tgt := 10) X dX2_listWrongTurns_75 (by decide) ?_
        refine gx_sub [1, 2, 3, 4, 0] rfl ?_
        subst e19
        exact ih _ _ _ (by omega) (by omega) (((hx19.2.1 )).trans (hi10_2 )) (((hx19.2.2 )).trans (hi10_3 )) (by omega) (fun z e hx => K10 z ((T_listWrongTurns_l10_s S i fu v3 v4 S10).trans ((if_neg hc13).trans e)) hx)
  refine gx_sub [3, 4, 2, 1, 0] rfl ?_
  refine L10 (31) 0 0 S (by omega) (by omega) rfl rfl (by omega) (fun z10 e10 hx10 => ?_)
  refine gx_iload_n X dX2_listWrongTurns_78 rfl 3 rfl ?_
  exact gx_iret hR (congrArg Prod.fst ((show T_listWrongTurns S i = (z10.1, z10.2) from congrArg (fun z10 => T_listWrongTurns_r10 z10) e10))) (ret2 (fun z => (wT K u r ca z)) ((show T_listWrongTurns S i = (z10.1, z10.2) from congrArg (fun z10 => T_listWrongTurns_r10 z10) e10))) dX2_listWrongTurns_79
