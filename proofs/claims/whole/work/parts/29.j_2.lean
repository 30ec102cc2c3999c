theorem dJ7_rangeCheck_23922_0 : decode cJ7_rangeCheck_23922 0 = .ok (.iload_n 1, 1) := by decide +kernel
theorem dJ7_rangeCheck_23922_1 : decode cJ7_rangeCheck_23922 1 = .ok (.iload_n 2, 1) := by decide +kernel
theorem dJ7_rangeCheck_23922_2 : decode cJ7_rangeCheck_23922 2 = .ok (.if_icmp .le 44, 3) := by decide +kernel
theorem dJ7_rangeCheck_23922_5 : decode cJ7_rangeCheck_23922 5 = .ok (.new 43, 3) := by decide +kernel
theorem dJ7_rangeCheck_23922_8 : decode cJ7_rangeCheck_23922 8 = .ok (.dup, 1) := by decide +kernel
theorem dJ7_rangeCheck_23922_9 : decode cJ7_rangeCheck_23922 9 = .ok (.new 45, 3) := by decide +kernel
theorem dJ7_rangeCheck_23922_12 : decode cJ7_rangeCheck_23922 12 = .ok (.dup, 1) := by decide +kernel
theorem dJ7_rangeCheck_23922_13 : decode cJ7_rangeCheck_23922 13 = .ok (.invokespecial 47, 3) := by decide +kernel
theorem dJ7_rangeCheck_23922_16 : decode cJ7_rangeCheck_23922 16 = .ok (.ldc 48, 2) := by decide +kernel
theorem dJ7_rangeCheck_23922_18 : decode cJ7_rangeCheck_23922 18 = .ok (.invokevirtual 50, 3) := by decide +kernel
theorem dJ7_rangeCheck_23922_21 : decode cJ7_rangeCheck_23922 21 = .ok (.iload_n 1, 1) := by decide +kernel
theorem dJ7_rangeCheck_23922_22 : decode cJ7_rangeCheck_23922 22 = .ok (.invokevirtual 54, 3) := by decide +kernel
theorem dJ7_rangeCheck_23922_25 : decode cJ7_rangeCheck_23922 25 = .ok (.ldc 57, 2) := by decide +kernel
theorem dJ7_rangeCheck_23922_27 : decode cJ7_rangeCheck_23922 27 = .ok (.invokevirtual 50, 3) := by decide +kernel
theorem dJ7_rangeCheck_23922_30 : decode cJ7_rangeCheck_23922 30 = .ok (.iload_n 2, 1) := by decide +kernel
theorem dJ7_rangeCheck_23922_31 : decode cJ7_rangeCheck_23922 31 = .ok (.invokevirtual 54, 3) := by decide +kernel
theorem dJ7_rangeCheck_23922_34 : decode cJ7_rangeCheck_23922 34 = .ok (.ldc 59, 2) := by decide +kernel
theorem dJ7_rangeCheck_23922_36 : decode cJ7_rangeCheck_23922 36 = .ok (.invokevirtual 50, 3) := by decide +kernel
theorem dJ7_rangeCheck_23922_39 : decode cJ7_rangeCheck_23922 39 = .ok (.invokevirtual 61, 3) := by decide +kernel
theorem dJ7_rangeCheck_23922_42 : decode cJ7_rangeCheck_23922 42 = .ok (.invokespecial 65, 3) := by decide +kernel
theorem dJ7_rangeCheck_23922_45 : decode cJ7_rangeCheck_23922 45 = .ok (.athrow, 1) := by decide +kernel
theorem dJ7_rangeCheck_23922_46 : decode cJ7_rangeCheck_23922 46 = .ok (.iload_n 1, 1) := by decide +kernel
theorem dJ7_rangeCheck_23922_47 : decode cJ7_rangeCheck_23922 47 = .ok (.ifCond .ge 12, 3) := by decide +kernel
theorem dJ7_rangeCheck_23922_50 : decode cJ7_rangeCheck_23922 50 = .ok (.new 68, 3) := by decide +kernel
theorem dJ7_rangeCheck_23922_53 : decode cJ7_rangeCheck_23922 53 = .ok (.dup, 1) := by decide +kernel
theorem dJ7_rangeCheck_23922_54 : decode cJ7_rangeCheck_23922 54 = .ok (.iload_n 1, 1) := by decide +kernel
theorem dJ7_rangeCheck_23922_55 : decode cJ7_rangeCheck_23922 55 = .ok (.invokespecial 70, 3) := by decide +kernel
theorem dJ7_rangeCheck_23922_58 : decode cJ7_rangeCheck_23922 58 = .ok (.athrow, 1) := by decide +kernel
theorem dJ7_rangeCheck_23922_59 : decode cJ7_rangeCheck_23922 59 = .ok (.iload_n 2, 1) := by decide +kernel
theorem dJ7_rangeCheck_23922_60 : decode cJ7_rangeCheck_23922 60 = .ok (.iload_n 0, 1) := by decide +kernel
theorem dJ7_rangeCheck_23922_61 : decode cJ7_rangeCheck_23922 61 = .ok (.if_icmp .le 12, 3) := by decide +kernel
theorem dJ7_rangeCheck_23922_64 : decode cJ7_rangeCheck_23922 64 = .ok (.new 68, 3) := by decide +kernel
theorem dJ7_rangeCheck_23922_67 : decode cJ7_rangeCheck_23922 67 = .ok (.dup, 1) := by decide +kernel
theorem dJ7_rangeCheck_23922_68 : decode cJ7_rangeCheck_23922 68 = .ok (.iload_n 2, 1) := by decide +kernel
theorem dJ7_rangeCheck_23922_69 : decode cJ7_rangeCheck_23922 69 = .ok (.invokespecial 70, 3) := by decide +kernel
theorem dJ7_rangeCheck_23922_72 : decode cJ7_rangeCheck_23922 72 = .ok (.athrow, 1) := by decide +kernel
theorem dJ7_rangeCheck_23922_73 : decode cJ7_rangeCheck_23922 73 = .ok (.return_, 1) := by decide +kernel
theorem dJ7_fill_bad5a_0 : decode cJ7_fill_bad5a 0 = .ok (.aload_n 0, 1) := by decide +kernel
theorem dJ7_fill_bad5a_1 : decode cJ7_fill_bad5a 1 = .ok (.arraylength, 1) := by decide +kernel
theorem dJ7_fill_bad5a_2 : decode cJ7_fill_bad5a 2 = .ok (.iload_n 1, 1) := by decide +kernel
theorem dJ7_fill_bad5a_3 : decode cJ7_fill_bad5a 3 = .ok (.iload_n 2, 1) := by decide +kernel
theorem dJ7_fill_bad5a_4 : decode cJ7_fill_bad5a 4 = .ok (.invokestatic 13, 3) := by decide +kernel
theorem dJ7_fill_bad5a_7 : decode cJ7_fill_bad5a 7 = .ok (.iload_n 1, 1) := by decide +kernel
theorem dJ7_fill_bad5a_8 : decode cJ7_fill_bad5a 8 = .ok (.istore 5, 2) := by decide +kernel
theorem dJ7_fill_bad5a_10 : decode cJ7_fill_bad5a 10 = .ok (.iload 5, 2) := by decide +kernel
theorem dJ7_fill_bad5a_12 : decode cJ7_fill_bad5a 12 = .ok (.iload_n 2, 1) := by decide +kernel
theorem dJ7_fill_bad5a_13 : decode cJ7_fill_bad5a 13 = .ok (.if_icmp .ge 14, 3) := by decide +kernel
theorem dJ7_fill_bad5a_16 : decode cJ7_fill_bad5a 16 = .ok (.aload_n 0, 1) := by decide +kernel
theorem dJ7_fill_bad5a_17 : decode cJ7_fill_bad5a 17 = .ok (.iload 5, 2) := by decide +kernel
theorem dJ7_fill_bad5a_19 : decode cJ7_fill_bad5a 19 = .ok (.lload_n 3, 1) := by decide +kernel
theorem dJ7_fill_bad5a_20 : decode cJ7_fill_bad5a 20 = .ok (.lastore, 1) := by decide +kernel
theorem dJ7_fill_bad5a_21 : decode cJ7_fill_bad5a 21 = .ok (.iinc 5 1, 3) := by decide +kernel
theorem dJ7_fill_bad5a_24 : decode cJ7_fill_bad5a 24 = .ok (.goto (-14), 3) := by decide +kernel
theorem dJ7_fill_bad5a_27 : decode cJ7_fill_bad5a 27 = .ok (.return_, 1) := by decide +kernel
theorem dJ7_fill_53178_0 : decode cJ7_fill_53178 0 = .ok (.iconst 0, 1) := by decide +kernel
theorem dJ7_fill_53178_1 : decode cJ7_fill_53178 1 = .ok (.istore_n 2, 1) := by decide +kernel
theorem dJ7_fill_53178_2 : decode cJ7_fill_53178 2 = .ok (.aload_n 0, 1) := by decide +kernel
theorem dJ7_fill_53178_3 : decode cJ7_fill_53178 3 = .ok (.arraylength, 1) := by decide +kernel
theorem dJ7_fill_53178_4 : decode cJ7_fill_53178 4 = .ok (.istore_n 3, 1) := by decide +kernel
theorem dJ7_fill_53178_5 : decode cJ7_fill_53178 5 = .ok (.iload_n 2, 1) := by decide +kernel
theorem dJ7_fill_53178_6 : decode cJ7_fill_53178 6 = .ok (.iload_n 3, 1) := by decide +kernel
theorem dJ7_fill_53178_7 : decode cJ7_fill_53178 7 = .ok (.if_icmp .ge 13, 3) := by decide +kernel
theorem dJ7_fill_53178_10 : decode cJ7_fill_53178 10 = .ok (.aload_n 0, 1) := by decide +kernel
theorem dJ7_fill_53178_11 : decode cJ7_fill_53178 11 = .ok (.iload_n 2, 1) := by decide +kernel
theorem dJ7_fill_53178_12 : decode cJ7_fill_53178 12 = .ok (.iload_n 1, 1) := by decide +kernel
theorem dJ7_fill_53178_13 : decode cJ7_fill_53178 13 = .ok (.iastore, 1) := by decide +kernel
theorem dJ7_fill_53178_14 : decode cJ7_fill_53178 14 = .ok (.iinc 2 1, 3) := by decide +kernel
theorem dJ7_fill_53178_17 : decode cJ7_fill_53178 17 = .ok (.goto (-12), 3) := by decide +kernel
theorem dJ7_fill_53178_20 : decode cJ7_fill_53178 20 = .ok (.return_, 1) := by decide +kernel
theorem dJ7_fill_fda19_0 : decode cJ7_fill_fda19 0 = .ok (.aload_n 0, 1) := by decide +kernel
theorem dJ7_fill_fda19_1 : decode cJ7_fill_fda19 1 = .ok (.arraylength, 1) := by decide +kernel
theorem dJ7_fill_fda19_2 : decode cJ7_fill_fda19 2 = .ok (.iload_n 1, 1) := by decide +kernel
theorem dJ7_fill_fda19_3 : decode cJ7_fill_fda19 3 = .ok (.iload_n 2, 1) := by decide +kernel
theorem dJ7_fill_fda19_4 : decode cJ7_fill_fda19 4 = .ok (.invokestatic 13, 3) := by decide +kernel
theorem dJ7_fill_fda19_7 : decode cJ7_fill_fda19 7 = .ok (.iload_n 1, 1) := by decide +kernel
theorem dJ7_fill_fda19_8 : decode cJ7_fill_fda19 8 = .ok (.istore 4, 2) := by decide +kernel
theorem dJ7_fill_fda19_10 : decode cJ7_fill_fda19 10 = .ok (.iload 4, 2) := by decide +kernel
theorem dJ7_fill_fda19_12 : decode cJ7_fill_fda19 12 = .ok (.iload_n 2, 1) := by decide +kernel
theorem dJ7_fill_fda19_13 : decode cJ7_fill_fda19 13 = .ok (.if_icmp .ge 14, 3) := by decide +kernel
theorem dJ7_fill_fda19_16 : decode cJ7_fill_fda19 16 = .ok (.aload_n 0, 1) := by decide +kernel
theorem dJ7_fill_fda19_17 : decode cJ7_fill_fda19 17 = .ok (.iload 4, 2) := by decide +kernel
theorem dJ7_fill_fda19_19 : decode cJ7_fill_fda19 19 = .ok (.iload_n 3, 1) := by decide +kernel
theorem dJ7_fill_fda19_20 : decode cJ7_fill_fda19 20 = .ok (.iastore, 1) := by decide +kernel
theorem dJ7_fill_fda19_21 : decode cJ7_fill_fda19 21 = .ok (.iinc 4 1, 3) := by decide +kernel
theorem dJ7_fill_fda19_24 : decode cJ7_fill_fda19 24 = .ok (.goto (-14), 3) := by decide +kernel
theorem dJ7_fill_fda19_27 : decode cJ7_fill_fda19 27 = .ok (.return_, 1) := by decide +kernel
theorem lk_J_13 : LkS RJ7 13 yJ7_rangeCheck_23922 cJ7_rangeCheck_23922 3 none 3 := ⟨tt_mem 462 (by decide +kernel) (by decide +kernel), tt_mem 463 (by decide +kernel) (by decide +kernel), tt_mem 51 (by decide +kernel) (by decide +kernel), tt_mem 464 (by decide +kernel) (by decide +kernel), (by decide +kernel), (by decide +kernel), (by decide +kernel)⟩
def J_rangeCheck (n : Int) (a : Int) (b : Int) : Unit := ()
set_option maxRecDepth 100000 in
theorem c_J_rangeCheck {l : Launch} {K : KK} (n : Int) (a : Int) (b : Int) (hp0 : 0 ≤ a ∧ a ≤ b ∧ b ≤ n ∧ n ≤ 100000) : CtV l yJ7_rangeCheck_23922 cJ7_rangeCheck_23922 3 (0, 0) K [.int (iI n), .int (iI a), .int (iI b)] [] [] := by
  refine ctV_ofF (by decide +kernel) (Nat.le_of_ble_eq_true rfl) ?_
  intro x X hD hR
  refine gx_iload_n X dJ7_rangeCheck_23922_0 rfl 1 rfl ?_
  refine gx_iload_n X dJ7_rangeCheck_23922_1 rfl 2 rfl ?_
  refine gx_icmp_le (tgt := 46) X dJ7_rangeCheck_23922_2 (by decide) (by omega) (fun hc2 => ?_) (fun hc2 => ?_)
  · refine gx_iload_n X dJ7_rangeCheck_23922_46 rfl 1 rfl ?_
    refine gx_if_ge (tgt := 59) X dJ7_rangeCheck_23922_47 (by decide) (by omega) (fun hc47 => ?_) (fun hc47 => ?_)
    · refine gx_iload_n X dJ7_rangeCheck_23922_59 rfl 2 rfl ?_
      refine gx_iload_n X dJ7_rangeCheck_23922_60 rfl 0 rfl ?_
      refine gx_icmp_le (tgt := 73) X dJ7_rangeCheck_23922_61 (by decide) (by omega) (fun hc61 => ?_) (fun hc61 => ?_)
      · exact gx_vret hR rfl dJ7_rangeCheck_23922_73
      · exact absurd hc61 (by omega)
    · exact absurd hc47 (by omega)
  · exact absurd hc2 (by omega)
def J_fillA_l5 (nn : Nat) (v : Int) : Nat → Int → (Int → Int) → (Int → Int)
  | 0, v2, S5 => S5
  | fu + 1, v2, S5 => if (nn : Int) ≤ v2 then S5 else J_fillA_l5 nn v fu (v2 + 1) (iu S5 v2 v)
theorem J_fillA_l5_s (nn : Nat) (v : Int) (fu : Nat) (v2 : Int) (S5 : (Int → Int)) : J_fillA_l5 nn v (fu + 1) v2 S5 = (if (nn : Int) ≤ v2 then S5 else J_fillA_l5 nn v fu (v2 + 1) (iu S5 v2 v)) := rfl
def J_fillA (nn : Nat) (S : (Int → Int)) (v : Int) : (Int → Int) := (J_fillA_l5 nn v (nn + 1) 0 S)
theorem J_fillA_l5_sp (nn : Nat) (v : Int) : ∀ (n : Nat) (i : Int) (g : Int → Int),  i ≤ nn → nn - i < (n : Int) → ∀ j : Int, J_fillA_l5 nn v n i g j = if i ≤ j ∧ j < nn then v else g j := by
  intro n
  induction n with
  | zero => intro i g h1 h2; exact absurd h2 (by omega)
  | succ n ih =>
    intro i g h1 h2 j
    rw [J_fillA_l5_s]
    split
    · rw [if_neg (by omega)]
    · rw [ih (i + 1) _ (by omega) (by omega) j]
      unfold iu
      by_cases e : j = i
      · rw [if_neg (by omega), if_pos e, if_pos (by omega)]
      · rw [if_neg e]
        by_cases e2 : i + 1 ≤ j ∧ j < nn
        · rw [if_pos e2, if_pos (by omega)]
        · rw [if_neg e2, if_neg (by omega)]
set_option maxRecDepth 100000 in
theorem c_J_fillA {l : Launch} {K : KK} (ad nn : Nat) (S : (Int → Int)) (v : Int) (hp0 : (nn : Int) ≤ 100000) : CtV l yJ7_fill_53178 cJ7_fill_53178 4 (0, 0) K [.ref ad, .int (iI v)] [(ad, zA K nn S)] [(ad, zA K nn (J_fillA nn S v))] := by
  refine ctV_ofF (by decide +kernel) (Nat.le_of_ble_eq_true rfl) ?_
  intro x X hD hR
  have hD : ∀ S9 : (Int → Int), va_D (cx_A x) [(ad, zA K nn S9)] := fun S9 => va_D_same hD rfl
  refine gx_iconst (z := 0) X dJ7_fill_53178_0 rfl ?_
  refine gx_istore_n X dJ7_fill_53178_1 rfl (by decide) rfl ?_
  refine gx_aload_n X dJ7_fill_53178_2 rfl 1 rfl ?_
  refine gx_alen X 0 rfl dJ7_fill_53178_3 ?_
  refine gx_istore_n X dJ7_fill_53178_4 rfl (by decide) rfl ?_
  have L5 : ∀ (fu : Nat) (v2 : Int) (S5 : (Int → Int)), (0 ≤ v2) → (v2 ≤ (nn : Int)) → ((nn : Int) - v2) < (fu : Int) → (∀ z5 : (Int → Int), J_fillA_l5 nn v fu v2 S5 = z5 → True → GG l (rmK (0, 0)) K x [(ad, zA K nn z5)] 20 [(0, .ref ad), (1, .int (iI v)), (3, .int (iI (nn : Int)))] []) → GG l (rmK (0, 0)) K x [(ad, zA K nn S5)] 5 [(0, .ref ad), (1, .int (iI v)), (2, .int (iI v2)), (3, .int (iI (nn : Int)))] [] := by
    intro fu
    induction fu with
    | zero => intro v2 S5 hi5_0 hi5_1 hm5 K5; exact absurd hm5 (by omega)
    | succ fu ih =>
      intro v2 S5 hi5_0 hi5_1 hm5 K5
      refine gx_iload_n X dJ7_fill_53178_5 rfl 2 rfl ?_
      refine gx_iload_n X dJ7_fill_53178_6 rfl 3 rfl ?_
      refine gx_icmp_ge (tgt := 20) X dJ7_fill_53178_7 (by decide) (by omega) (fun hc7 => ?_) (fun hc7 => ?_)
      · refine gx_sub [0, 1, 3] rfl ?_
        exact K5 S5 ((J_fillA_l5_s nn v fu v2 S5).trans (if_pos hc7)) trivial
      · refine gx_aload_n X dJ7_fill_53178_10 rfl 0 rfl ?_
        refine gx_iload_n X dJ7_fill_53178_11 rfl 2 rfl ?_
        refine gx_iload_n X dJ7_fill_53178_12 rfl 1 rfl ?_
        refine gx_iast X (hD _) 0 rfl (by omega) rfl dJ7_fill_53178_13 ?_
        refine gx_iinc X dJ7_fill_53178_14 2 rfl (by decide) rfl ?_
        refine gx_goto (tgt := 5) X dJ7_fill_53178_17 (by decide) ?_
        refine gx_sub [1, 2, 0, 3] rfl ?_
        exact ih (v2 + 1) (iu S5 v2 v) (by omega) (by omega) (by omega) (fun z e hx => K5 z ((J_fillA_l5_s nn v fu v2 S5).trans ((if_neg hc7).trans e)) hx)
  refine gx_sub [2, 3, 1, 0] rfl ?_
  refine L5 (nn + 1) 0 S (by omega) (by omega) (by omega) (fun z5 e5 hx5 => ?_)
  exact gx_vret hR (congrArg (fun z : (Int → Int) => [(ad, zA K nn z)]) ((show J_fillA nn S v = z5 from e5))) dJ7_fill_53178_20
def J_fillB_l10 (c : Int) (v : Int) : Nat → Int → (Int → Int) → (Int → Int)
  | 0, v4, S10 => S10
  | fu + 1, v4, S10 => if c ≤ v4 then S10 else J_fillB_l10 c v fu (v4 + 1) (iu S10 v4 v)
theorem J_fillB_l10_s (c : Int) (v : Int) (fu : Nat) (v4 : Int) (S10 : (Int → Int)) : J_fillB_l10 c v (fu + 1) v4 S10 = (if c ≤ v4 then S10 else J_fillB_l10 c v fu (v4 + 1) (iu S10 v4 v)) := rfl
def J_fillB (nn : Nat) (S : (Int → Int)) (b : Int) (c : Int) (v : Int) : (Int → Int) := (J_fillB_l10 c v ((c - b).toNat + 1) b S)
theorem J_fillB_l10_sp (c v : Int) : ∀ (n : Nat) (i : Int) (g : Int → Int),  i ≤ c → c - i < (n : Int) → ∀ j : Int, J_fillB_l10 c v n i g j = if i ≤ j ∧ j < c then v else g j := by
  intro n
  induction n with
  | zero => intro i g h1 h2; exact absurd h2 (by omega)
  | succ n ih =>
    intro i g h1 h2 j
    rw [J_fillB_l10_s]
    split
    · rw [if_neg (by omega)]
    · rw [ih (i + 1) _ (by omega) (by omega) j]
      unfold iu
      by_cases e : j = i
      · rw [if_neg (by omega), if_pos e, if_pos (by omega)]
      · rw [if_neg e]
        by_cases e2 : i + 1 ≤ j ∧ j < c
        · rw [if_pos e2, if_pos (by omega)]
        · rw [if_neg e2, if_neg (by omega)]
set_option maxRecDepth 100000 in
theorem c_J_fillB {l : Launch} {K : KK} (ad nn : Nat) (S : (Int → Int)) (b : Int) (c : Int) (v : Int) (hp0 : (nn : Int) ≤ 100000) (hp1 : 0 ≤ b ∧ b ≤ c ∧ c ≤ (nn : Int)) : CtV l yJ7_fill_fda19 cJ7_fill_fda19 5 (1, 22) K [.ref ad, .int (iI b), .int (iI c), .int (iI v)] [(ad, zA K nn S)] [(ad, zA K nn (J_fillB nn S b c v))] := by
  refine ctV_ofF (by decide +kernel) (Nat.le_of_ble_eq_true rfl) ?_
  intro x X hD hR
  have hD : ∀ S9 : (Int → Int), va_D (cx_A x) [(ad, zA K nn S9)] := fun S9 => va_D_same hD rfl
  refine gx_aload_n X dJ7_fill_fda19_0 rfl 0 rfl ?_
  refine gx_alen X 0 rfl dJ7_fill_fda19_1 ?_
  refine gx_iload_n X dJ7_fill_fda19_2 rfl 1 rfl ?_
  refine gx_iload_n X dJ7_fill_fda19_3 rfl 2 rfl ?_
  refine gx_callSV (As := [.int (iI (nn : Int)), .int (iI b), .int (iI c)]) (rest := []) X (hD _) lk_J_13 (c_J_rangeCheck (nn : Int) b c (by omega)) jn_nil rfl ⟨by decide, by decide⟩ (Nat.le_of_ble_eq_true rfl) dJ7_fill_fda19_4 ?_
  refine gx_iload_n X dJ7_fill_fda19_7 rfl 1 rfl ?_
  refine gx_istore X dJ7_fill_fda19_8 (by decide) rfl ?_
  have L10 : ∀ (fu : Nat) (v4 : Int) (S10 : (Int → Int)), (b ≤ v4) → (v4 ≤ c) → (c - v4) < (fu : Int) → (∀ z10 : (Int → Int), J_fillB_l10 c v fu v4 S10 = z10 → True → GG l (rmK (1, 22)) K x [(ad, zA K nn z10)] 27 [(0, .ref ad), (1, .int (iI b)), (2, .int (iI c)), (3, .int (iI v))] []) → GG l (rmK (1, 22)) K x [(ad, zA K nn S10)] 10 [(0, .ref ad), (1, .int (iI b)), (2, .int (iI c)), (3, .int (iI v)), (4, .int (iI v4))] [] := by
    intro fu
    induction fu with
    | zero => intro v4 S10 hi10_0 hi10_1 hm10 K10; exact absurd hm10 (by omega)
    | succ fu ih =>
      intro v4 S10 hi10_0 hi10_1 hm10 K10
      refine gx_iload X dJ7_fill_fda19_10 4 rfl ?_
      refine gx_iload_n X dJ7_fill_fda19_12 rfl 2 rfl ?_
      refine gx_icmp_ge (tgt := 27) X dJ7_fill_fda19_13 (by decide) (by omega) (fun hc13 => ?_) (fun hc13 => ?_)
      · refine gx_sub [0, 1, 2, 3] rfl ?_
        exact K10 S10 ((J_fillB_l10_s c v fu v4 S10).trans (if_pos hc13)) trivial
      · refine gx_aload_n X dJ7_fill_fda19_16 rfl 0 rfl ?_
        refine gx_iload X dJ7_fill_fda19_17 4 rfl ?_
        refine gx_iload_n X dJ7_fill_fda19_19 rfl 3 rfl ?_
        refine gx_iast X (hD _) 0 rfl (by omega) rfl dJ7_fill_fda19_20 ?_
        refine gx_iinc X dJ7_fill_fda19_21 4 rfl (by decide) rfl ?_
        refine gx_goto (tgt := 10) X dJ7_fill_fda19_24 (by decide) ?_
        refine gx_sub [1, 2, 3, 4, 0] rfl ?_
        exact ih (v4 + 1) (iu S10 v4 v) (by omega) (by omega) (by omega) (fun z e hx => K10 z ((J_fillB_l10_s c v fu v4 S10).trans ((if_neg hc13).trans e)) hx)
  refine gx_sub [1, 2, 3, 4, 0] rfl ?_
  refine L10 ((c - b).toNat + 1) b S (by omega) (by omega) (by omega) (fun z10 e10 hx10 => ?_)
  exact gx_vret hR (congrArg (fun z : (Int → Int) => [(ad, zA K nn z)]) ((show J_fillB nn S b c v = z10 from e10))) dJ7_fill_fda19_27
def J_fillL_l10 (c : Int) (v : Int64) : Nat → Int → (Int → Int64) → (Int → Int64)
  | 0, v5, S10 => S10
  | fu + 1, v5, S10 => if c ≤ v5 then S10 else J_fillL_l10 c v fu (v5 + 1) (iu S10 v5 v)
theorem J_fillL_l10_s (c : Int) (v : Int64) (fu : Nat) (v5 : Int) (S10 : (Int → Int64)) : J_fillL_l10 c v (fu + 1) v5 S10 = (if c ≤ v5 then S10 else J_fillL_l10 c v fu (v5 + 1) (iu S10 v5 v)) := rfl
def J_fillL (nn : Nat) (S : (Int → Int64)) (b : Int) (c : Int) (v : Int64) : (Int → Int64) := (J_fillL_l10 c v ((c - b).toNat + 1) b S)
theorem J_fillL_l10_sp (c : Int) (v : Int64) : ∀ (n : Nat) (i : Int) (g : Int → Int64),  i ≤ c → c - i < (n : Int) → ∀ j : Int, J_fillL_l10 c v n i g j = if i ≤ j ∧ j < c then v else g j := by
  intro n
  induction n with
  | zero => intro i g h1 h2; exact absurd h2 (by omega)
  | succ n ih =>
    intro i g h1 h2 j
    rw [J_fillL_l10_s]
    split
    · rw [if_neg (by omega)]
    · rw [ih (i + 1) _ (by omega) (by omega) j]
      unfold iu
      by_cases e : j = i
      · rw [if_neg (by omega), if_pos e, if_pos (by omega)]
      · rw [if_neg e]
        by_cases e2 : i + 1 ≤ j ∧ j < c
        · rw [if_pos e2, if_pos (by omega)]
        · rw [if_neg e2, if_neg (by omega)]
set_option maxRecDepth 100000 in
theorem c_J_fillL {l : Launch} {K : KK} (ad nn : Nat) (S : (Int → Int64)) (b : Int) (c : Int) (v : Int64) (hp0 : (nn : Int) ≤ 100000) (hp1 : 0 ≤ b ∧ b ≤ c ∧ c ≤ (nn : Int)) : CtV l yJ7_fill_bad5a cJ7_fill_bad5a 6 (1, 22) K [.ref ad, .int (iI b), .int (iI c), .long v] [(ad, zL K nn S)] [(ad, zL K nn (J_fillL nn S b c v))] := by
  refine ctV_ofF (by decide +kernel) (Nat.le_of_ble_eq_true rfl) ?_
  intro x X hD hR
  have hD : ∀ S9 : (Int → Int64), va_D (cx_A x) [(ad, zL K nn S9)] := fun S9 => va_D_same hD rfl
  refine gx_aload_n X dJ7_fill_bad5a_0 rfl 0 rfl ?_
  refine gx_alenL X 0 rfl dJ7_fill_bad5a_1 ?_
  refine gx_iload_n X dJ7_fill_bad5a_2 rfl 1 rfl ?_
  refine gx_iload_n X dJ7_fill_bad5a_3 rfl 2 rfl ?_
  refine gx_callSV (As := [.int (iI (nn : Int)), .int (iI b), .int (iI c)]) (rest := []) X (hD _) lk_J_13 (c_J_rangeCheck (nn : Int) b c (by omega)) jn_nil rfl ⟨by decide, by decide⟩ (Nat.le_of_ble_eq_true rfl) dJ7_fill_bad5a_4 ?_
  refine gx_iload_n X dJ7_fill_bad5a_7 rfl 1 rfl ?_
  refine gx_istore X dJ7_fill_bad5a_8 (by decide) rfl ?_
  have L10 : ∀ (fu : Nat) (v5 : Int) (S10 : (Int → Int64)), (b ≤ v5) → (v5 ≤ c) → (c - v5) < (fu : Int) → (∀ z10 : (Int → Int64), J_fillL_l10 c v fu v5 S10 = z10 → True → GG l (rmK (1, 22)) K x [(ad, zL K nn z10)] 27 [(0, .ref ad), (1, .int (iI b)), (2, .int (iI c)), (3, .long v)] []) → GG l (rmK (1, 22)) K x [(ad, zL K nn S10)] 10 [(0, .ref ad), (1, .int (iI b)), (2, .int (iI c)), (3, .long v), (5, .int (iI v5))] [] := by
    intro fu
    induction fu with
    | zero => intro v5 S10 hi10_0 hi10_1 hm10 K10; exact absurd hm10 (by omega)
    | succ fu ih =>
      intro v5 S10 hi10_0 hi10_1 hm10 K10
      refine gx_iload X dJ7_fill_bad5a_10 4 rfl ?_
      refine gx_iload_n X dJ7_fill_bad5a_12 rfl 2 rfl ?_
      refine gx_icmp_ge (tgt := 27) X dJ7_fill_bad5a_13 (by decide) (by omega) (fun hc13 => ?_) (fun hc13 => ?_)
      · refine gx_sub [0, 1, 2, 3] rfl ?_
        exact K10 S10 ((J_fillL_l10_s c v fu v5 S10).trans (if_pos hc13)) trivial
      · refine gx_aload_n X dJ7_fill_bad5a_16 rfl 0 rfl ?_
        refine gx_iload X dJ7_fill_bad5a_17 4 rfl ?_
        refine gx_lload_n X dJ7_fill_bad5a_19 rfl 3 rfl ?_
        refine gx_last X (hD _) 0 rfl (by omega) rfl dJ7_fill_bad5a_20 ?_
        refine gx_iinc X dJ7_fill_bad5a_21 4 rfl (by decide) rfl ?_
        refine gx_goto (tgt := 10) X dJ7_fill_bad5a_24 (by decide) ?_
        refine gx_sub [1, 2, 3, 4, 0] rfl ?_
        exact ih (v5 + 1) (iu S10 v5 v) (by omega) (by omega) (by omega) (fun z e hx => K10 z ((J_fillL_l10_s c v fu v5 S10).trans ((if_neg hc13).trans e)) hx)
  refine gx_sub [1, 2, 3, 4, 0] rfl ?_
  refine L10 ((c - b).toNat + 1) b S (by omega) (by omega) (by omega) (fun z10 e10 hx10 => ?_)
  exact gx_vret hR (congrArg (fun z : (Int → Int64) => [(ad, zL K nn z)]) ((show J_fillL nn S b c v = z10 from e10))) dJ7_fill_bad5a_27
