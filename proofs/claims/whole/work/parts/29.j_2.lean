theorem dJ7_fill_53178_0 : decode cJ7_fill_53178 0 = .ok (.iconst 0, 1) := by decide +kernel
theorem dJ7_fill_53178_1 : decode cJ7_fill_53178 1 = .ok (.istore_n 2, 1) := by decide +kernel
theorem dJ7_fill_53178_2 : decode cJ7_fill_53178 2 = .ok (.aload_n 0, 1) := by decide +kernel
theorem dJ7_fill_53178_3 : decode cJ7_fill_53178 3 = .ok (.arraylength, 1) := by decide +kernel
theorem dJ7_fill_53178_4 : decode cJ7_fill_53178 4 = .ok (.istore_n 3, 1) := by decide +kernel
theorem dJ7_fill_53178_5 : decode cJ7_fill_53178 5 = .ok (.iload_n 2, 1) := by decide +kernel
theorem dJ7_fill_53178_6 : decode cJ7_fill_53178 6 = .ok (.iload_n 3, 1) := by decide +kernel
theorem dJ7_fill_53178_7 : decode cJ7_fill_53178 7 = .ok (.if_icmp .ge 13, 3) := by decide +kernel
theorem dJ7_fill_53178_10 : decode cJ7_fill_53178 10 = .ok (.aload_n 0, 1) := by decide +kernel
theorem dJ7_fill_53178_11 : decode cJ7_fill_53178 11 = .ok (.iload_n 2, 1) := by decide +kernel
theorem dJ7_fill_53178_12 : decode cJ7_fill_53178 12 = .ok (.iload_n 1, 1) := by decide +kernel
theorem dJ7_fill_53178_13 : decode cJ7_fill_53178 13 = .ok (.iastore, 1) := by decide +kernel
theorem dJ7_fill_53178_14 : decode cJ7_fill_53178 14 = .ok (.iinc 2 1, 3) := by decide +kernel
theorem dJ7_fill_53178_17 : decode cJ7_fill_53178 17 = .ok (.goto (-12), 3) := by decide +kernel
theorem dJ7_fill_53178_20 : decode cJ7_fill_53178 20 = .ok (.return_, 1) := by decide +kernel
def J_fillA_l5 (nn : Nat) (v : Int) : Nat → Int → (Int → Int) → (Int → Int)
  | 0, v2, S5 => S5
  | fu + 1, v2, S5 => if (nn : Int) ≤ v2 then S5 else J_fillA_l5 nn v fu (v2 + 1) (iu S5 v2 v)
theorem J_fillA_l5_s (nn : Nat) (v : Int) (fu : Nat) (v2 : Int) (S5 : (Int → Int)) : J_fillA_l5 nn v (fu + 1) v2 S5 = (if (nn : Int) ≤ v2 then S5 else J_fillA_l5 nn v fu (v2 + 1) (iu S5 v2 v)) := rfl
def J_fillA (nn : Nat) (S : (Int → Int)) (v : Int) : (Int → Int) := (J_fillA_l5 nn v (nn + 1) 0 S)
theorem J_fillA_l5_sp (nn : Nat) (v : Int) : ∀ (n : Nat) (i : Int) (g : Int → Int),  i ≤ nn → nn - i < (n : Int) → ∀ j : Int, J_fillA_l5 nn v n i g j = if i ≤ j ∧ j < nn then v else g j := by
  intro n
  induction n with
  | zero => intro i g h1 h2; exact absurd h2 (by omega)
  | succ n ih =>
    intro i g h1 h2 j
    rw [J_fillA_l5_s]
    split
    · rw [if_neg (by omega)]
    · rw [ih (i + 1) _ (by omega) (by omega) j]
      unfold iu
      by_cases e : j = i
      · rw [if_neg (by omega), if_pos e, if_pos (by omega)]
      · rw [if_neg e]
        by_cases e2 : i + 1 ≤ j ∧ j < nn
        · rw [if_pos e2, if_pos (by omega)]
        · rw [if_neg e2, if_neg (by omega)]
set_option maxRecDepth 100000 in
theorem c_J_fillA {l : Launch} {K : KK} (ad nn : Nat) (S : (Int → Int)) (v : Int) (hp0 : (nn : Int) ≤ 100000) : CtV l yJ7_fill_53178 cJ7_fill_53178 4 (0, 0) K [.ref ad, .int (iI v)] [(ad, zA K nn S)] [(ad, zA K nn (J_fillA nn S v))] := by
  refine ctV_ofF (by decide +kernel) (Nat.le_of_ble_eq_true rfl) ?_
  intro x X hD hR
  have hD : ∀ S9 : (Int → Int), va_D (cx_A x) [(ad, zA K nn S9)] := fun S9 => va_D_same hD rfl
  refine gx_iconst (z := 0) X dJ7_fill_53178_0 rfl ?_
  refine gx_istore_n X dJ7_fill_53178_1 rfl (by decide) rfl ?_
  refine gx_aload_n X dJ7_fill_53178_2 rfl 1 rfl ?_
  refine gx_alen X 0 rfl dJ7_fill_53178_3 ?_
  refine gx_istore_n X dJ7_fill_53178_4 rfl (by decide) rfl ?_
  have L5 : ∀ (fu : Nat) (v2 : Int) (S5 : (Int → Int)), (0 ≤ v2) → (v2 ≤ (nn : Int)) → ((nn : Int) - v2) < (fu : Int) → (∀ z5 : (Int → Int), J_fillA_l5 nn v fu v2 S5 = z5 → True → GG l (rmK (0, 0)) K x [(ad, zA K nn z5)] 20 [(0, .ref ad), (1, .int (iI v)), (3, .int (iI (nn : Int)))] []) → GG l (rmK (0, 0)) K x [(ad, zA K nn S5)] 5 [(0, .ref ad), (1, .int (iI v)), (2, .int (iI v2)), (3, .int (iI (nn : Int)))] [] := by
    intro fu
    induction fu with
    | zero => intro v2 S5 hi5_0 hi5_1 hm5 K5; exact absurd hm5 (by omega)
    | succ fu ih =>
      intro v2 S5 hi5_0 hi5_1 hm5 K5
      refine gx_iload_n X dJ7_fill_53178_5 rfl 2 rfl ?_
      refine gx_iload_n X dJ7_fill_53178_6 rfl 3 rfl ?_
      refine gx_icmp_ge (tgt := 20) X dJ7_fill_53178_7 (by decide) (by omega) (fun hc7 => ?_) (fun hc7 => ?_)
      · refine gx_sub [0, 1, 3] rfl ?_
        exact K5 S5 ((J_fillA_l5_s nn v fu v2 S5).trans (if_pos hc7)) trivial
      · refine gx_aload_n X dJ7_fill_53178_10 rfl 0 rfl ?_
        refine gx_iload_n X dJ7_fill_53178_11 rfl 2 rfl ?_
        refine gx_iload_n X dJ7_fill_53178_12 rfl 1 rfl ?_
        refine gx_iast X (hD _) 0 rfl (by omega) rfl dJ7_fill_53178_13 ?_
        refine gx_iinc X dJ7_fill_53178_14 2 rfl (by decide) rfl ?_
        refine gx_goto (tgt := 5) X dJ7_fill_53178_17 (by decide) ?_
        refine gx_sub [1, 2, 0, 3] rfl ?_
        exact ih (v2 + 1) (iu S5 v2 v) (by omega) (by omega) (by omega) (fun z e hx => K5 z ((J_fillA_l5_s nn v fu v2 S5).trans ((if_neg hc7).trans e)) hx)
  refine gx_sub [2, 3, 1, 0] rfl ?_
  refine L5 (nn + 1) 0 S (by omega) (by omega) (by omega) (fun z5 e5 hx5 => ?_)
  exact gx_vret hR (congrArg (fun z : (Int → Int) => [(ad, zA K nn z)]) ((show J_fillA nn S v = z5 from e5))) dJ7_fill_53178_20
