def J_abs (v : Int) : Int := if 0 ≤ v then v else (-v)
theorem J_abs_sp (v : Int) : (0 ≤ v ∧ J_abs v = v) ∨ (v < 0 ∧ J_abs v = -v) := by
  unfold J_abs
  split <;> omega
set_option maxRecDepth 100000 in
theorem c_J_abs {l : Launch} {K : KK} (v : Int) (hp0 : -2147483647 ≤ v ∧ v ≤ 2147483647) : CtI l yJ9_abs_0f7a4 cJ9_abs_0f7a4 1 .int (0, 0) K [.int (iI v)] [] (J_abs v) [] := by
  refine ctI_ofF (by decide +kernel) (Nat.le_of_ble_eq_true rfl) rfl ?_
  intro x X hD hR
  refine gx_iload_n X dJ9_abs_0f7a4_0 rfl 0 rfl ?_
  have J10 : ∀ (m10 : Int), m10 = (if 0 ≤ v then v else (-v)) → GG l (rmK (0, 0)) K x [] 10 [(0, .int (iI v))] [.int (iI m10)] := by
    intro m10 e_m10
    exact gx_iret hR (e_m10.symm) rfl dJ9_abs_0f7a4_10
  refine gx_if_ge (tgt := 9) X dJ9_abs_0f7a4_1 (by decide) (by omega) (fun hc1 => ?_) (fun hc1 => ?_)
  · refine gx_iload_n X dJ9_abs_0f7a4_9 rfl 0 rfl ?_
    refine gx_sub [0] rfl ?_
    exact J10 v ((if_pos hc1).symm) 
  · refine gx_iload_n X dJ9_abs_0f7a4_4 rfl 0 rfl ?_
    refine gx_ineg X dJ9_abs_0f7a4_5 ?_
    refine gx_goto (tgt := 10) X dJ9_abs_0f7a4_6 (by decide) ?_
    refine gx_sub [0] rfl ?_
    exact J10 (-v) ((if_neg hc1).symm) 
def J_max (a : Int) (b : Int) : Int := if a < b then b else a
theorem J_max_sp (a b : Int) : (a < b ∧ J_max a b = b) ∨ (b ≤ a ∧ J_max a b = a) := by
  unfold J_max
  split <;> omega
set_option maxRecDepth 100000 in
theorem c_J_max {l : Launch} {K : KK} (a : Int) (b : Int) (hp0 : ok32 a) (hp1 : ok32 b) : CtI l yJ9_max_7cf53 cJ9_max_7cf53 2 .int (0, 0) K [.int (iI a), .int (iI b)] [] (J_max a b) [] := by
  refine ctI_ofF (by decide +kernel) (Nat.le_of_ble_eq_true rfl) rfl ?_
  intro x X hD hR
  refine gx_iload_n X dJ9_max_7cf53_0 rfl 0 rfl ?_
  refine gx_iload_n X dJ9_max_7cf53_1 rfl 1 rfl ?_
  have J10 : ∀ (m10 : Int), m10 = (if a < b then b else a) → GG l (rmK (0, 0)) K x [] 10 [(0, .int (iI a)), (1, .int (iI b))] [.int (iI m10)] := by
    intro m10 e_m10
    exact gx_iret hR (e_m10.symm) rfl dJ9_max_7cf53_10
  refine gx_icmp_lt (tgt := 9) X dJ9_max_7cf53_2 (by decide) (by omega) (fun hc2 => ?_) (fun hc2 => ?_)
  · refine gx_iload_n X dJ9_max_7cf53_9 rfl 1 rfl ?_
    refine gx_sub [0, 1] rfl ?_
    exact J10 b ((if_pos hc2).symm) 
  · refine gx_iload_n X dJ9_max_7cf53_5 rfl 0 rfl ?_
    refine gx_goto (tgt := 10) X dJ9_max_7cf53_6 (by decide) ?_
    refine gx_sub [0, 1] rfl ?_
    exact J10 a ((if_neg hc2).symm) 
def J_min (a : Int) (b : Int) : Int := if b < a then b else a
theorem J_min_sp (a b : Int) : (b < a ∧ J_min a b = b) ∨ (a ≤ b ∧ J_min a b = a) := by
  unfold J_min
  split <;> omega
set_option maxRecDepth 100000 in
theorem c_J_min {l : Launch} {K : KK} (a : Int) (b : Int) (hp0 : ok32 a) (hp1 : ok32 b) : CtI l yJ9_min_7cf53 cJ9_min_7cf53 2 .int (0, 0) K [.int (iI a), .int (iI b)] [] (J_min a b) [] := by
  refine ctI_ofF (by decide +kernel) (Nat.le_of_ble_eq_true rfl) rfl ?_
  intro x X hD hR
  refine gx_iload_n X dJ9_min_7cf53_0 rfl 0 rfl ?_
  refine gx_iload_n X dJ9_min_7cf53_1 rfl 1 rfl ?_
  have J10 : ∀ (m10 : Int), m10 = (if b < a then b else a) → GG l (rmK (0, 0)) K x [] 10 [(0, .int (iI a)), (1, .int (iI b))] [.int (iI m10)] := by
    intro m10 e_m10
    exact gx_iret hR (e_m10.symm) rfl dJ9_min_7cf53_10
  refine gx_icmp_gt (tgt := 9) X dJ9_min_7cf53_2 (by decide) (by omega) (fun hc2 => ?_) (fun hc2 => ?_)
  · refine gx_iload_n X dJ9_min_7cf53_9 rfl 1 rfl ?_
    refine gx_sub [0, 1] rfl ?_
    exact J10 b ((if_pos hc2).symm) 
  · refine gx_iload_n X dJ9_min_7cf53_5 rfl 0 rfl ?_
    refine gx_goto (tgt := 10) X dJ9_min_7cf53_6 (by decide) ?_
    refine gx_sub [0, 1] rfl ?_
    exact J10 a ((if_neg hc2).symm) 
theorem zi_rem4 (a b : Int) (hb : b = 4) : -3 ≤ zi_rem a b ∧ zi_rem a b ≤ 3 := by
  subst hb
  unfold zi_rem
  split <;> omega
theorem xor4 (m : Int) (h : -1000 ≤ m ∧ m ≤ 1000) : (0 ≤ zi_xor m 4 ↔ 0 ≤ m) := by
  have key : ∀ n : Fin 2001, (0 ≤ zi_xor ((n.val : Int) - 1000) 4 ↔ 0 ≤ ((n.val : Int) - 1000)) := by decide +kernel
  have k := key ⟨(m + 1000).toNat, by omega⟩
  have e : (((m + 1000).toNat : Nat) : Int) - 1000 = m := by omega
  rw [e] at k
  exact k
def J_floorMod (a : Int) (b : Int) : Int := if 0 ≤ (zi_xor a b) then (zi_rem a b) else if (zi_rem a b) = 0 then (zi_rem a b) else ((zi_rem a b) + b)
theorem J_floorMod_sp (a b : Int) (ha : -1000 ≤ a ∧ a ≤ 1000) (hb : b = 4) : J_floorMod a b = a % 4 := by
  have h1 := xor4 a ha
  subst hb
  have h2 : zi_rem a 4 = if 0 ≤ a then a % 4 else -((-a) % 4) := rfl
  unfold J_floorMod
  omega
set_option maxRecDepth 100000 in
theorem c_J_floorMod {l : Launch} {K : KK} (a : Int) (b : Int) (hp0 : -1000 ≤ a ∧ a ≤ 1000) (hp1 : b = 4) : CtI l yJ9_floorMod_7cf53 cJ9_floorMod_7cf53 3 .int (0, 0) K [.int (iI a), .int (iI b)] [] (J_floorMod a b) [] := by
  refine ctI_ofF (by decide +kernel) (Nat.le_of_ble_eq_true rfl) rfl ?_
  intro x X hD hR
  refine gx_iload_n X dJ9_floorMod_7cf53_0 rfl 0 rfl ?_
  refine gx_iload_n X dJ9_floorMod_7cf53_1 rfl 1 rfl ?_
  have hz := zi_rem4 a b hp1
  refine gx_iremT X dJ9_floorMod_7cf53_2 (by omega) ?_
  refine gx_istore_n X dJ9_floorMod_7cf53_3 rfl (by decide) rfl ?_
  refine gx_iload_n X dJ9_floorMod_7cf53_4 rfl 1 rfl ?_
  refine gx_iload_n X dJ9_floorMod_7cf53_5 rfl 2 rfl ?_
  refine gx_ixor X dJ9_floorMod_7cf53_6 ?_
  have ho6 := ok_xor a b
  refine gx_if_ge (tgt := 18) X dJ9_floorMod_7cf53_7 (by decide) (by omega) (fun hc7 => ?_) (fun hc7 => ?_)
  · refine gx_iload_n X dJ9_floorMod_7cf53_18 rfl 0 rfl ?_
    exact gx_iret hR (if_pos hc7) rfl dJ9_floorMod_7cf53_19
  · refine gx_iload_n X dJ9_floorMod_7cf53_10 rfl 0 rfl ?_
    refine gx_if_eq (tgt := 18) X dJ9_floorMod_7cf53_11 (by decide) (by omega) (fun hc11 => ?_) (fun hc11 => ?_)
    · refine gx_iload_n X dJ9_floorMod_7cf53_18 rfl 0 rfl ?_
      exact gx_iret hR ((if_neg hc7).trans (if_pos hc11)) rfl dJ9_floorMod_7cf53_19
    · refine gx_iload_n X dJ9_floorMod_7cf53_14 rfl 0 rfl ?_
      refine gx_iload_n X dJ9_floorMod_7cf53_15 rfl 2 rfl ?_
      refine gx_iadd X dJ9_floorMod_7cf53_16 ?_
      exact gx_iret hR ((if_neg hc7).trans (if_neg hc11)) rfl dJ9_floorMod_7cf53_17
