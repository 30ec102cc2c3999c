def P_index (a : Int) (t : Int) (p : Int) (n : Int) : Int := ((((((a * 4) + t) * 2) + p) * 10) + n)
theorem P_index_sp (a t p n : Int) : P_index a t p n = 80 * a + 20 * t + 10 * p + n := by
  unfold P_index
  omega
set_option maxRecDepth 100000 in
theorem c_P_index {l : Launch} {K : KK} (a : Int) (t : Int) (p : Int) (n : Int)  : CtI l yX1_index cX1_index 4 .int (0, 0) K [.int (iI a), .int (iI t), .int (iI p), .int (iI n)] [] (P_index a t p n) [] := by
  refine ctI_of (by decide) (Nat.le_of_ble_eq_true rfl) rfl ?_
  intro x X hD hR
  refine gx_iload_n X dX1_index_0 rfl 0 rfl ?_
  refine gx_iconst (z := 4) X dX1_index_1 rfl ?_
  refine gx_imul X dX1_index_2 ?_
  refine gx_iload_n X dX1_index_3 rfl 1 rfl ?_
  refine gx_iadd X dX1_index_4 ?_
  refine gx_iconst (z := 2) X dX1_index_5 rfl ?_
  refine gx_imul X dX1_index_6 ?_
  refine gx_iload_n X dX1_index_7 rfl 2 rfl ?_
  refine gx_iadd X dX1_index_8 ?_
  refine gx_bipush (z := 10) X dX1_index_9 (by decide) ?_
  refine gx_imul X dX1_index_11 ?_
  refine gx_iload_n X dX1_index_12 rfl 3 rfl ?_
  refine gx_iadd X dX1_index_13 ?_
  exact gx_iret hR (rfl) rfl dX1_index_14
def P_roundFrom_m10 (t : Int) (m10 : Int) : Int := ((t + m10) % 4)
def P_roundFrom (t : Int) (d : Int) : Int := P_roundFrom_m10 t (if d = 0 then 1 else 3)
theorem P_roundFrom_sp (t d : Int) : (d = 0 ∧ P_roundFrom t d = (t + 1) % 4) ∨ (¬ d = 0 ∧ P_roundFrom t d = (t + 3) % 4) := by
  unfold P_roundFrom P_roundFrom_m10
  split <;> omega
set_option maxRecDepth 100000 in
theorem c_P_roundFrom {l : Launch} {K : KK} (t : Int) (d : Int) (hp0 : 0 ≤ t ∧ t ≤ 3) (hp1 : ok32 d) : CtI l yX1_roundFrom cX1_roundFrom 2 .int (0, 0) K [.int (iI t), .int (iI d)] [] (P_roundFrom t d) [] := by
  refine ctI_of (by decide) (Nat.le_of_ble_eq_true rfl) rfl ?_
  intro x X hD hR
  refine gx_iload_n X dX1_roundFrom_0 rfl 0 rfl ?_
  refine gx_iload_n X dX1_roundFrom_1 rfl 1 rfl ?_
  have J10 : ∀ (m10 : Int), m10 = (if d = 0 then 1 else 3) → GG l (rmK (0, 0)) K x [] 10 [(0, .int (iI t)), (1, .int (iI d))] [.int (iI m10), .int (iI t)] := by
    intro m10 e_m10
    refine gx_iadd X dX1_roundFrom_10 ?_
    refine gx_iconst (z := 4) X dX1_roundFrom_11 rfl ?_
    refine gx_irem X dX1_roundFrom_12 (by omega) ?_
    exact gx_iret hR (congrArg (fun z0 => P_roundFrom_m10 t z0) e_m10.symm) rfl dX1_roundFrom_13
  refine gx_if_ne (tgt := 9) X dX1_roundFrom_2 (by decide) (by omega) (fun hc2 => ?_) (fun hc2 => ?_)
  · refine gx_iconst (z := 3) X dX1_roundFrom_9 rfl ?_
    refine gx_sub [0, 1] rfl ?_
    exact J10 3 ((if_neg hc2).symm) 
  · refine gx_iconst (z := 1) X dX1_roundFrom_5 rfl ?_
    refine gx_goto (tgt := 10) X dX1_roundFrom_6 (by decide) ?_
    refine gx_sub [0, 1] rfl ?_
    exact J10 1 ((if_pos hc2).symm) 
def P_offer (S : PS) (i : Int) (s : Int64) : PS := if (S.1.1.1 0) ≤ i then if i = (S.1.1.1 0) then (pL S 0 ((S.1.1.2 0) ||| s)) else S else (pL (pI S 0 i) 0 s)
theorem InvP.pI0 {N : Int} {S : PS} {v : Int} (h : InvP N S) (hv : 0 ≤ v ∧ v ≤ 1000) : InvP N (pI S 0 v) := ⟨h.1, hv, h.2.2⟩
theorem InvP.pL {N : Int} {S : PS} {j : Nat} {v : Int64} (h : InvP N S) : InvP N (pL S j v) := h
theorem InvP.pF {N : Int} {S : PS} {z v : Int} (h : InvP N S) (hv : 0 ≤ v ∧ v ≤ 1000) : InvP N (pF S z v) := by
  refine ⟨h.1, h.2.1, h.2.2.1, h.2.2.2.1, h.2.2.2.2.1, fun j => ?_⟩
  show 0 ≤ iu S.1.2.1 z v j ∧ iu S.1.2.1 z v j ≤ 1000
  unfold iu
  split
  · exact hv
  · exact h.2.2.2.2.2 j
theorem InvP.pG {N : Int} {S : PS} {z : Int} {v : Int64} (h : InvP N S) : InvP N (pG S z v) := h
theorem P_offer_inv {N : Int} (S : PS) (i : Int) (s : Int64) (h : InvP N S) (hi : 0 ≤ i ∧ i ≤ 2000) : InvP N (P_offer S i s) := by
  have h0 := InvP_s0 h
  unfold P_offer
  split
  · split
    · exact h.pL
    · exact h
  · exact (h.pI0 (by omega)).pL
set_option maxRecDepth 100000 in
theorem c_P_offer {l : Launch} {K : KK} {N : Int} (r q : Nat → Nat) (S : PS) (i : Int) (s : Int64) (hI : InvP N S) (hp1 : 0 ≤ i ∧ i ≤ 2000) : CtV l yX1_offer cX1_offer 4 (0, 0) K [.ref (r 0), .int (iI i), .long s] (wPC K r q S) (wPC K r q (P_offer S i s)) := by
  refine ctV_of (by decide) (Nat.le_of_ble_eq_true rfl) ?_
  intro x X hD hR
  have hD : ∀ S9 : PS, va_D (cx_A x) (wPC K r q S9) := fun S9 => va_D_same hD rfl
  have hs0 := InvP_s0 hI
  have hs1 := InvP_s1 hI
  have hs2 := InvP_s2 hI
  have hs3 := InvP_s3 hI
  refine gx_iload_n X dX1_offer_0 rfl 1 rfl ?_
  refine gx_aload_n X dX1_offer_1 rfl 0 rfl ?_
  refine gP_g0 (v := (S.1.1.1 0)) X rfl dX1_offer_2 ?_
  have J39 : ∀ (S39 : PS), S39 = (if (S.1.1.1 0) ≤ i then if i = (S.1.1.1 0) then (pL S 0 ((S.1.1.2 0) ||| s)) else S else (pL (pI S 0 i) 0 s)) → GG l (rmK (0, 0)) K x (wPC K r q S39) 39 [(0, .ref (r 0)), (1, .int (iI i)), (2, .long s)] [] := by
    intro S39 e_S39
    exact gx_vret hR (congrArg (fun z : PS => (wPC K r q z)) ((show P_offer S i s = S39 from e_S39.symm))) dX1_offer_39
  refine gx_icmp_ge (tgt := 21) X dX1_offer_5 (by decide) (by omega) (fun hc5 => ?_) (fun hc5 => ?_)
  · refine gx_iload_n X dX1_offer_21 rfl 1 rfl ?_
    refine gx_aload_n X dX1_offer_22 rfl 0 rfl ?_
    refine gP_g0 (v := (S.1.1.1 0)) X rfl dX1_offer_23 ?_
    refine gx_icmp_ne (tgt := 39) X dX1_offer_26 (by decide) (by omega) (fun hc26 => ?_) (fun hc26 => ?_)
    · refine gx_sub [0, 1, 2] rfl ?_
      exact J39 S (((if_pos hc5).trans (if_neg hc26)).symm) 
    · refine gx_aload_n X dX1_offer_29 rfl 0 rfl ?_
      refine gx_dup X dX1_offer_30 rfl ?_
      refine gP_G0 (v := (S.1.1.2 0)) X rfl dX1_offer_31 ?_
      refine gx_lload_n X dX1_offer_34 rfl 2 rfl ?_
      refine gx_lor X dX1_offer_35 ?_
      refine gP_P0 X (hD _) dX1_offer_36 ?_
      refine gx_sub [0, 1, 2] rfl ?_
      exact J39 (pL S 0 ((S.1.1.2 0) ||| s)) (((if_pos hc5).trans (if_pos hc26)).symm) 
  · refine gx_aload_n X dX1_offer_8 rfl 0 rfl ?_
    refine gx_iload_n X dX1_offer_9 rfl 1 rfl ?_
    refine gP_p0 X (hD _) dX1_offer_10 ?_
    refine gx_aload_n X dX1_offer_13 rfl 0 rfl ?_
    refine gx_lload_n X dX1_offer_14 rfl 2 rfl ?_
    refine gP_P0 X (hD _) dX1_offer_15 ?_
    refine gx_goto (tgt := 39) X dX1_offer_18 (by decide) ?_
    refine gx_sub [0, 1, 2] rfl ?_
    exact J39 (pL (pI S 0 i) 0 s) ((if_neg hc5).symm) 
def P_wantedBehind (S : PS) (d : Int) : Int64 := if d = 0 then (zl_ushr (S.1.1.2 1) 1) else (zl_shl (S.1.1.2 1) 1)
set_option maxRecDepth 100000 in
theorem c_P_wantedBehind {l : Launch} {K : KK} (r q : Nat → Nat) (S : PS) (d : Int) (hp0 : ok32 d) : CtL l yX1_wantedBehind cX1_wantedBehind 2 (0, 0) K [.ref (r 0), .int (iI d)] (wPC K r q S) (P_wantedBehind S d) (wPC K r q S) := by
  refine ctL_of (by decide) (Nat.le_of_ble_eq_true rfl) ?_
  intro x X hD hR
  have hD : ∀ S9 : PS, va_D (cx_A x) (wPC K r q S9) := fun S9 => va_D_same hD rfl
  refine gx_iload_n X dX1_wantedBehind_0 rfl 1 rfl ?_
  have J19 : ∀ (m19 : Int64), m19 = (if d = 0 then (zl_ushr (S.1.1.2 1) 1) else (zl_shl (S.1.1.2 1) 1)) → GG l (rmK (0, 0)) K x (wPC K r q S) 19 [(0, .ref (r 0)), (1, .int (iI d))] [.long m19] := by
    intro m19 e_m19
    exact gx_lret hR (e_m19.symm) rfl dX1_wantedBehind_19
  refine gx_if_ne (tgt := 13) X dX1_wantedBehind_1 (by decide) (by omega) (fun hc1 => ?_) (fun hc1 => ?_)
  · refine gx_aload_n X dX1_wantedBehind_13 rfl 0 rfl ?_
    refine gP_G1 (v := (S.1.1.2 1)) X rfl dX1_wantedBehind_14 ?_
    refine gx_iconst (z := 1) X dX1_wantedBehind_17 rfl ?_
    refine gx_lshl (v := (zl_shl (S.1.1.2 1) 1)) X dX1_wantedBehind_18 rfl ?_
    refine gx_sub [0, 1] rfl ?_
    exact J19 (zl_shl (S.1.1.2 1) 1) ((if_neg hc1).symm) 
  · refine gx_aload_n X dX1_wantedBehind_4 rfl 0 rfl ?_
    refine gP_G1 (v := (S.1.1.2 1)) X rfl dX1_wantedBehind_5 ?_
    refine gx_iconst (z := 1) X dX1_wantedBehind_8 rfl ?_
    refine gx_lushr (v := (zl_ushr (S.1.1.2 1) 1)) X dX1_wantedBehind_9 rfl ?_
    refine gx_goto (tgt := 19) X dX1_wantedBehind_10 (by decide) ?_
    refine gx_sub [0, 1] rfl ?_
    exact J19 (zl_ushr (S.1.1.2 1) 1) ((if_pos hc1).symm) 
def P_offerTurned (S : PS) (a : Int) (t : Int) (d : Int) : PS := if (C_fits S.2 a (C_threadAfter S.2 (P_roundFrom t d) d)) = 0 then S else (P_offer S (S.1.2.1 (P_index (a + 1) (P_roundFrom t d) d 0)) ((if d = 0 then (zl_shl (S.1.2.2 (P_index (a + 1) (P_roundFrom t d) d 0)) 1) else (zl_ushr (S.1.2.2 (P_index (a + 1) (P_roundFrom t d) d 0)) 1)) : Int64))
theorem P_offerTurned_inv {N : Int} (S : PS) (a t d : Int) (h : InvP N S) (_ : 0 ≤ a ∧ a < 30) (_ : 0 ≤ t ∧ t ≤ 3) (_ : 0 ≤ d ∧ d ≤ 1) : InvP N (P_offerTurned S a t d) := by
  unfold P_offerTurned
  split
  · exact h
  · have k := InvP_f h (P_index (a + 1) (P_roundFrom t d) d 0)
    exact P_offer_inv _ _ _ h (by omega)
set_option maxRecDepth 100000 in
theorem c_P_offerTurned {l : Launch} {K : KK} {N : Int} (r q : Nat → Nat) (S : PS) (a : Int) (t : Int) (d : Int) (hI : InvP N S) (hp1 : 0 ≤ a ∧ a < 30) (hp2 : 0 ≤ t ∧ t ≤ 3) (hp3 : 0 ≤ d ∧ d ≤ 1) : CtV l yX1_offerTurned cX1_offerTurned 7 (2, 44) K [.ref (r 0), .ref (q 0), .int (iI a), .int (iI t), .int (iI d)] (wPC K r q S) (wPC K r q (P_offerTurned S a t d)) := by
  refine ctV_of (by decide) (Nat.le_of_ble_eq_true rfl) ?_
  intro x X hD hR
  have hD : ∀ S9 : PS, va_D (cx_A x) (wPC K r q S9) := fun S9 => va_D_same hD rfl
  have hs0 := InvP_s0 hI
  have hs1 := InvP_s1 hI
  have hs2 := InvP_s2 hI
  have hs3 := InvP_s3 hI
  refine gx_iload_n X dX1_offerTurned_0 rfl 3 rfl ?_
  refine gx_iload X dX1_offerTurned_1 4 rfl ?_
  refine gx_callSI (As := [.int (iI t), .int (iI d)]) (rest := []) X (hD _) lk_P_107 (c_P_roundFrom t d (by omega) (by omega)) jn_nil rfl ⟨by decide, by decide⟩ (Nat.le_of_ble_eq_true rfl) dX1_offerTurned_3 ?_
  have hq3_0 := P_roundFrom_sp t d
  refine gx_istore X dX1_offerTurned_6 (by decide) rfl ?_
  refine gx_aload_n X dX1_offerTurned_8 rfl 2 rfl ?_
  refine gx_iload_n X dX1_offerTurned_9 rfl 3 rfl ?_
  refine gx_aload_n X dX1_offerTurned_10 rfl 2 rfl ?_
  refine gx_iload X dX1_offerTurned_11 0 rfl ?_
  refine gx_iload X dX1_offerTurned_13 5 rfl ?_
  refine gx_callVI (As := [.int (iI (P_roundFrom t d)), .int (iI d)]) (rest := [.int (iI a), .ref (q 0)]) X (hD _) lk_P_96 (ci := 0) rfl rfl 0 rfl (c_C_threadAfter q S.2 (P_roundFrom t d) d hI.1 (by omega) (by omega)) (jn_r (hD _)) rfl ⟨by decide, by decide⟩ (Nat.le_of_ble_eq_true rfl) dX1_offerTurned_15 ?_
  have hp15_0 := C_threadAfter_rg S.2 (P_roundFrom t d) d hI.1 (by omega) (by omega)
  refine gx_callVI (As := [.int (iI a), .int (iI (C_threadAfter S.2 (P_roundFrom t d) d))]) (rest := []) X (hD _) lk_P_99 (ci := 0) rfl rfl 0 rfl (c_C_fits q S.2 a (C_threadAfter S.2 (P_roundFrom t d) d) hI.1 (by omega) (by omega)) (jn_r (hD _)) rfl ⟨by decide, by decide⟩ (Nat.le_of_ble_eq_true rfl) dX1_offerTurned_18 ?_
  have hq18_0 := C_fits_01 S.2 a (C_threadAfter S.2 (P_roundFrom t d) d)
  have J74 : ∀ (S74 : PS), S74 = (if (C_fits S.2 a (C_threadAfter S.2 (P_roundFrom t d) d)) = 0 then S else (P_offer S (S.1.2.1 (P_index (a + 1) (P_roundFrom t d) d 0)) ((if d = 0 then (zl_shl (S.1.2.2 (P_index (a + 1) (P_roundFrom t d) d 0)) 1) else (zl_ushr (S.1.2.2 (P_index (a + 1) (P_roundFrom t d) d 0)) 1)) : Int64))) → GG l (rmK (2, 44)) K x (wPC K r q S74) 74 [(0, .ref (r 0)), (1, .ref (q 0)), (2, .int (iI a)), (3, .int (iI t)), (4, .int (iI d)), (5, .int (iI (P_roundFrom t d)))] [] := by
    intro S74 e_S74
    exact gx_vret hR (congrArg (fun z : PS => (wPC K r q z)) ((show P_offerTurned S a t d = S74 from e_S74.symm))) dX1_offerTurned_74
  refine gx_if_eq (tgt := 74) X dX1_offerTurned_21 (by decide) (by omega) (fun hc21 => ?_) (fun hc21 => ?_)
  · refine gx_sub [1, 2, 3, 4, 5, 0] rfl ?_
    exact J74 S ((if_pos hc21).symm) 
  · refine gx_iload_n X dX1_offerTurned_24 rfl 3 rfl ?_
    refine gx_iconst (z := 1) X dX1_offerTurned_25 rfl ?_
    refine gx_iadd X dX1_offerTurned_26 ?_
    refine gx_iload X dX1_offerTurned_27 0 rfl ?_
    refine gx_iload X dX1_offerTurned_29 5 rfl ?_
    refine gx_iconst (z := 0) X dX1_offerTurned_31 rfl ?_
    refine gx_callSI (As := [.int (iI (a + 1)), .int (iI (P_roundFrom t d)), .int (iI d), .int (iI 0)]) (rest := []) X (hD _) lk_P_55 (c_P_index (a + 1) (P_roundFrom t d) d 0 ) jn_nil rfl ⟨by decide, by decide⟩ (Nat.le_of_ble_eq_true rfl) dX1_offerTurned_32 ?_
    have hq32_0 := P_index_sp (a + 1) (P_roundFrom t d) d 0
    refine gx_istore X dX1_offerTurned_35 (by decide) rfl ?_
    refine gx_aload_n X dX1_offerTurned_37 rfl 2 rfl ?_
    refine gx_aload_n X dX1_offerTurned_38 rfl 2 rfl ?_
    refine gP_rF X dX1_offerTurned_39 ?_
    refine gx_iload X dX1_offerTurned_42 0 rfl ?_
    refine gP_lF (v := (S.1.2.1 (P_index (a + 1) (P_roundFrom t d) d 0))) X (by omega) rfl dX1_offerTurned_44 ?_
    have hr44 := InvP_f hI (P_index (a + 1) (P_roundFrom t d) d 0)
    refine gx_iload X dX1_offerTurned_45 6 rfl ?_
    have J71 : ∀ (m71 : Int64), m71 = (if d = 0 then (zl_shl (S.1.2.2 (P_index (a + 1) (P_roundFrom t d) d 0)) 1) else (zl_ushr (S.1.2.2 (P_index (a + 1) (P_roundFrom t d) d 0)) 1)) → GG l (rmK (2, 44)) K x (wPC K r q S) 71 [(0, .ref (r 0)), (1, .ref (q 0)), (2, .int (iI a)), (3, .int (iI t)), (4, .int (iI d)), (5, .int (iI (P_roundFrom t d))), (6, .int (iI (P_index (a + 1) (P_roundFrom t d) d 0)))] [.long m71, .int (iI (S.1.2.1 (P_index (a + 1) (P_roundFrom t d) d 0))), .ref (r 0)] := by
      intro m71 e_m71
      refine gx_callVV (As := [.int (iI (S.1.2.1 (P_index (a + 1) (P_roundFrom t d) d 0))), .long m71]) (rest := []) X (hD _) lk_P_103 (ci := 1) rfl rfl 0 rfl (c_P_offer r q S (S.1.2.1 (P_index (a + 1) (P_roundFrom t d) d 0)) m71 hI (by omega)) jn_all rfl ⟨by decide, by decide⟩ (Nat.le_of_ble_eq_true rfl) dX1_offerTurned_71 ?_
      have hv71 := P_offer_inv S (S.1.2.1 (P_index (a + 1) (P_roundFrom t d) d 0)) m71 hI (by omega)
      refine gx_sub [0, 1, 2, 3, 4, 5] rfl ?_
      subst e_m71
      exact J74 _ ((if_neg hc21).symm) 
    refine gx_if_ne (tgt := 62) X dX1_offerTurned_47 (by decide) (by omega) (fun hc47 => ?_) (fun hc47 => ?_)
    · refine gx_aload_n X dX1_offerTurned_62 rfl 2 rfl ?_
      refine gP_rG X dX1_offerTurned_63 ?_
      refine gx_iload X dX1_offerTurned_66 0 rfl ?_
      refine gP_lG (v := (S.1.2.2 (P_index (a + 1) (P_roundFrom t d) d 0))) X (by omega) rfl dX1_offerTurned_68 ?_
      refine gx_iconst (z := 1) X dX1_offerTurned_69 rfl ?_
      refine gx_lushr (v := (zl_ushr (S.1.2.2 (P_index (a + 1) (P_roundFrom t d) d 0)) 1)) X dX1_offerTurned_70 rfl ?_
      refine gx_sub [2, 3, 4, 5, 6, 1, 0] rfl ?_
      exact J71 (zl_ushr (S.1.2.2 (P_index (a + 1) (P_roundFrom t d) d 0)) 1) ((if_neg hc47).symm) 
    · refine gx_aload_n X dX1_offerTurned_50 rfl 2 rfl ?_
      refine gP_rG X dX1_offerTurned_51 ?_
      refine gx_iload X dX1_offerTurned_54 0 rfl ?_
      refine gP_lG (v := (S.1.2.2 (P_index (a + 1) (P_roundFrom t d) d 0))) X (by omega) rfl dX1_offerTurned_56 ?_
      refine gx_iconst (z := 1) X dX1_offerTurned_57 rfl ?_
      refine gx_lshl (v := (zl_shl (S.1.2.2 (P_index (a + 1) (P_roundFrom t d) d 0)) 1)) X dX1_offerTurned_58 rfl ?_
      refine gx_goto (tgt := 71) X dX1_offerTurned_59 (by decide) ?_
      refine gx_sub [2, 3, 4, 5, 6, 1, 0] rfl ?_
      exact J71 (zl_shl (S.1.2.2 (P_index (a + 1) (P_roundFrom t d) d 0)) 1) ((if_pos hc47).symm) 
def P_firstTurn_l25 (S : PS) (a : Int) : Nat → Int → (Int) ⊕ (Unit)
  | 0, v4 => .inr ()
  | fu + 1, v4 => if 1 < v4 then .inr () else (fun (m90 : Int) => if m90 = 0 then P_firstTurn_l25 S a fu (v4 + 1) else if (C_fits S.2 a (C_threadAfter S.2 (P_roundFrom (S.1.1.1 1) v4) v4)) = 0 then P_firstTurn_l25 S a fu (v4 + 1) else .inl v4) (if (S.1.2.1 (P_index (a + 1) (P_roundFrom (S.1.1.1 1) v4) v4 0)) = (S.1.2.1 (P_index a (S.1.1.1 1) (S.1.1.1 2) (S.1.1.1 3))) then if (zcr ((S.1.2.2 (P_index (a + 1) (P_roundFrom (S.1.1.1 1) v4) v4 0)) &&& (P_wantedBehind S v4)) (lI 0)) = 0 then 0 else 1 else 0)
theorem P_firstTurn_l25_s (S : PS) (a : Int) (fu : Nat) (v4 : Int) : P_firstTurn_l25 S a (fu + 1) v4 = (if 1 < v4 then .inr () else (fun (m90 : Int) => if m90 = 0 then P_firstTurn_l25 S a fu (v4 + 1) else if (C_fits S.2 a (C_threadAfter S.2 (P_roundFrom (S.1.1.1 1) v4) v4)) = 0 then P_firstTurn_l25 S a fu (v4 + 1) else .inl v4) (if (S.1.2.1 (P_index (a + 1) (P_roundFrom (S.1.1.1 1) v4) v4 0)) = (S.1.2.1 (P_index a (S.1.1.1 1) (S.1.1.1 2) (S.1.1.1 3))) then if (zcr ((S.1.2.2 (P_index (a + 1) (P_roundFrom (S.1.1.1 1) v4) v4 0)) &&& (P_wantedBehind S v4)) (lI 0)) = 0 then 0 else 1 else 0)) := rfl
def P_firstTurn_r25  : Int := 2
def P_firstTurn (S : PS) (a : Int) : Int := Sum.elim id (fun z25 => P_firstTurn_r25 ) (P_firstTurn_l25 S a (3) 0)
set_option maxRecDepth 100000 in
theorem c_P_firstTurn {l : Launch} {K : KK} {N : Int} (r q : Nat → Nat) (S : PS) (a : Int) (hI : InvP N S) (hp1 : 0 ≤ a ∧ a < 30) : CtI l yX1_firstTurn cX1_firstTurn 8 .int (2, 44) K [.ref (r 0), .ref (q 0), .int (iI a)] (wPC K r q S) (P_firstTurn S a) (wPC K r q S) := by
  refine ctI_of (by decide) (Nat.le_of_ble_eq_true rfl) rfl ?_
  intro x X hD hR
  have hD : ∀ S9 : PS, va_D (cx_A x) (wPC K r q S9) := fun S9 => va_D_same hD rfl
  have hs0 := InvP_s0 hI
  have hs1 := InvP_s1 hI
  have hs2 := InvP_s2 hI
  have hs3 := InvP_s3 hI
  refine gx_aload_n X dX1_firstTurn_0 rfl 0 rfl ?_
  refine gP_rF X dX1_firstTurn_1 ?_
  refine gx_iload_n X dX1_firstTurn_4 rfl 2 rfl ?_
  refine gx_aload_n X dX1_firstTurn_5 rfl 0 rfl ?_
  refine gP_g1 (v := (S.1.1.1 1)) X rfl dX1_firstTurn_6 ?_
  refine gx_aload_n X dX1_firstTurn_9 rfl 0 rfl ?_
  refine gP_g2 (v := (S.1.1.1 2)) X rfl dX1_firstTurn_10 ?_
  refine gx_aload_n X dX1_firstTurn_13 rfl 0 rfl ?_
  refine gP_g3 (v := (S.1.1.1 3)) X rfl dX1_firstTurn_14 ?_
  refine gx_callSI (As := [.int (iI a), .int (iI (S.1.1.1 1)), .int (iI (S.1.1.1 2)), .int (iI (S.1.1.1 3))]) (rest := [.ref (r 1)]) X (hD _) lk_P_55 (c_P_index a (S.1.1.1 1) (S.1.1.1 2) (S.1.1.1 3) ) jn_nil rfl ⟨by decide, by decide⟩ (Nat.le_of_ble_eq_true rfl) dX1_firstTurn_17 ?_
  have hq17_0 := P_index_sp a (S.1.1.1 1) (S.1.1.1 2) (S.1.1.1 3)
  refine gP_lF (v := (S.1.2.1 (P_index a (S.1.1.1 1) (S.1.1.1 2) (S.1.1.1 3)))) X (by omega) rfl dX1_firstTurn_20 ?_
  have hr20 := InvP_f hI (P_index a (S.1.1.1 1) (S.1.1.1 2) (S.1.1.1 3))
  refine gx_istore_n X dX1_firstTurn_21 rfl (by decide) rfl ?_
  refine gx_iconst (z := 0) X dX1_firstTurn_22 rfl ?_
  refine gx_istore X dX1_firstTurn_23 (by decide) rfl ?_
  have L25 : ∀ (fu : Nat) (v4 : Int), (0 ≤ v4) → (v4 ≤ 2) → (2 - v4) < (fu : Int) → (∀ z25 : Unit, P_firstTurn_l25 S a fu v4 = .inr z25 → True → GG l (rmK (2, 44)) K x (wPC K r q S) 122 [(0, .ref (r 0)), (1, .ref (q 0)), (2, .int (iI a)), (3, .int (iI (S.1.2.1 (P_index a (S.1.1.1 1) (S.1.1.1 2) (S.1.1.1 3)))))] []) → (∀ zz : Int, P_firstTurn_l25 S a fu v4 = .inl zz → P_firstTurn S a = zz) → GG l (rmK (2, 44)) K x (wPC K r q S) 25 [(0, .ref (r 0)), (1, .ref (q 0)), (2, .int (iI a)), (3, .int (iI (S.1.2.1 (P_index a (S.1.1.1 1) (S.1.1.1 2) (S.1.1.1 3))))), (4, .int (iI v4))] [] := by
    intro fu
    induction fu with
    | zero => intro v4 hi25_0 hi25_1 hm25 K25 KR25; exact absurd hm25 (by omega)
    | succ fu ih =>
      intro v4 hi25_0 hi25_1 hm25 K25 KR25
      refine gx_iload X dX1_firstTurn_25 4 rfl ?_
      refine gx_iconst (z := 1) X dX1_firstTurn_27 rfl ?_
      refine gx_icmp_gt (tgt := 122) X dX1_firstTurn_28 (by decide) (by omega) (fun hc28 => ?_) (fun hc28 => ?_)
      · refine gx_sub [0, 1, 2, 3] rfl ?_
        exact K25 () ((P_firstTurn_l25_s S a fu v4).trans (if_pos hc28)) trivial
      · refine gx_aload_n X dX1_firstTurn_31 rfl 0 rfl ?_
        refine gP_g1 (v := (S.1.1.1 1)) X rfl dX1_firstTurn_32 ?_
        refine gx_iload X dX1_firstTurn_35 4 rfl ?_
        refine gx_callSI (As := [.int (iI (S.1.1.1 1)), .int (iI v4)]) (rest := []) X (hD _) lk_P_107 (c_P_roundFrom (S.1.1.1 1) v4 (by omega) (by omega)) jn_nil rfl ⟨by decide, by decide⟩ (Nat.le_of_ble_eq_true rfl) dX1_firstTurn_37 ?_
        have hq37_0 := P_roundFrom_sp (S.1.1.1 1) v4
        refine gx_istore X dX1_firstTurn_40 (by decide) rfl ?_
        refine gx_iload_n X dX1_firstTurn_42 rfl 3 rfl ?_
        refine gx_iconst (z := 1) X dX1_firstTurn_43 rfl ?_
        refine gx_iadd X dX1_firstTurn_44 ?_
        refine gx_iload X dX1_firstTurn_45 0 rfl ?_
        refine gx_iload X dX1_firstTurn_47 5 rfl ?_
        refine gx_iconst (z := 0) X dX1_firstTurn_49 rfl ?_
        refine gx_callSI (As := [.int (iI (a + 1)), .int (iI (P_roundFrom (S.1.1.1 1) v4)), .int (iI v4), .int (iI 0)]) (rest := []) X (hD _) lk_P_55 (c_P_index (a + 1) (P_roundFrom (S.1.1.1 1) v4) v4 0 ) jn_nil rfl ⟨by decide, by decide⟩ (Nat.le_of_ble_eq_true rfl) dX1_firstTurn_50 ?_
        have hq50_0 := P_index_sp (a + 1) (P_roundFrom (S.1.1.1 1) v4) v4 0
        refine gx_istore X dX1_firstTurn_53 (by decide) rfl ?_
        refine gx_aload_n X dX1_firstTurn_55 rfl 2 rfl ?_
        refine gP_rF X dX1_firstTurn_56 ?_
        refine gx_iload X dX1_firstTurn_59 0 rfl ?_
        refine gP_lF (v := (S.1.2.1 (P_index (a + 1) (P_roundFrom (S.1.1.1 1) v4) v4 0))) X (by omega) rfl dX1_firstTurn_61 ?_
        have hr61 := InvP_f hI (P_index (a + 1) (P_roundFrom (S.1.1.1 1) v4) v4 0)
        refine gx_iload_n X dX1_firstTurn_62 rfl 5 rfl ?_
        have J90 : ∀ (m90 : Int), m90 = (if (S.1.2.1 (P_index (a + 1) (P_roundFrom (S.1.1.1 1) v4) v4 0)) = (S.1.2.1 (P_index a (S.1.1.1 1) (S.1.1.1 2) (S.1.1.1 3))) then if (zcr ((S.1.2.2 (P_index (a + 1) (P_roundFrom (S.1.1.1 1) v4) v4 0)) &&& (P_wantedBehind S v4)) (lI 0)) = 0 then 0 else 1 else 0) → (0 ≤ m90 ∧ m90 ≤ 1) → GG l (rmK (2, 44)) K x (wPC K r q S) 90 [(0, .ref (r 0)), (1, .ref (q 0)), (2, .int (iI a)), (3, .int (iI (S.1.2.1 (P_index a (S.1.1.1 1) (S.1.1.1 2) (S.1.1.1 3))))), (4, .int (iI v4)), (5, .int (iI (P_roundFrom (S.1.1.1 1) v4))), (6, .int (iI (P_index (a + 1) (P_roundFrom (S.1.1.1 1) v4) v4 0)))] [.int (iI m90)] := by
          intro m90 e_m90 hf90_0
          refine gx_istore X dX1_firstTurn_90 (by decide) rfl ?_
          refine gx_iload X dX1_firstTurn_92 0 rfl ?_
          refine gx_if_eq (tgt := 116) X dX1_firstTurn_94 (by decide) (by omega) (fun hc94 => ?_) (fun hc94 => ?_)
          · refine gx_iinc X dX1_firstTurn_116 5 rfl (by decide) rfl ?_
            refine gx_goto (tgt := 25) X dX1_firstTurn_119 (by decide) ?_
            refine gx_sub [2, 3, 4, 5, 0] rfl ?_
            subst e_m90
            exact ih _ (by omega) (by omega) (by omega) (fun z e hx => K25 z ((P_firstTurn_l25_s S a fu v4).trans (((if_neg hc28).trans (if_pos hc94)).trans e)) hx) (fun z e => KR25 z ((P_firstTurn_l25_s S a fu v4).trans (((if_neg hc28).trans (if_pos hc94)).trans e)))
          · refine gx_aload_n X dX1_firstTurn_97 rfl 2 rfl ?_
            refine gx_iload_n X dX1_firstTurn_98 rfl 3 rfl ?_
            refine gx_aload_n X dX1_firstTurn_99 rfl 2 rfl ?_
            refine gx_iload X dX1_firstTurn_100 6 rfl ?_
            refine gx_iload X dX1_firstTurn_102 5 rfl ?_
            refine gx_callVI (As := [.int (iI (P_roundFrom (S.1.1.1 1) v4)), .int (iI v4)]) (rest := [.int (iI a), .ref (q 0)]) X (hD _) lk_P_96 (ci := 0) rfl rfl 0 rfl (c_C_threadAfter q S.2 (P_roundFrom (S.1.1.1 1) v4) v4 hI.1 (by omega) (by omega)) (jn_r (hD _)) rfl ⟨by decide, by decide⟩ (Nat.le_of_ble_eq_true rfl) dX1_firstTurn_104 ?_
            have hp104_0 := C_threadAfter_rg S.2 (P_roundFrom (S.1.1.1 1) v4) v4 hI.1 (by omega) (by omega)
            refine gx_callVI (As := [.int (iI a), .int (iI (C_threadAfter S.2 (P_roundFrom (S.1.1.1 1) v4) v4))]) (rest := []) X (hD _) lk_P_99 (ci := 0) rfl rfl 0 rfl (c_C_fits q S.2 a (C_threadAfter S.2 (P_roundFrom (S.1.1.1 1) v4) v4) hI.1 (by omega) (by omega)) (jn_r (hD _)) rfl ⟨by decide, by decide⟩ (Nat.le_of_ble_eq_true rfl) dX1_firstTurn_107 ?_
            have hq107_0 := C_fits_01 S.2 a (C_threadAfter S.2 (P_roundFrom (S.1.1.1 1) v4) v4)
            refine gx_if_eq (tgt := 116) X dX1_firstTurn_110 (by decide) (by omega) (fun hc110 => ?_) (fun hc110 => ?_)
            · refine gx_iinc X dX1_firstTurn_116 5 rfl (by decide) rfl ?_
              refine gx_goto (tgt := 25) X dX1_firstTurn_119 (by decide) ?_
              refine gx_sub [2, 3, 4, 5, 0] rfl ?_
              subst e_m90
              exact ih _ (by omega) (by omega) (by omega) (fun z e hx => K25 z ((P_firstTurn_l25_s S a fu v4).trans (((if_neg hc28).trans ((if_neg hc94).trans (if_pos hc110))).trans e)) hx) (fun z e => KR25 z ((P_firstTurn_l25_s S a fu v4).trans (((if_neg hc28).trans ((if_neg hc94).trans (if_pos hc110))).trans e)))
            · refine gx_iload X dX1_firstTurn_113 5 rfl ?_
              subst e_m90
              exact gx_iret hR (KR25 _ ((P_firstTurn_l25_s S a fu v4).trans ((if_neg hc28).trans ((if_neg hc94).trans (if_neg hc110))))) rfl dX1_firstTurn_115
        refine gx_icmp_ne (tgt := 89) X dX1_firstTurn_63 (by decide) (by omega) (fun hc63 => ?_) (fun hc63 => ?_)
        · refine gx_iconst (z := 0) X dX1_firstTurn_89 rfl ?_
          refine gx_sub [2, 3, 4, 5, 6, 1, 0] rfl ?_
          exact J90 0 ((if_neg hc63).symm) (by omega)
        · refine gx_aload_n X dX1_firstTurn_66 rfl 2 rfl ?_
          refine gP_rG X dX1_firstTurn_67 ?_
          refine gx_iload X dX1_firstTurn_70 0 rfl ?_
          refine gP_lG (v := (S.1.2.2 (P_index (a + 1) (P_roundFrom (S.1.1.1 1) v4) v4 0))) X (by omega) rfl dX1_firstTurn_72 ?_
          refine gx_aload_n X dX1_firstTurn_73 rfl 2 rfl ?_
          refine gx_iload X dX1_firstTurn_74 6 rfl ?_
          refine gx_callVL (As := [.int (iI v4)]) (rest := [.long (S.1.2.2 (P_index (a + 1) (P_roundFrom (S.1.1.1 1) v4) v4 0))]) X (hD _) lk_P_120 (ci := 1) rfl rfl 0 rfl (c_P_wantedBehind r q S v4 (by omega)) jn_all rfl ⟨by decide, by decide⟩ (Nat.le_of_ble_eq_true rfl) dX1_firstTurn_76 ?_
          refine gx_land X dX1_firstTurn_79 ?_
          refine gx_lconst (v := lI 0) X dX1_firstTurn_80 rfl ?_
          refine gx_lcmpr X dX1_firstTurn_81 ?_
          have ho81 := zcr_ok ((S.1.2.2 (P_index (a + 1) (P_roundFrom (S.1.1.1 1) v4) v4 0)) &&& (P_wantedBehind S v4)) (lI 0)
          refine gx_if_eq (tgt := 89) X dX1_firstTurn_82 (by decide) (by omega) (fun hc82 => ?_) (fun hc82 => ?_)
          · refine gx_iconst (z := 0) X dX1_firstTurn_89 rfl ?_
            refine gx_sub [2, 3, 4, 5, 6, 1, 0] rfl ?_
            exact J90 0 (((if_pos hc63).trans (if_pos hc82)).symm) (by omega)
          · refine gx_iconst (z := 1) X dX1_firstTurn_85 rfl ?_
            refine gx_goto (tgt := 90) X dX1_firstTurn_86 (by decide) ?_
            refine gx_sub [2, 3, 4, 5, 6, 1, 0] rfl ?_
            exact J90 1 (((if_pos hc63).trans (if_neg hc82)).symm) (by omega)
  refine gx_sub [2, 3, 4, 1, 0] rfl ?_
  refine L25 (3) 0 (by omega) (by omega) (by omega) (fun z25 e25 hx25 => ?_) (fun z e => congrArg (Sum.elim id (fun z25 => P_firstTurn_r25 )) e)
  refine gx_iconst (z := 2) X dX1_firstTurn_122 rfl ?_
  exact gx_iret hR (congrArg (Sum.elim id (fun z25 => P_firstTurn_r25 )) e25) rfl dX1_firstTurn_123
def P_goOn (S : PS) (d : Int) : PS := if d = 2 then (pI S 3 (J_min ((S.1.1.1 3) + 1) 9)) else (cI (pL (pI (pI (pI S 1 (P_roundFrom (S.1.1.1 1) d)) 2 d) 3 0) 1 (P_wantedBehind (pI (pI (pI S 1 (P_roundFrom (S.1.1.1 1) d)) 2 d) 3 0) d)) 5 ((S.2.1 5) + (C_twistOf S.2 d)))
set_option maxRecDepth 100000 in
theorem c_P_goOn {l : Launch} {K : KK} {N : Int} (r q : Nat → Nat) (S : PS) (d : Int) (hI : InvP N S) (hp1 : 0 ≤ d ∧ d ≤ 2) : CtV l yX1_goOn cX1_goOn 3 (2, 41) K [.ref (r 0), .ref (q 0), .int (iI d)] (wPC K r q S) (wPC K r q (P_goOn S d)) := by
  refine ctV_of (by decide) (Nat.le_of_ble_eq_true rfl) ?_
  intro x X hD hR
  have hD : ∀ S9 : PS, va_D (cx_A x) (wPC K r q S9) := fun S9 => va_D_same hD rfl
  have hs0 := InvP_s0 hI
  have hs1 := InvP_s1 hI
  have hs2 := InvP_s2 hI
  have hs3 := InvP_s3 hI
  refine gx_iload_n X dX1_goOn_0 rfl 2 rfl ?_
  refine gx_iconst (z := 2) X dX1_goOn_1 rfl ?_
  have J68 : ∀ (S68 : PS), S68 = (if d = 2 then (pI S 3 (J_min ((S.1.1.1 3) + 1) 9)) else (cI (pL (pI (pI (pI S 1 (P_roundFrom (S.1.1.1 1) d)) 2 d) 3 0) 1 (P_wantedBehind (pI (pI (pI S 1 (P_roundFrom (S.1.1.1 1) d)) 2 d) 3 0) d)) 5 ((S.2.1 5) + (C_twistOf S.2 d)))) → GG l (rmK (2, 41)) K x (wPC K r q S68) 68 [(0, .ref (r 0)), (1, .ref (q 0)), (2, .int (iI d))] [] := by
    intro S68 e_S68
    exact gx_vret hR (congrArg (fun z : PS => (wPC K r q z)) ((show P_goOn S d = S68 from e_S68.symm))) dX1_goOn_68
  refine gx_icmp_ne (tgt := 23) X dX1_goOn_2 (by decide) (by omega) (fun hc2 => ?_) (fun hc2 => ?_)
  · refine gx_aload_n X dX1_goOn_23 rfl 0 rfl ?_
    refine gx_aload_n X dX1_goOn_24 rfl 0 rfl ?_
    refine gP_g1 (v := (S.1.1.1 1)) X rfl dX1_goOn_25 ?_
    refine gx_iload_n X dX1_goOn_28 rfl 2 rfl ?_
    refine gx_callSI (As := [.int (iI (S.1.1.1 1)), .int (iI d)]) (rest := [.ref (r 0)]) X (hD _) lk_P_107 (c_P_roundFrom (S.1.1.1 1) d (by omega) (by omega)) jn_nil rfl ⟨by decide, by decide⟩ (Nat.le_of_ble_eq_true rfl) dX1_goOn_29 ?_
    have hq29_0 := P_roundFrom_sp (S.1.1.1 1) d
    refine gP_p1 X (hD _) dX1_goOn_32 ?_
    refine gx_aload_n X dX1_goOn_35 rfl 0 rfl ?_
    refine gx_iload_n X dX1_goOn_36 rfl 2 rfl ?_
    refine gP_p2 X (hD _) dX1_goOn_37 ?_
    refine gx_aload_n X dX1_goOn_40 rfl 0 rfl ?_
    refine gx_iconst (z := 0) X dX1_goOn_41 rfl ?_
    refine gP_p3 X (hD _) dX1_goOn_42 ?_
    refine gx_aload_n X dX1_goOn_45 rfl 0 rfl ?_
    refine gx_aload_n X dX1_goOn_46 rfl 0 rfl ?_
    refine gx_iload_n X dX1_goOn_47 rfl 2 rfl ?_
    refine gx_callVL (As := [.int (iI d)]) (rest := [.ref (r 0)]) X (hD _) lk_P_120 (ci := 1) rfl rfl 0 rfl (c_P_wantedBehind r q (pI (pI (pI S 1 (P_roundFrom (S.1.1.1 1) d)) 2 d) 3 0) d (by omega)) jn_all rfl ⟨by decide, by decide⟩ (Nat.le_of_ble_eq_true rfl) dX1_goOn_48 ?_
    refine gP_P1 X (hD _) dX1_goOn_51 ?_
    refine gx_aload_n X dX1_goOn_54 rfl 1 rfl ?_
    refine gx_dup X dX1_goOn_55 rfl ?_
    refine gP_cg5 (v := (S.2.1 5)) X rfl dX1_goOn_56 ?_
    refine gx_aload_n X dX1_goOn_59 rfl 1 rfl ?_
    refine gx_iload_n X dX1_goOn_60 rfl 2 rfl ?_
    refine gx_callVI (As := [.int (iI d)]) (rest := [.int (iI (S.2.1 5)), .ref (q 0)]) X (hD _) lk_P_124 (ci := 0) rfl rfl 0 rfl (c_C_twistOf q S.2 d (show 0 ≤ S.2.1 0 ∧ S.2.1 0 ≤ 1 from InvC_s0 hI.1) (by omega)) (jn_r (hD _)) rfl ⟨by decide, by decide⟩ (Nat.le_of_ble_eq_true rfl) dX1_goOn_61 ?_
    refine gx_iadd X dX1_goOn_64 ?_
    refine gP_cp5 X (hD _) dX1_goOn_65 ?_
    refine gx_sub [0, 1, 2] rfl ?_
    exact J68 (cI (pL (pI (pI (pI S 1 (P_roundFrom (S.1.1.1 1) d)) 2 d) 3 0) 1 (P_wantedBehind (pI (pI (pI S 1 (P_roundFrom (S.1.1.1 1) d)) 2 d) 3 0) d)) 5 ((S.2.1 5) + (C_twistOf S.2 d))) ((if_neg hc2).symm) 
  · refine gx_aload_n X dX1_goOn_5 rfl 0 rfl ?_
    refine gx_aload_n X dX1_goOn_6 rfl 0 rfl ?_
    refine gP_g3 (v := (S.1.1.1 3)) X rfl dX1_goOn_7 ?_
    refine gx_iconst (z := 1) X dX1_goOn_10 rfl ?_
    refine gx_iadd X dX1_goOn_11 ?_
    refine gx_bipush (z := 9) X dX1_goOn_12 (by decide) ?_
    refine gx_callSI (As := [.int (iI ((S.1.1.1 3) + 1)), .int (iI 9)]) (rest := [.ref (r 0)]) X (hD _) lk_P_46 (c_J_min ((S.1.1.1 3) + 1) 9 (by omega) (by omega)) jn_nil rfl ⟨by decide, by decide⟩ (Nat.le_of_ble_eq_true rfl) dX1_goOn_14 ?_
    have hq14_0 := J_min_sp ((S.1.1.1 3) + 1) 9
    refine gP_p3 X (hD _) dX1_goOn_17 ?_
    refine gx_goto (tgt := 68) X dX1_goOn_20 (by decide) ?_
    refine gx_sub [0, 1, 2] rfl ?_
    exact J68 (pI S 3 (J_min ((S.1.1.1 3) + 1) 9)) ((if_pos hc2).symm) 
def P_fillRow_l78 (a : Int) (f : Int) (v4 : Int) (S3 : PS) (v8 : Int) (S54 : PS) : Nat → Int → PS → PS
  | 0, v10, S78 => S78
  | fu + 1, v10, S78 => if f < v10 then S78 else (fun (S143 : PS) => P_fillRow_l78 a f v4 S3 v8 S54 fu (v10 + 1) (pG (pF S143 (P_index a v4 v8 v10) (S143.1.1.1 0)) (P_index a v4 v8 v10) (S143.1.1.2 0))) (if (C_fits S54.2 a (C_threadAfter S54.2 v4 v8)) = 0 then (pL (pI S78 0 ((P_offerTurned (P_offerTurned (pL (pI S3 0 1000) 0 (lI 0)) a v4 0) a v4 1).1.1.1 0)) 0 ((P_offerTurned (P_offerTurned (pL (pI S3 0 1000) 0 (lI 0)) a v4 0) a v4 1).1.1.2 0)) else if f ≤ v10 then (pL (pI S78 0 ((P_offerTurned (P_offerTurned (pL (pI S3 0 1000) 0 (lI 0)) a v4 0) a v4 1).1.1.1 0)) 0 ((P_offerTurned (P_offerTurned (pL (pI S3 0 1000) 0 (lI 0)) a v4 0) a v4 1).1.1.2 0)) else (P_offer (pL (pI S78 0 ((P_offerTurned (P_offerTurned (pL (pI S3 0 1000) 0 (lI 0)) a v4 0) a v4 1).1.1.1 0)) 0 ((P_offerTurned (P_offerTurned (pL (pI S3 0 1000) 0 (lI 0)) a v4 0) a v4 1).1.1.2 0)) ((S78.1.2.1 (P_index (a + 1) v4 v8 (v10 + 1))) + 1) (S78.1.2.2 (P_index (a + 1) v4 v8 (v10 + 1)))))
theorem P_fillRow_l78_s (a : Int) (f : Int) (v4 : Int) (S3 : PS) (v8 : Int) (S54 : PS) (fu : Nat) (v10 : Int) (S78 : PS) : P_fillRow_l78 a f v4 S3 v8 S54 (fu + 1) v10 S78 = (if f < v10 then S78 else (fun (S143 : PS) => P_fillRow_l78 a f v4 S3 v8 S54 fu (v10 + 1) (pG (pF S143 (P_index a v4 v8 v10) (S143.1.1.1 0)) (P_index a v4 v8 v10) (S143.1.1.2 0))) (if (C_fits S54.2 a (C_threadAfter S54.2 v4 v8)) = 0 then (pL (pI S78 0 ((P_offerTurned (P_offerTurned (pL (pI S3 0 1000) 0 (lI 0)) a v4 0) a v4 1).1.1.1 0)) 0 ((P_offerTurned (P_offerTurned (pL (pI S3 0 1000) 0 (lI 0)) a v4 0) a v4 1).1.1.2 0)) else if f ≤ v10 then (pL (pI S78 0 ((P_offerTurned (P_offerTurned (pL (pI S3 0 1000) 0 (lI 0)) a v4 0) a v4 1).1.1.1 0)) 0 ((P_offerTurned (P_offerTurned (pL (pI S3 0 1000) 0 (lI 0)) a v4 0) a v4 1).1.1.2 0)) else (P_offer (pL (pI S78 0 ((P_offerTurned (P_offerTurned (pL (pI S3 0 1000) 0 (lI 0)) a v4 0) a v4 1).1.1.1 0)) 0 ((P_offerTurned (P_offerTurned (pL (pI S3 0 1000) 0 (lI 0)) a v4 0) a v4 1).1.1.2 0)) ((S78.1.2.1 (P_index (a + 1) v4 v8 (v10 + 1))) + 1) (S78.1.2.2 (P_index (a + 1) v4 v8 (v10 + 1)))))) := rfl
def P_fillRow_l54 (a : Int) (f : Int) (v4 : Int) (S3 : PS) : Nat → Int → PS → PS
  | 0, v8, S54 => S54
  | fu + 1, v8, S54 => if 2 ≤ v8 then S54 else (fun (z78 : PS) => P_fillRow_l54 a f v4 S3 fu (v8 + 1) z78) (P_fillRow_l78 a f v4 S3 v8 S54 (11) 0 S54)
theorem P_fillRow_l54_s (a : Int) (f : Int) (v4 : Int) (S3 : PS) (fu : Nat) (v8 : Int) (S54 : PS) : P_fillRow_l54 a f v4 S3 (fu + 1) v8 S54 = (if 2 ≤ v8 then S54 else (fun (z78 : PS) => P_fillRow_l54 a f v4 S3 fu (v8 + 1) z78) (P_fillRow_l78 a f v4 S3 v8 S54 (11) 0 S54)) := rfl
def P_fillRow_l3 (a : Int) (f : Int) : Nat → Int → PS → PS
  | 0, v4, S3 => S3
  | fu + 1, v4, S3 => if 4 ≤ v4 then S3 else (fun (z54 : PS) => P_fillRow_l3 a f fu (v4 + 1) z54) (P_fillRow_l54 a f v4 S3 (3) 0 (P_offerTurned (P_offerTurned (pL (pI S3 0 1000) 0 (lI 0)) a v4 0) a v4 1))
theorem P_fillRow_l3_s (a : Int) (f : Int) (fu : Nat) (v4 : Int) (S3 : PS) : P_fillRow_l3 a f (fu + 1) v4 S3 = (if 4 ≤ v4 then S3 else (fun (z54 : PS) => P_fillRow_l3 a f fu (v4 + 1) z54) (P_fillRow_l54 a f v4 S3 (3) 0 (P_offerTurned (P_offerTurned (pL (pI S3 0 1000) 0 (lI 0)) a v4 0) a v4 1))) := rfl
def P_fillRow (S : PS) (a : Int) (f : Int) : PS := (P_fillRow_l3 a f (5) 0 S)
set_option maxRecDepth 100000 in
theorem c_P_fillRow {l : Launch} {K : KK} {N : Int} (r q : Nat → Nat) (S : PS) (a : Int) (f : Int) (hI : InvP N S) (hp1 : 0 ≤ a ∧ a < 30) (hp2 : 0 ≤ f ∧ f ≤ 9) : CtV l yX1_fillRow cX1_fillRow 12 (3, 70) K [.ref (r 0), .ref (q 0), .int (iI a), .int (iI f)] (wPC K r q S) (wPC K r q (P_fillRow S a f)) := by
  refine ctV_of (by decide) (Nat.le_of_ble_eq_true rfl) ?_
  intro x X hD hR
  have hD : ∀ S9 : PS, va_D (cx_A x) (wPC K r q S9) := fun S9 => va_D_same hD rfl
  have hs0 := InvP_s0 hI
  have hs1 := InvP_s1 hI
  have hs2 := InvP_s2 hI
  have hs3 := InvP_s3 hI
  refine gx_iconst (z := 0) X dX1_fillRow_0 rfl ?_
  refine gx_istore X dX1_fillRow_1 (by decide) rfl ?_
  have L3 : ∀ (fu : Nat) (v4 : Int) (S3 : PS), (0 ≤ v4) → (v4 ≤ 4) → (InvP N S3) → (4 - v4) < (fu : Int) → (∀ z3 : PS, P_fillRow_l3 a f fu v4 S3 = z3 → (InvP N z3) → GG l (rmK (3, 70)) K x (wPC K r q z3) 199 [(0, .ref (r 0)), (1, .ref (q 0)), (2, .int (iI a)), (3, .int (iI f))] []) → GG l (rmK (3, 70)) K x (wPC K r q S3) 3 [(0, .ref (r 0)), (1, .ref (q 0)), (2, .int (iI a)), (3, .int (iI f)), (4, .int (iI v4))] [] := by
    intro fu
    induction fu with
    | zero => intro v4 S3 hi3_0 hi3_1 hi3_2 hm3 K3; exact absurd hm3 (by omega)
    | succ fu ih =>
      intro v4 S3 hi3_0 hi3_1 hi3_2 hm3 K3
      refine gx_iload X dX1_fillRow_3 4 rfl ?_
      refine gx_iconst (z := 4) X dX1_fillRow_5 rfl ?_
      refine gx_icmp_ge (tgt := 199) X dX1_fillRow_6 (by decide) (by omega) (fun hc6 => ?_) (fun hc6 => ?_)
      · refine gx_sub [0, 1, 2, 3] rfl ?_
        exact K3 S3 ((P_fillRow_l3_s a f fu v4 S3).trans (if_pos hc6)) (hi3_2)
      · refine gx_aload_n X dX1_fillRow_9 rfl 0 rfl ?_
        refine gx_sipush (z := 1000) X dX1_fillRow_10 (by decide) ?_
        refine gP_p0 X (hD _) dX1_fillRow_13 ?_
        refine gx_aload_n X dX1_fillRow_16 rfl 0 rfl ?_
        refine gx_lconst (v := lI 0) X dX1_fillRow_17 rfl ?_
        refine gP_P0 X (hD _) dX1_fillRow_18 ?_
        refine gx_aload_n X dX1_fillRow_21 rfl 0 rfl ?_
        refine gx_aload_n X dX1_fillRow_22 rfl 1 rfl ?_
        refine gx_iload_n X dX1_fillRow_23 rfl 2 rfl ?_
        refine gx_iload X dX1_fillRow_24 4 rfl ?_
        refine gx_iconst (z := 0) X dX1_fillRow_26 rfl ?_
        refine gx_callVV (As := [.ref (q 0), .int (iI a), .int (iI v4), .int (iI 0)]) (rest := []) X (hD _) lk_P_92 (ci := 1) rfl rfl 0 rfl (c_P_offerTurned r q (pL (pI S3 0 1000) 0 (lI 0)) a v4 0 ((hi3_2.pI0 (by decide)).pL) (by omega) (by omega) (by omega)) jn_all rfl ⟨by decide, by decide⟩ (Nat.le_of_ble_eq_true rfl) dX1_fillRow_27 ?_
        have hv27 := P_offerTurned_inv (pL (pI S3 0 1000) 0 (lI 0)) a v4 0 ((hi3_2.pI0 (by decide)).pL) (by omega) (by omega) (by omega)
        refine gx_aload_n X dX1_fillRow_30 rfl 0 rfl ?_
        refine gx_aload_n X dX1_fillRow_31 rfl 1 rfl ?_
        refine gx_iload_n X dX1_fillRow_32 rfl 2 rfl ?_
        refine gx_iload X dX1_fillRow_33 4 rfl ?_
        refine gx_iconst (z := 1) X dX1_fillRow_35 rfl ?_
        refine gx_callVV (As := [.ref (q 0), .int (iI a), .int (iI v4), .int (iI 1)]) (rest := []) X (hD _) lk_P_92 (ci := 1) rfl rfl 0 rfl (c_P_offerTurned r q (P_offerTurned (pL (pI S3 0 1000) 0 (lI 0)) a v4 0) a v4 1 hv27 (by omega) (by omega) (by omega)) jn_all rfl ⟨by decide, by decide⟩ (Nat.le_of_ble_eq_true rfl) dX1_fillRow_36 ?_
        have hv36 := P_offerTurned_inv (P_offerTurned (pL (pI S3 0 1000) 0 (lI 0)) a v4 0) a v4 1 hv27 (by omega) (by omega) (by omega)
        refine gx_aload_n X dX1_fillRow_39 rfl 0 rfl ?_
        refine gP_g0 (v := ((P_offerTurned (P_offerTurned (pL (pI S3 0 1000) 0 (lI 0)) a v4 0) a v4 1).1.1.1 0)) X rfl dX1_fillRow_40 ?_
        have hg40 := InvP_s0 hv36
        refine gx_istore X dX1_fillRow_43 (by decide) rfl ?_
        refine gx_aload_n X dX1_fillRow_45 rfl 1 rfl ?_
        refine gP_G0 (v := ((P_offerTurned (P_offerTurned (pL (pI S3 0 1000) 0 (lI 0)) a v4 0) a v4 1).1.1.2 0)) X rfl dX1_fillRow_46 ?_
        refine gx_lstore X dX1_fillRow_49 (by decide) rfl ?_
        refine gx_iconst (z := 0) X dX1_fillRow_51 rfl ?_
        refine gx_istore X dX1_fillRow_52 (by decide) rfl ?_
        have L54 : ∀ (fu : Nat) (v8 : Int) (S54 : PS), (0 ≤ v8) → (v8 ≤ 2) → (InvP N S54) → (2 - v8) < (fu : Int) → (∀ z54 : PS, P_fillRow_l54 a f v4 S3 fu v8 S54 = z54 → (InvP N z54) → GG l (rmK (3, 70)) K x (wPC K r q z54) 193 [(0, .ref (r 0)), (1, .ref (q 0)), (2, .int (iI a)), (3, .int (iI f)), (4, .int (iI v4)), (5, .int (iI ((P_offerTurned (P_offerTurned (pL (pI S3 0 1000) 0 (lI 0)) a v4 0) a v4 1).1.1.1 0))), (6, .long ((P_offerTurned (P_offerTurned (pL (pI S3 0 1000) 0 (lI 0)) a v4 0) a v4 1).1.1.2 0))] []) → GG l (rmK (3, 70)) K x (wPC K r q S54) 54 [(0, .ref (r 0)), (1, .ref (q 0)), (2, .int (iI a)), (3, .int (iI f)), (4, .int (iI v4)), (5, .int (iI ((P_offerTurned (P_offerTurned (pL (pI S3 0 1000) 0 (lI 0)) a v4 0) a v4 1).1.1.1 0))), (6, .long ((P_offerTurned (P_offerTurned (pL (pI S3 0 1000) 0 (lI 0)) a v4 0) a v4 1).1.1.2 0)), (8, .int (iI v8))] [] := by
          intro fu
          induction fu with
          | zero => intro v8 S54 hi54_0 hi54_1 hi54_2 hm54 K54; exact absurd hm54 (by omega)
          | succ fu ih =>
            intro v8 S54 hi54_0 hi54_1 hi54_2 hm54 K54
            refine gx_iload X dX1_fillRow_54 7 rfl ?_
            refine gx_iconst (z := 2) X dX1_fillRow_56 rfl ?_
            refine gx_icmp_ge (tgt := 193) X dX1_fillRow_57 (by decide) (by omega) (fun hc57 => ?_) (fun hc57 => ?_)
            · refine gx_sub [0, 1, 2, 3, 4, 5, 6] rfl ?_
              exact K54 S54 ((P_fillRow_l54_s a f v4 S3 fu v8 S54).trans (if_pos hc57)) (hi54_2)
            · refine gx_aload_n X dX1_fillRow_60 rfl 1 rfl ?_
              refine gx_iload_n X dX1_fillRow_61 rfl 2 rfl ?_
              refine gx_aload_n X dX1_fillRow_62 rfl 1 rfl ?_
              refine gx_iload X dX1_fillRow_63 4 rfl ?_
              refine gx_iload X dX1_fillRow_65 7 rfl ?_
              refine gx_callVI (As := [.int (iI v4), .int (iI v8)]) (rest := [.int (iI a), .ref (q 0)]) X (hD _) lk_P_96 (ci := 0) rfl rfl 0 rfl (c_C_threadAfter q S54.2 v4 v8 hi54_2.1 (by omega) (by omega)) (jn_r (hD _)) rfl ⟨by decide, by decide⟩ (Nat.le_of_ble_eq_true rfl) dX1_fillRow_67 ?_
              have hp67_0 := C_threadAfter_rg S54.2 v4 v8 hi54_2.1 (by omega) (by omega)
              refine gx_callVI (As := [.int (iI a), .int (iI (C_threadAfter S54.2 v4 v8))]) (rest := []) X (hD _) lk_P_99 (ci := 0) rfl rfl 0 rfl (c_C_fits q S54.2 a (C_threadAfter S54.2 v4 v8) hi54_2.1 (by omega) (by omega)) (jn_r (hD _)) rfl ⟨by decide, by decide⟩ (Nat.le_of_ble_eq_true rfl) dX1_fillRow_70 ?_
              have hq70_0 := C_fits_01 S54.2 a (C_threadAfter S54.2 v4 v8)
              refine gx_istore X dX1_fillRow_73 (by decide) rfl ?_
              refine gx_iconst (z := 0) X dX1_fillRow_75 rfl ?_
              refine gx_istore X dX1_fillRow_76 (by decide) rfl ?_
              have L78 : ∀ (fu : Nat) (v10 : Int) (S78 : PS), (0 ≤ v10) → (v10 ≤ (f + 1)) → (InvP N S78) → ((f + 1) - v10) < (fu : Int) → (∀ z78 : PS, P_fillRow_l78 a f v4 S3 v8 S54 fu v10 S78 = z78 → (InvP N z78) → GG l (rmK (3, 70)) K x (wPC K r q z78) 187 [(0, .ref (r 0)), (1, .ref (q 0)), (2, .int (iI a)), (3, .int (iI f)), (4, .int (iI v4)), (5, .int (iI ((P_offerTurned (P_offerTurned (pL (pI S3 0 1000) 0 (lI 0)) a v4 0) a v4 1).1.1.1 0))), (6, .long ((P_offerTurned (P_offerTurned (pL (pI S3 0 1000) 0 (lI 0)) a v4 0) a v4 1).1.1.2 0)), (8, .int (iI v8)), (9, .int (iI (C_fits S54.2 a (C_threadAfter S54.2 v4 v8))))] []) → GG l (rmK (3, 70)) K x (wPC K r q S78) 78 [(0, .ref (r 0)), (1, .ref (q 0)), (2, .int (iI a)), (3, .int (iI f)), (4, .int (iI v4)), (5, .int (iI ((P_offerTurned (P_offerTurned (pL (pI S3 0 1000) 0 (lI 0)) a v4 0) a v4 1).1.1.1 0))), (6, .long ((P_offerTurned (P_offerTurned (pL (pI S3 0 1000) 0 (lI 0)) a v4 0) a v4 1).1.1.2 0)), (8, .int (iI v8)), (9, .int (iI (C_fits S54.2 a (C_threadAfter S54.2 v4 v8)))), (10, .int (iI v10))] [] := by
                intro fu
                induction fu with
                | zero => intro v10 S78 hi78_0 hi78_1 hi78_2 hm78 K78; exact absurd hm78 (by omega)
                | succ fu ih =>
                  intro v10 S78 hi78_0 hi78_1 hi78_2 hm78 K78
                  refine gx_iload X dX1_fillRow_78 9 rfl ?_
                  refine gx_iload_n X dX1_fillRow_80 rfl 3 rfl ?_
                  refine gx_icmp_gt (tgt := 187) X dX1_fillRow_81 (by decide) (by omega) (fun hc81 => ?_) (fun hc81 => ?_)
                  · refine gx_sub [0, 1, 2, 3, 4, 5, 6, 7, 8] rfl ?_
                    exact K78 S78 ((P_fillRow_l78_s a f v4 S3 v8 S54 fu v10 S78).trans (if_pos hc81)) (hi78_2)
                  · refine gx_aload_n X dX1_fillRow_84 rfl 0 rfl ?_
                    refine gx_iload X dX1_fillRow_85 5 rfl ?_
                    refine gP_p0 X (hD _) dX1_fillRow_87 ?_
                    refine gx_aload_n X dX1_fillRow_90 rfl 0 rfl ?_
                    refine gx_lload X dX1_fillRow_91 6 rfl ?_
                    refine gP_P0 X (hD _) dX1_fillRow_93 ?_
                    refine gx_iload X dX1_fillRow_96 8 rfl ?_
                    have J143 : ∀ (S143 : PS), S143 = (if (C_fits S54.2 a (C_threadAfter S54.2 v4 v8)) = 0 then (pL (pI S78 0 ((P_offerTurned (P_offerTurned (pL (pI S3 0 1000) 0 (lI 0)) a v4 0) a v4 1).1.1.1 0)) 0 ((P_offerTurned (P_offerTurned (pL (pI S3 0 1000) 0 (lI 0)) a v4 0) a v4 1).1.1.2 0)) else if f ≤ v10 then (pL (pI S78 0 ((P_offerTurned (P_offerTurned (pL (pI S3 0 1000) 0 (lI 0)) a v4 0) a v4 1).1.1.1 0)) 0 ((P_offerTurned (P_offerTurned (pL (pI S3 0 1000) 0 (lI 0)) a v4 0) a v4 1).1.1.2 0)) else (P_offer (pL (pI S78 0 ((P_offerTurned (P_offerTurned (pL (pI S3 0 1000) 0 (lI 0)) a v4 0) a v4 1).1.1.1 0)) 0 ((P_offerTurned (P_offerTurned (pL (pI S3 0 1000) 0 (lI 0)) a v4 0) a v4 1).1.1.2 0)) ((S78.1.2.1 (P_index (a + 1) v4 v8 (v10 + 1))) + 1) (S78.1.2.2 (P_index (a + 1) v4 v8 (v10 + 1))))) → (InvP N S143) → GG l (rmK (3, 70)) K x (wPC K r q S143) 143 [(0, .ref (r 0)), (1, .ref (q 0)), (2, .int (iI a)), (3, .int (iI f)), (4, .int (iI v4)), (5, .int (iI ((P_offerTurned (P_offerTurned (pL (pI S3 0 1000) 0 (lI 0)) a v4 0) a v4 1).1.1.1 0))), (6, .long ((P_offerTurned (P_offerTurned (pL (pI S3 0 1000) 0 (lI 0)) a v4 0) a v4 1).1.1.2 0)), (8, .int (iI v8)), (9, .int (iI (C_fits S54.2 a (C_threadAfter S54.2 v4 v8)))), (10, .int (iI v10))] [] := by
                      intro S143 e_S143 hf143_0
                      refine gx_aload_n X dX1_fillRow_143 rfl 0 rfl ?_
                      refine gP_rF X dX1_fillRow_144 ?_
                      refine gx_iload_n X dX1_fillRow_147 rfl 2 rfl ?_
                      refine gx_iload X dX1_fillRow_148 4 rfl ?_
                      refine gx_iload X dX1_fillRow_150 7 rfl ?_
                      refine gx_iload X dX1_fillRow_152 9 rfl ?_
                      refine gx_callSI (As := [.int (iI a), .int (iI v4), .int (iI v8), .int (iI v10)]) (rest := [.ref (r 1)]) X (hD _) lk_P_55 (c_P_index a v4 v8 v10 ) jn_nil rfl ⟨by decide, by decide⟩ (Nat.le_of_ble_eq_true rfl) dX1_fillRow_154 ?_
                      have hq154_0 := P_index_sp a v4 v8 v10
                      refine gx_aload_n X dX1_fillRow_157 rfl 0 rfl ?_
                      refine gP_g0 (v := (S143.1.1.1 0)) X rfl dX1_fillRow_158 ?_
                      have hg158 := InvP_s0 hf143_0
                      refine gP_sF X (hD _) (by omega) dX1_fillRow_161 ?_
                      refine gx_aload_n X dX1_fillRow_162 rfl 0 rfl ?_
                      refine gP_rG X dX1_fillRow_163 ?_
                      refine gx_iload_n X dX1_fillRow_166 rfl 2 rfl ?_
                      refine gx_iload X dX1_fillRow_167 4 rfl ?_
                      refine gx_iload X dX1_fillRow_169 7 rfl ?_
                      refine gx_iload X dX1_fillRow_171 9 rfl ?_
                      refine gx_callSI (As := [.int (iI a), .int (iI v4), .int (iI v8), .int (iI v10)]) (rest := [.ref (r 2)]) X (hD _) lk_P_55 (c_P_index a v4 v8 v10 ) jn_nil rfl ⟨by decide, by decide⟩ (Nat.le_of_ble_eq_true rfl) dX1_fillRow_173 ?_
                      have hq173_0 := P_index_sp a v4 v8 v10
                      refine gx_aload_n X dX1_fillRow_176 rfl 0 rfl ?_
                      refine gP_G0 (v := (S143.1.1.2 0)) X rfl dX1_fillRow_177 ?_
                      refine gP_sG X (hD _) (by omega) dX1_fillRow_180 ?_
                      refine gx_iinc X dX1_fillRow_181 9 rfl (by decide) rfl ?_
                      refine gx_goto (tgt := 78) X dX1_fillRow_184 (by decide) ?_
                      refine gx_sub [1, 2, 3, 4, 5, 6, 7, 8, 9, 0] rfl ?_
                      subst e_S143
                      exact ih _ _ (by omega) (by omega) (InvP.pG (InvP.pF hf143_0 (InvP_s0 hf143_0))) (by omega) (fun z e hx => K78 z ((P_fillRow_l78_s a f v4 S3 v8 S54 fu v10 S78).trans ((if_neg hc81).trans e)) hx)
                    refine gx_if_eq (tgt := 143) X dX1_fillRow_98 (by decide) (by omega) (fun hc98 => ?_) (fun hc98 => ?_)
                    · refine gx_sub [0, 1, 2, 3, 4, 5, 6, 7, 8, 9] rfl ?_
                      exact J143 (pL (pI S78 0 ((P_offerTurned (P_offerTurned (pL (pI S3 0 1000) 0 (lI 0)) a v4 0) a v4 1).1.1.1 0)) 0 ((P_offerTurned (P_offerTurned (pL (pI S3 0 1000) 0 (lI 0)) a v4 0) a v4 1).1.1.2 0)) ((if_pos hc98).symm) (by first | exact hv140 | exact (hi78_2.pI0 (by omega)).pL)
                    · refine gx_iload X dX1_fillRow_101 9 rfl ?_
                      refine gx_iload_n X dX1_fillRow_103 rfl 3 rfl ?_
                      refine gx_icmp_ge (tgt := 143) X dX1_fillRow_104 (by decide) (by omega) (fun hc104 => ?_) (fun hc104 => ?_)
                      · refine gx_sub [0, 1, 2, 3, 4, 5, 6, 7, 8, 9] rfl ?_
                        exact J143 (pL (pI S78 0 ((P_offerTurned (P_offerTurned (pL (pI S3 0 1000) 0 (lI 0)) a v4 0) a v4 1).1.1.1 0)) 0 ((P_offerTurned (P_offerTurned (pL (pI S3 0 1000) 0 (lI 0)) a v4 0) a v4 1).1.1.2 0)) (((if_neg hc98).trans (if_pos hc104)).symm) (by first | exact hv140 | exact (hi78_2.pI0 (by omega)).pL)
                      · refine gx_iload_n X dX1_fillRow_107 rfl 2 rfl ?_
                        refine gx_iconst (z := 1) X dX1_fillRow_108 rfl ?_
                        refine gx_iadd X dX1_fillRow_109 ?_
                        refine gx_iload X dX1_fillRow_110 4 rfl ?_
                        refine gx_iload X dX1_fillRow_112 7 rfl ?_
                        refine gx_iload X dX1_fillRow_114 9 rfl ?_
                        refine gx_iconst (z := 1) X dX1_fillRow_116 rfl ?_
                        refine gx_iadd X dX1_fillRow_117 ?_
                        refine gx_callSI (As := [.int (iI (a + 1)), .int (iI v4), .int (iI v8), .int (iI (v10 + 1))]) (rest := []) X (hD _) lk_P_55 (c_P_index (a + 1) v4 v8 (v10 + 1) ) jn_nil rfl ⟨by decide, by decide⟩ (Nat.le_of_ble_eq_true rfl) dX1_fillRow_118 ?_
                        have hq118_0 := P_index_sp (a + 1) v4 v8 (v10 + 1)
                        refine gx_istore X dX1_fillRow_121 (by decide) rfl ?_
                        refine gx_aload_n X dX1_fillRow_123 rfl 1 rfl ?_
                        refine gx_aload_n X dX1_fillRow_124 rfl 1 rfl ?_
                        refine gP_rF X dX1_fillRow_125 ?_
                        refine gx_iload X dX1_fillRow_128 0 rfl ?_
                        refine gP_lF (v := (S78.1.2.1 (P_index (a + 1) v4 v8 (v10 + 1)))) X (by omega) rfl dX1_fillRow_130 ?_
                        have hr130 := InvP_f hi78_2 (P_index (a + 1) v4 v8 (v10 + 1))
                        refine gx_iconst (z := 1) X dX1_fillRow_131 rfl ?_
                        refine gx_iadd X dX1_fillRow_132 ?_
                        refine gx_aload_n X dX1_fillRow_133 rfl 1 rfl ?_
                        refine gP_rG X dX1_fillRow_134 ?_
                        refine gx_iload X dX1_fillRow_137 0 rfl ?_
                        refine gP_lG (v := (S78.1.2.2 (P_index (a + 1) v4 v8 (v10 + 1)))) X (by omega) rfl dX1_fillRow_139 ?_
                        refine gx_callVV (As := [.int (iI ((S78.1.2.1 (P_index (a + 1) v4 v8 (v10 + 1))) + 1)), .long (S78.1.2.2 (P_index (a + 1) v4 v8 (v10 + 1)))]) (rest := []) X (hD _) lk_P_103 (ci := 1) rfl rfl 0 rfl (c_P_offer r q (pL (pI S78 0 ((P_offerTurned (P_offerTurned (pL (pI S3 0 1000) 0 (lI 0)) a v4 0) a v4 1).1.1.1 0)) 0 ((P_offerTurned (P_offerTurned (pL (pI S3 0 1000) 0 (lI 0)) a v4 0) a v4 1).1.1.2 0)) ((S78.1.2.1 (P_index (a + 1) v4 v8 (v10 + 1))) + 1) (S78.1.2.2 (P_index (a + 1) v4 v8 (v10 + 1))) ((hi78_2.pI0 (by omega)).pL) (by omega)) jn_all rfl ⟨by decide, by decide⟩ (Nat.le_of_ble_eq_true rfl) dX1_fillRow_140 ?_
                        have hv140 := P_offer_inv (pL (pI S78 0 ((P_offerTurned (P_offerTurned (pL (pI S3 0 1000) 0 (lI 0)) a v4 0) a v4 1).1.1.1 0)) 0 ((P_offerTurned (P_offerTurned (pL (pI S3 0 1000) 0 (lI 0)) a v4 0) a v4 1).1.1.2 0)) ((S78.1.2.1 (P_index (a + 1) v4 v8 (v10 + 1))) + 1) (S78.1.2.2 (P_index (a + 1) v4 v8 (v10 + 1))) ((hi78_2.pI0 (by omega)).pL) (by omega)
                        refine gx_sub [1, 2, 3, 4, 5, 6, 7, 8, 9, 10] rfl ?_
                        exact J143 (P_offer (pL (pI S78 0 ((P_offerTurned (P_offerTurned (pL (pI S3 0 1000) 0 (lI 0)) a v4 0) a v4 1).1.1.1 0)) 0 ((P_offerTurned (P_offerTurned (pL (pI S3 0 1000) 0 (lI 0)) a v4 0) a v4 1).1.1.2 0)) ((S78.1.2.1 (P_index (a + 1) v4 v8 (v10 + 1))) + 1) (S78.1.2.2 (P_index (a + 1) v4 v8 (v10 + 1)))) (((if_neg hc98).trans (if_neg hc104)).symm) (by first | exact hv140 | exact (hi78_2.pI0 (by omega)).pL)
              refine gx_sub [2, 3, 4, 5, 6, 7, 8, 9, 1, 0] rfl ?_
              refine L78 (11) 0 S54 (by omega) (by omega) hi54_2 (by omega) (fun z78 e78 hx78 => ?_)
              refine gx_iinc X dX1_fillRow_187 7 rfl (by decide) rfl ?_
              refine gx_goto (tgt := 54) X dX1_fillRow_190 (by decide) ?_
              refine gx_sub [1, 2, 3, 4, 5, 6, 7, 0] rfl ?_
              subst e78
              exact ih _ _ (by omega) (by omega) hx78 (by omega) (fun z e hx => K54 z ((P_fillRow_l54_s a f v4 S3 fu v8 S54).trans ((if_neg hc57).trans e)) hx)
        refine gx_sub [3, 4, 5, 6, 7, 2, 1, 0] rfl ?_
        refine L54 (3) 0 (P_offerTurned (P_offerTurned (pL (pI S3 0 1000) 0 (lI 0)) a v4 0) a v4 1) (by omega) (by omega) hv36 (by omega) (fun z54 e54 hx54 => ?_)
        refine gx_iinc X dX1_fillRow_193 4 rfl (by decide) rfl ?_
        refine gx_goto (tgt := 3) X dX1_fillRow_196 (by decide) ?_
        refine gx_sub [1, 2, 3, 4, 0] rfl ?_
        subst e54
        exact ih _ _ (by omega) (by omega) hx54 (by omega) (fun z e hx => K3 z ((P_fillRow_l3_s a f fu v4 S3).trans ((if_neg hc6).trans e)) hx)
  refine gx_sub [1, 2, 3, 4, 0] rfl ?_
  refine L3 (5) 0 S (by omega) (by omega) hI (by omega) (fun z3 e3 hx3 => ?_)
  exact gx_vret hR (congrArg (fun z : PS => (wPC K r q z)) ((show P_fillRow S a f = z3 from e3))) dX1_fillRow_199
