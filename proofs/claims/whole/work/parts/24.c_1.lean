def C_sense (S : Sta) : Int := if (S.1 0) = 0 then 1 else (-1)
theorem C_sense_sp (S : Sta) : (S.1 0 = 0 ∧ C_sense S = 1) ∨ (¬ S.1 0 = 0 ∧ C_sense S = -1) := by
  unfold C_sense
  split <;> omega
set_option maxRecDepth 100000 in
theorem c_C_sense {l : Launch} {K : KK} (q : Nat → Nat) (S : Sta) (hp0 : 0 ≤ S.1 0 ∧ S.1 0 ≤ 1) : CtI l yX0_sense cX0_sense 1 .int (0, 0) K [.ref (q 0)] (wC K q S) (C_sense S) (wC K q S) := by
  refine ctI_of (by decide) (Nat.le_of_ble_eq_true rfl) rfl ?_
  intro x X hD hR
  have hD : ∀ S9 : Sta, va_D (cx_A x) (wC K q S9) := fun S9 => va_D_same hD rfl
  refine gx_aload_n X dX0_sense_0 rfl 0 rfl ?_
  refine gC_g0 (v := (S.1 0)) X rfl dX0_sense_1 ?_
  have J12 : ∀ (m12 : Int), m12 = (if (S.1 0) = 0 then 1 else (-1)) → GG l (rmK (0, 0)) K x (wC K q S) 12 [(0, .ref (q 0))] [.int (iI m12)] := by
    intro m12 e_m12
    exact gx_iret hR (e_m12.symm) rfl dX0_sense_12
  refine gx_if_ne (tgt := 11) X dX0_sense_4 (by decide) (by omega) (fun hc4 => ?_) (fun hc4 => ?_)
  · refine gx_iconst (z := (-1)) X dX0_sense_11 rfl ?_
    refine gx_sub [0] rfl ?_
    exact J12 (-1) ((if_neg hc4).symm) 
  · refine gx_iconst (z := 1) X dX0_sense_7 rfl ?_
    refine gx_goto (tgt := 12) X dX0_sense_8 (by decide) ?_
    refine gx_sub [0] rfl ?_
    exact J12 1 ((if_pos hc4).symm) 
def C_twistOf (S : Sta) (t : Int) : Int := if t = 2 then 0 else if t = 0 then (C_sense S) else (-(C_sense S))
set_option maxRecDepth 100000 in
theorem c_C_twistOf {l : Launch} {K : KK} (q : Nat → Nat) (S : Sta) (t : Int) (hp0 : 0 ≤ S.1 0 ∧ S.1 0 ≤ 1) (hp1 : ok32 t) : CtI l yX0_twistOf cX0_twistOf 2 .int (1, 20) K [.ref (q 0), .int (iI t)] (wC K q S) (C_twistOf S t) (wC K q S) := by
  refine ctI_of (by decide) (Nat.le_of_ble_eq_true rfl) rfl ?_
  intro x X hD hR
  have hD : ∀ S9 : Sta, va_D (cx_A x) (wC K q S9) := fun S9 => va_D_same hD rfl
  refine gx_iload_n X dX0_twistOf_0 rfl 1 rfl ?_
  refine gx_iconst (z := 2) X dX0_twistOf_1 rfl ?_
  refine gx_icmp_ne (tgt := 7) X dX0_twistOf_2 (by decide) (by omega) (fun hc2 => ?_) (fun hc2 => ?_)
  · refine gx_iload_n X dX0_twistOf_7 rfl 1 rfl ?_
    have J23 : ∀ (m23 : Int), m23 = (if t = 0 then (C_sense S) else (-(C_sense S))) → GG l (rmK (1, 20)) K x (wC K q S) 23 [(0, .ref (q 0)), (1, .int (iI t))] [.int (iI m23)] := by
      intro m23 e_m23
      exact gx_iret hR ((if_neg hc2).trans (e_m23.symm)) rfl dX0_twistOf_23
    refine gx_if_ne (tgt := 18) X dX0_twistOf_8 (by decide) (by omega) (fun hc8 => ?_) (fun hc8 => ?_)
    · refine gx_aload_n X dX0_twistOf_18 rfl 0 rfl ?_
      refine gx_callVI (As := []) (rest := []) X (hD _) lk_C_59 (ci := 0) rfl rfl 0 rfl (c_C_sense q S  (by omega)) jn_all rfl ⟨by decide, by decide⟩ (Nat.le_of_ble_eq_true rfl) dX0_twistOf_19 ?_
      have hq19_0 := C_sense_sp S 
      refine gx_ineg X dX0_twistOf_22 ?_
      refine gx_sub [0, 1] rfl ?_
      exact J23 (-(C_sense S)) ((if_neg hc8).symm) 
    · refine gx_aload_n X dX0_twistOf_11 rfl 0 rfl ?_
      refine gx_callVI (As := []) (rest := []) X (hD _) lk_C_59 (ci := 0) rfl rfl 0 rfl (c_C_sense q S  (by omega)) jn_all rfl ⟨by decide, by decide⟩ (Nat.le_of_ble_eq_true rfl) dX0_twistOf_12 ?_
      have hq12_0 := C_sense_sp S 
      refine gx_goto (tgt := 23) X dX0_twistOf_15 (by decide) ?_
      refine gx_sub [0, 1] rfl ?_
      exact J23 (C_sense S) ((if_pos hc8).symm) 
  · refine gx_iconst (z := 0) X dX0_twistOf_5 rfl ?_
    exact gx_iret hR (if_pos hc2) rfl dX0_twistOf_6
def C_exchange (S : Sta) (i : Int) (j : Int) : Sta := (mA (mA S 0 i (S.2 0 j)) 0 j (S.2 0 i))
theorem C_exchange_sc (S : Sta) (i j : Int) : (C_exchange S i j).1 = S.1 := rfl
theorem C_exchange_ar (S : Sta) (i j : Int) (k : Nat) (hk : k ≠ 0) : (C_exchange S i j).2 k = S.2 k := by
  unfold C_exchange
  rw [mA_ne _ _ trivial hk, mA_ne _ _ trivial hk]
set_option maxRecDepth 100000 in
theorem c_C_exchange {l : Launch} {K : KK} (q : Nat → Nat) (S : Sta) (i : Int) (j : Int) (hp0 : 0 ≤ i ∧ i ≤ 3) (hp1 : 0 ≤ j ∧ j ≤ 3) : CtV l yX0_exchange cX0_exchange 4 (0, 0) K [.ref (q 0), .int (iI i), .int (iI j)] (wC K q S) (wC K q (C_exchange S i j)) := by
  refine ctV_of (by decide) (Nat.le_of_ble_eq_true rfl) ?_
  intro x X hD hR
  have hD : ∀ S9 : Sta, va_D (cx_A x) (wC K q S9) := fun S9 => va_D_same hD rfl
  refine gx_aload_n X dX0_exchange_0 rfl 0 rfl ?_
  refine gC_r0 X dX0_exchange_1 ?_
  refine gx_iload_n X dX0_exchange_4 rfl 1 rfl ?_
  refine gC_l0 (v := (S.2 0 i)) X (by omega) rfl dX0_exchange_5 ?_
  refine gx_istore_n X dX0_exchange_6 rfl (by decide) rfl ?_
  refine gx_aload_n X dX0_exchange_7 rfl 1 rfl ?_
  refine gC_r0 X dX0_exchange_8 ?_
  refine gx_iload_n X dX0_exchange_11 rfl 2 rfl ?_
  refine gx_aload_n X dX0_exchange_12 rfl 1 rfl ?_
  refine gC_r0 X dX0_exchange_13 ?_
  refine gx_iload_n X dX0_exchange_16 rfl 3 rfl ?_
  refine gC_l0 (v := (S.2 0 j)) X (by omega) rfl dX0_exchange_17 ?_
  refine gC_s0 X (hD _) (by omega) dX0_exchange_18 ?_
  refine gx_aload_n X dX0_exchange_19 rfl 1 rfl ?_
  refine gC_r0 X dX0_exchange_20 ?_
  refine gx_iload_n X dX0_exchange_23 rfl 3 rfl ?_
  refine gx_iload_n X dX0_exchange_24 rfl 0 rfl ?_
  refine gC_s0 X (hD _) (by omega) dX0_exchange_25 ?_
  exact gx_vret hR (congrArg (fun z : Sta => (wC K q z)) ((show C_exchange S i j = (mA (mA S 0 i (S.2 0 j)) 0 j (S.2 0 i)) from rfl))) dX0_exchange_26
def C_turnOver (S : Sta) : Sta := (mI (mI (C_exchange (C_exchange S 0 1) 2 3) 0 (1 - (S.1 0))) 6 0)
theorem C_turnOver_sc (S : Sta) (j : Nat) (hj : j ∉ [0, 6]) : (C_turnOver S).1 j = S.1 j := by
  simp only [List.mem_cons, List.not_mem_nil, or_false, not_or] at hj
  exact (if_neg hj.2).trans (if_neg hj.1)
theorem C_turnOver_ar (S : Sta) (k : Nat) (hk : k ≠ 0) : (C_turnOver S).2 k = S.2 k := (C_exchange_ar _ _ _ k hk).trans (C_exchange_ar _ _ _ k hk)
theorem C_exchange_inv {N : Int} {S : Sta} {i j : Int} (h : InvC N S) : InvC N (C_exchange S i j) := (h.mA (h.2.2 0 j)).mA (h.2.2 0 i)
theorem C_turnOver_inv {N : Int} {S : Sta} (h : InvC N S) : InvC N (C_turnOver S) := by
  have h0 := InvC_s0 h
  exact InvC.mI (k := 6) (InvC.mI (k := 0) (C_exchange_inv (C_exchange_inv h)) (show 0 ≤ 1 - S.1 0 ∧ 1 - S.1 0 ≤ 1 from by omega)) (show (0 : Int) ≤ 0 ∧ (0 : Int) ≤ 1 by decide)
set_option maxRecDepth 100000 in
theorem c_C_turnOver {l : Launch} {K : KK} (q : Nat → Nat) (S : Sta)  : CtV l yX0_turnOver cX0_turnOver 1 (1, 23) K [.ref (q 0)] (wC K q S) (wC K q (C_turnOver S)) := by
  refine ctV_of (by decide) (Nat.le_of_ble_eq_true rfl) ?_
  intro x X hD hR
  have hD : ∀ S9 : Sta, va_D (cx_A x) (wC K q S9) := fun S9 => va_D_same hD rfl
  refine gx_aload_n X dX0_turnOver_0 rfl 0 rfl ?_
  refine gx_iconst (z := 0) X dX0_turnOver_1 rfl ?_
  refine gx_iconst (z := 1) X dX0_turnOver_2 rfl ?_
  refine gx_callVV (As := [.int (iI 0), .int (iI 1)]) (rest := []) X (hD _) lk_C_63 (ci := 0) rfl rfl 0 rfl (c_C_exchange q S 0 1 (by omega) (by omega)) jn_all rfl ⟨by decide, by decide⟩ (Nat.le_of_ble_eq_true rfl) dX0_turnOver_3 ?_
  refine gx_aload_n X dX0_turnOver_6 rfl 0 rfl ?_
  refine gx_iconst (z := 2) X dX0_turnOver_7 rfl ?_
  refine gx_iconst (z := 3) X dX0_turnOver_8 rfl ?_
  refine gx_callVV (As := [.int (iI 2), .int (iI 3)]) (rest := []) X (hD _) lk_C_63 (ci := 0) rfl rfl 0 rfl (c_C_exchange q (C_exchange S 0 1) 2 3 (by omega) (by omega)) jn_all rfl ⟨by decide, by decide⟩ (Nat.le_of_ble_eq_true rfl) dX0_turnOver_9 ?_
  refine gx_aload_n X dX0_turnOver_12 rfl 0 rfl ?_
  refine gx_iconst (z := 1) X dX0_turnOver_13 rfl ?_
  refine gx_aload_n X dX0_turnOver_14 rfl 0 rfl ?_
  refine gC_g0 (v := (S.1 0)) X ((congrFun (C_exchange_sc (C_exchange S 0 1) 2 3) 0).trans (congrFun (C_exchange_sc S 0 1) 0)) dX0_turnOver_15 ?_
  refine gx_isub X dX0_turnOver_18 ?_
  refine gC_p0 X (hD _) dX0_turnOver_19 ?_
  refine gx_aload_n X dX0_turnOver_22 rfl 0 rfl ?_
  refine gx_iconst (z := 0) X dX0_turnOver_23 rfl ?_
  refine gC_p6 X (hD _) (by decide) dX0_turnOver_24 ?_
  exact gx_vret hR (congrArg (fun z : Sta => (wC K q z)) ((show C_turnOver S = (mI (mI (C_exchange (C_exchange S 0 1) 2 3) 0 (1 - (S.1 0))) 6 0) from rfl))) dX0_turnOver_27
def C_opposite (t : Int) : Int := if t = 2 then 2 else (1 - t)
theorem C_opposite_sp (t : Int) : (t = 2 ∧ C_opposite t = 2) ∨ (¬ t = 2 ∧ C_opposite t = 1 - t) := by
  unfold C_opposite
  split <;> omega
set_option maxRecDepth 100000 in
theorem c_C_opposite {l : Launch} {K : KK} (t : Int) (hp0 : -1000 ≤ t ∧ t ≤ 1000) : CtI l yX0_opposite cX0_opposite 1 .int (0, 0) K [.int (iI t)] [] (C_opposite t) [] := by
  refine ctI_of (by decide) (Nat.le_of_ble_eq_true rfl) rfl ?_
  intro x X hD hR
  refine gx_iload_n X dX0_opposite_0 rfl 0 rfl ?_
  refine gx_iconst (z := 2) X dX0_opposite_1 rfl ?_
  have J12 : ∀ (m12 : Int), m12 = (if t = 2 then 2 else (1 - t)) → GG l (rmK (0, 0)) K x [] 12 [(0, .int (iI t))] [.int (iI m12)] := by
    intro m12 e_m12
    exact gx_iret hR (e_m12.symm) rfl dX0_opposite_12
  refine gx_icmp_ne (tgt := 9) X dX0_opposite_2 (by decide) (by omega) (fun hc2 => ?_) (fun hc2 => ?_)
  · refine gx_iconst (z := 1) X dX0_opposite_9 rfl ?_
    refine gx_iload_n X dX0_opposite_10 rfl 0 rfl ?_
    refine gx_isub X dX0_opposite_11 ?_
    refine gx_sub [0] rfl ?_
    exact J12 (1 - t) ((if_neg hc2).symm) 
  · refine gx_iconst (z := 2) X dX0_opposite_5 rfl ?_
    refine gx_goto (tgt := 12) X dX0_opposite_6 (by decide) ?_
    refine gx_sub [0] rfl ?_
    exact J12 2 ((if_pos hc2).symm) 
def C_slantOf (S : Sta) (p : Int) (t : Int) : Int := if t = 2 then if p ≤ 0 then 0 else (S.2 4 (p - 1)) else if t = (S.1 0) then 0 else 1
set_option maxRecDepth 100000 in
theorem c_C_slantOf {l : Launch} {K : KK} (q : Nat → Nat) (S : Sta) (p : Int) (t : Int) (hp0 : 0 ≤ S.1 0 ∧ S.1 0 ≤ 1) (hp1 : 0 ≤ p ∧ p < 60) (hp2 : ok32 t) : CtI l yX0_slantOf cX0_slantOf 3 .int (0, 0) K [.ref (q 0), .int (iI p), .int (iI t)] (wC K q S) (C_slantOf S p t) (wC K q S) := by
  refine ctI_of (by decide) (Nat.le_of_ble_eq_true rfl) rfl ?_
  intro x X hD hR
  have hD : ∀ S9 : Sta, va_D (cx_A x) (wC K q S9) := fun S9 => va_D_same hD rfl
  refine gx_iload_n X dX0_slantOf_0 rfl 2 rfl ?_
  refine gx_iconst (z := 2) X dX0_slantOf_1 rfl ?_
  refine gx_icmp_ne (tgt := 22) X dX0_slantOf_2 (by decide) (by omega) (fun hc2 => ?_) (fun hc2 => ?_)
  · refine gx_iload_n X dX0_slantOf_22 rfl 2 rfl ?_
    refine gx_aload_n X dX0_slantOf_23 rfl 0 rfl ?_
    refine gC_g0 (v := (S.1 0)) X rfl dX0_slantOf_24 ?_
    have J35 : ∀ (m35 : Int), m35 = (if t = (S.1 0) then 0 else 1) → GG l (rmK (0, 0)) K x (wC K q S) 35 [(0, .ref (q 0)), (1, .int (iI p)), (2, .int (iI t))] [.int (iI m35)] := by
      intro m35 e_m35
      exact gx_iret hR ((if_neg hc2).trans (e_m35.symm)) rfl dX0_slantOf_35
    refine gx_icmp_ne (tgt := 34) X dX0_slantOf_27 (by decide) (by omega) (fun hc27 => ?_) (fun hc27 => ?_)
    · refine gx_iconst (z := 1) X dX0_slantOf_34 rfl ?_
      refine gx_sub [0, 1, 2] rfl ?_
      exact J35 1 ((if_neg hc27).symm) 
    · refine gx_iconst (z := 0) X dX0_slantOf_30 rfl ?_
      refine gx_goto (tgt := 35) X dX0_slantOf_31 (by decide) ?_
      refine gx_sub [0, 1, 2] rfl ?_
      exact J35 0 ((if_pos hc27).symm) 
  · refine gx_iload_n X dX0_slantOf_5 rfl 1 rfl ?_
    have J21 : ∀ (m21 : Int), m21 = (if p ≤ 0 then 0 else (S.2 4 (p - 1))) → GG l (rmK (0, 0)) K x (wC K q S) 21 [(0, .ref (q 0)), (1, .int (iI p)), (2, .int (iI t))] [.int (iI m21)] := by
      intro m21 e_m21
      exact gx_iret hR ((if_pos hc2).trans (e_m21.symm)) rfl dX0_slantOf_21
    refine gx_if_le (tgt := 20) X dX0_slantOf_6 (by decide) (by omega) (fun hc6 => ?_) (fun hc6 => ?_)
    · refine gx_iconst (z := 0) X dX0_slantOf_20 rfl ?_
      refine gx_sub [0, 1, 2] rfl ?_
      exact J21 0 ((if_pos hc6).symm) 
    · refine gx_aload_n X dX0_slantOf_9 rfl 0 rfl ?_
      refine gC_r4 X dX0_slantOf_10 ?_
      refine gx_iload_n X dX0_slantOf_13 rfl 1 rfl ?_
      refine gx_iconst (z := 1) X dX0_slantOf_14 rfl ?_
      refine gx_isub X dX0_slantOf_15 ?_
      refine gC_l4 (v := (S.2 4 (p - 1))) X (by omega) rfl dX0_slantOf_16 ?_
      refine gx_goto (tgt := 21) X dX0_slantOf_17 (by decide) ?_
      refine gx_sub [0, 1, 2] rfl ?_
      exact J21 (S.2 4 (p - 1)) ((if_neg hc6).symm) 
def C_showing (S : Sta) (p : Int) : Int := if p ≤ 0 then (S.2 0 0) else (S.2 3 (p - 1))
set_option maxRecDepth 100000 in
theorem c_C_showing {l : Launch} {K : KK} (q : Nat → Nat) (S : Sta) (p : Int) (hp0 : 0 ≤ p ∧ p ≤ 60) : CtI l yX0_showing cX0_showing 2 .int (0, 0) K [.ref (q 0), .int (iI p)] (wC K q S) (C_showing S p) (wC K q S) := by
  refine ctI_of (by decide) (Nat.le_of_ble_eq_true rfl) rfl ?_
  intro x X hD hR
  have hD : ∀ S9 : Sta, va_D (cx_A x) (wC K q S9) := fun S9 => va_D_same hD rfl
  refine gx_iload_n X dX0_showing_0 rfl 1 rfl ?_
  have J21 : ∀ (m21 : Int), m21 = (if p ≤ 0 then (S.2 0 0) else (S.2 3 (p - 1))) → GG l (rmK (0, 0)) K x (wC K q S) 21 [(0, .ref (q 0)), (1, .int (iI p))] [.int (iI m21)] := by
    intro m21 e_m21
    exact gx_iret hR (e_m21.symm) rfl dX0_showing_21
  refine gx_if_le (tgt := 15) X dX0_showing_1 (by decide) (by omega) (fun hc1 => ?_) (fun hc1 => ?_)
  · refine gx_aload_n X dX0_showing_15 rfl 0 rfl ?_
    refine gC_r0 X dX0_showing_16 ?_
    refine gx_iconst (z := 0) X dX0_showing_19 rfl ?_
    refine gC_l0 (v := (S.2 0 0)) X (by omega) rfl dX0_showing_20 ?_
    refine gx_sub [0, 1] rfl ?_
    exact J21 (S.2 0 0) ((if_pos hc1).symm) 
  · refine gx_aload_n X dX0_showing_4 rfl 0 rfl ?_
    refine gC_r3 X dX0_showing_5 ?_
    refine gx_iload_n X dX0_showing_8 rfl 1 rfl ?_
    refine gx_iconst (z := 1) X dX0_showing_9 rfl ?_
    refine gx_isub X dX0_showing_10 ?_
    refine gC_l3 (v := (S.2 3 (p - 1))) X (by omega) rfl dX0_showing_11 ?_
    refine gx_goto (tgt := 21) X dX0_showing_12 (by decide) ?_
    refine gx_sub [0, 1] rfl ?_
    exact J21 (S.2 3 (p - 1)) ((if_neg hc1).symm) 
def C_threadOn (S : Sta) (p : Int) (b : Int) : Int := if b = 0 then (S.2 3 p) else (((S.2 3 p) + 2) % 4)
theorem C_threadOn_rg {N : Int} (S : Sta) (p b : Int) (hI : InvC N S) (_ : 0 ≤ p ∧ p < 60) (_ : ok32 b) : 0 ≤ C_threadOn S p b ∧ C_threadOn S p b ≤ 3 := by
  have h := InvC_a3 hI p
  unfold C_threadOn
  split <;> omega
set_option maxRecDepth 100000 in
theorem c_C_threadOn {l : Launch} {K : KK} {N : Int} (q : Nat → Nat) (S : Sta) (p : Int) (b : Int) (hI : InvC N S) (hp1 : 0 ≤ p ∧ p < 60) (hp2 : ok32 b) : CtI l yX0_threadOn cX0_threadOn 3 .int (0, 0) K [.ref (q 0), .int (iI p), .int (iI b)] (wC K q S) (C_threadOn S p b) (wC K q S) := by
  refine ctI_of (by decide) (Nat.le_of_ble_eq_true rfl) rfl ?_
  intro x X hD hR
  have hD : ∀ S9 : Sta, va_D (cx_A x) (wC K q S9) := fun S9 => va_D_same hD rfl
  have hs0 := InvC_s0 hI
  have hs1 := InvC_s1 hI
  have hs3 := InvC_s3 hI
  have hs4 := InvC_s4 hI
  have hs6 := InvC_s6 hI
  refine gx_iload_n X dX0_threadOn_0 rfl 2 rfl ?_
  have J23 : ∀ (m23 : Int), m23 = (if b = 0 then (S.2 3 p) else (((S.2 3 p) + 2) % 4)) → GG l (rmK (0, 0)) K x (wC K q S) 23 [(0, .ref (q 0)), (1, .int (iI p)), (2, .int (iI b))] [.int (iI m23)] := by
    intro m23 e_m23
    exact gx_iret hR (e_m23.symm) rfl dX0_threadOn_23
  refine gx_if_eq (tgt := 17) X dX0_threadOn_1 (by decide) (by omega) (fun hc1 => ?_) (fun hc1 => ?_)
  · refine gx_aload_n X dX0_threadOn_17 rfl 0 rfl ?_
    refine gC_r3 X dX0_threadOn_18 ?_
    refine gx_iload_n X dX0_threadOn_21 rfl 1 rfl ?_
    refine gC_l3 (v := (S.2 3 p)) X (by omega) rfl dX0_threadOn_22 ?_
    have hr22 := InvC_a3 hI p
    refine gx_sub [0, 1, 2] rfl ?_
    exact J23 (S.2 3 p) ((if_pos hc1).symm) 
  · refine gx_aload_n X dX0_threadOn_4 rfl 0 rfl ?_
    refine gC_r3 X dX0_threadOn_5 ?_
    refine gx_iload_n X dX0_threadOn_8 rfl 1 rfl ?_
    refine gC_l3 (v := (S.2 3 p)) X (by omega) rfl dX0_threadOn_9 ?_
    have hr9 := InvC_a3 hI p
    refine gx_iconst (z := 2) X dX0_threadOn_10 rfl ?_
    refine gx_iadd X dX0_threadOn_11 ?_
    refine gx_iconst (z := 4) X dX0_threadOn_12 rfl ?_
    refine gx_irem X dX0_threadOn_13 (by omega) ?_
    refine gx_goto (tgt := 23) X dX0_threadOn_14 (by decide) ?_
    refine gx_sub [0, 1, 2] rfl ?_
    exact J23 (((S.2 3 p) + 2) % 4) ((if_neg hc1).symm) 
def C_colourOn (S : Sta) (p : Int) (b : Int) : Int := (S.2 1 (C_threadOn S p b))
theorem C_colourOn_rg {N : Int} (S : Sta) (p b : Int) (hI : InvC N S) (_ : 0 ≤ p ∧ p < 60) (_ : ok32 b) : 0 ≤ C_colourOn S p b ∧ C_colourOn S p b ≤ 7 := InvC_a1 hI _
set_option maxRecDepth 100000 in
theorem c_C_colourOn {l : Launch} {K : KK} {N : Int} (q : Nat → Nat) (S : Sta) (p : Int) (b : Int) (hI : InvC N S) (hp1 : 0 ≤ p ∧ p < 60) (hp2 : ok32 b) : CtI l yX0_colourOn cX0_colourOn 3 .int (1, 22) K [.ref (q 0), .int (iI p), .int (iI b)] (wC K q S) (C_colourOn S p b) (wC K q S) := by
  refine ctI_of (by decide) (Nat.le_of_ble_eq_true rfl) rfl ?_
  intro x X hD hR
  have hD : ∀ S9 : Sta, va_D (cx_A x) (wC K q S9) := fun S9 => va_D_same hD rfl
  have hs0 := InvC_s0 hI
  have hs1 := InvC_s1 hI
  have hs3 := InvC_s3 hI
  have hs4 := InvC_s4 hI
  have hs6 := InvC_s6 hI
  refine gx_aload_n X dX0_colourOn_0 rfl 0 rfl ?_
  refine gC_r1 X dX0_colourOn_1 ?_
  refine gx_aload_n X dX0_colourOn_4 rfl 0 rfl ?_
  refine gx_iload_n X dX0_colourOn_5 rfl 1 rfl ?_
  refine gx_iload_n X dX0_colourOn_6 rfl 2 rfl ?_
  refine gx_callVI (As := [.int (iI p), .int (iI b)]) (rest := [.ref (q 2)]) X (hD _) lk_C_94 (ci := 0) rfl rfl 0 rfl (c_C_threadOn q S p b hI (by omega) (by omega)) jn_all rfl ⟨by decide, by decide⟩ (Nat.le_of_ble_eq_true rfl) dX0_colourOn_7 ?_
  have hp7_0 := C_threadOn_rg S p b hI (by omega) (by omega)
  refine gC_l1 (v := (S.2 1 (C_threadOn S p b))) X (by omega) rfl dX0_colourOn_10 ?_
  have hr10 := InvC_a1 hI (C_threadOn S p b)
  exact gx_iret hR (rfl) rfl dX0_colourOn_11
def C_idleBehind_l2 (S : Sta) (p : Int) : Nat → Int → Int
  | 0, v2 => v2
  | fu + 1, v2 => if p ≤ v2 then v2 else if (S.2 2 ((p - 1) - v2)) = 2 then C_idleBehind_l2 S p fu (v2 + 1) else v2
theorem C_idleBehind_l2_s (S : Sta) (p : Int) (fu : Nat) (v2 : Int) : C_idleBehind_l2 S p (fu + 1) v2 = (if p ≤ v2 then v2 else if (S.2 2 ((p - 1) - v2)) = 2 then C_idleBehind_l2 S p fu (v2 + 1) else v2) := rfl
def C_idleBehind (S : Sta) (p : Int) : Int := (C_idleBehind_l2 S p (61) 0)
theorem C_idleBehind_l2_rg (S : Sta) (p : Int) : ∀ (n : Nat) (v : Int), 0 ≤ v → v ≤ p → 0 ≤ C_idleBehind_l2 S p n v ∧ C_idleBehind_l2 S p n v ≤ p := by
  intro n
  induction n with
  | zero => intro v h0 h1; exact ⟨h0, h1⟩
  | succ n ih =>
    intro v h0 h1
    rw [C_idleBehind_l2_s]
    split
    · exact ⟨h0, h1⟩
    · split
      · exact ih _ (by omega) (by omega)
      · exact ⟨h0, h1⟩
theorem C_idleBehind_rg {N : Int} (S : Sta) (p : Int) (_ : InvC N S) (hp : 0 ≤ p ∧ p ≤ 60) : 0 ≤ C_idleBehind S p ∧ C_idleBehind S p ≤ p := C_idleBehind_l2_rg S p 61 0 (by omega) hp.1
set_option maxRecDepth 100000 in
theorem c_C_idleBehind {l : Launch} {K : KK} {N : Int} (q : Nat → Nat) (S : Sta) (p : Int) (hI : InvC N S) (hp1 : 0 ≤ p ∧ p ≤ 60) : CtI l yX0_idleBehind cX0_idleBehind 3 .int (0, 0) K [.ref (q 0), .int (iI p)] (wC K q S) (C_idleBehind S p) (wC K q S) := by
  refine ctI_of (by decide) (Nat.le_of_ble_eq_true rfl) rfl ?_
  intro x X hD hR
  have hD : ∀ S9 : Sta, va_D (cx_A x) (wC K q S9) := fun S9 => va_D_same hD rfl
  have hs0 := InvC_s0 hI
  have hs1 := InvC_s1 hI
  have hs3 := InvC_s3 hI
  have hs4 := InvC_s4 hI
  have hs6 := InvC_s6 hI
  refine gx_iconst (z := 0) X dX0_idleBehind_0 rfl ?_
  refine gx_istore_n X dX0_idleBehind_1 rfl (by decide) rfl ?_
  have L2 : ∀ (fu : Nat) (v2 : Int), (0 ≤ v2) → (v2 ≤ p) → (p - v2) < (fu : Int) → (∀ z2 : Int, C_idleBehind_l2 S p fu v2 = z2 → True → GG l (rmK (0, 0)) K x (wC K q S) 27 [(0, .ref (q 0)), (1, .int (iI p)), (2, .int (iI z2))] []) → GG l (rmK (0, 0)) K x (wC K q S) 2 [(0, .ref (q 0)), (1, .int (iI p)), (2, .int (iI v2))] [] := by
    intro fu
    induction fu with
    | zero => intro v2 hi2_0 hi2_1 hm2 K2; exact absurd hm2 (by omega)
    | succ fu ih =>
      intro v2 hi2_0 hi2_1 hm2 K2
      refine gx_iload_n X dX0_idleBehind_2 rfl 2 rfl ?_
      refine gx_iload_n X dX0_idleBehind_3 rfl 1 rfl ?_
      refine gx_icmp_ge (tgt := 27) X dX0_idleBehind_4 (by decide) (by omega) (fun hc4 => ?_) (fun hc4 => ?_)
      · refine gx_sub [0, 1, 2] rfl ?_
        exact K2 v2 ((C_idleBehind_l2_s S p fu v2).trans (if_pos hc4)) trivial
      · refine gx_aload_n X dX0_idleBehind_7 rfl 0 rfl ?_
        refine gC_r2 X dX0_idleBehind_8 ?_
        refine gx_iload_n X dX0_idleBehind_11 rfl 1 rfl ?_
        refine gx_iconst (z := 1) X dX0_idleBehind_12 rfl ?_
        refine gx_isub X dX0_idleBehind_13 ?_
        refine gx_iload_n X dX0_idleBehind_14 rfl 2 rfl ?_
        refine gx_isub X dX0_idleBehind_15 ?_
        refine gC_l2 (v := (S.2 2 ((p - 1) - v2))) X (by omega) rfl dX0_idleBehind_16 ?_
        have hr16 := InvC_a2 hI ((p - 1) - v2)
        refine gx_iconst (z := 2) X dX0_idleBehind_17 rfl ?_
        refine gx_icmp_ne (tgt := 27) X dX0_idleBehind_18 (by decide) (by omega) (fun hc18 => ?_) (fun hc18 => ?_)
        · refine gx_sub [0, 1, 2] rfl ?_
          exact K2 v2 ((C_idleBehind_l2_s S p fu v2).trans ((if_neg hc4).trans (if_neg hc18))) trivial
        · refine gx_iinc X dX0_idleBehind_21 2 rfl (by decide) rfl ?_
          refine gx_goto (tgt := 2) X dX0_idleBehind_24 (by decide) ?_
          refine gx_sub [1, 2, 0] rfl ?_
          exact ih (v2 + 1) (by omega) (by omega) (by omega) (fun z e hx => K2 z ((C_idleBehind_l2_s S p fu v2).trans (((if_neg hc4).trans (if_pos hc18)).trans e)) hx)
  refine gx_sub [1, 2, 0] rfl ?_
  refine L2 (61) 0 (by omega) (by omega) (by omega) (fun z2 e2 hx2 => ?_)
  refine gx_iload_n X dX0_idleBehind_27 rfl 2 rfl ?_
  exact gx_iret hR (e2) rfl dX0_idleBehind_28
def C_longestFloat_l7 (S : Sta) (p : Int) : Nat → Int → Int → Int → Int
  | 0, v2, v3, v4 => v2
  | fu + 1, v2, v3, v4 => if p ≤ v4 then v2 else (fun (m31 : Int) => C_longestFloat_l7 S p fu (J_max v2 m31) m31 (v4 + 1)) (if (S.2 2 v4) = 2 then (v3 + 1) else 0)
theorem C_longestFloat_l7_s (S : Sta) (p : Int) (fu : Nat) (v2 : Int) (v3 : Int) (v4 : Int) : C_longestFloat_l7 S p (fu + 1) v2 v3 v4 = (if p ≤ v4 then v2 else (fun (m31 : Int) => C_longestFloat_l7 S p fu (J_max v2 m31) m31 (v4 + 1)) (if (S.2 2 v4) = 2 then (v3 + 1) else 0)) := rfl
def C_longestFloat (S : Sta) (p : Int) : Int := (C_longestFloat_l7 S p (61) 0 0 0)
set_option maxRecDepth 100000 in
theorem c_C_longestFloat {l : Launch} {K : KK} {N : Int} (q : Nat → Nat) (S : Sta) (p : Int) (hI : InvC N S) (hp1 : 0 ≤ p ∧ p ≤ 60) : CtI l yX0_longestFloat cX0_longestFloat 5 .int (1, 21) K [.ref (q 0), .int (iI p)] (wC K q S) (C_longestFloat S p) (wC K q S) := by
  refine ctI_of (by decide) (Nat.le_of_ble_eq_true rfl) rfl ?_
  intro x X hD hR
  have hD : ∀ S9 : Sta, va_D (cx_A x) (wC K q S9) := fun S9 => va_D_same hD rfl
  have hs0 := InvC_s0 hI
  have hs1 := InvC_s1 hI
  have hs3 := InvC_s3 hI
  have hs4 := InvC_s4 hI
  have hs6 := InvC_s6 hI
  refine gx_iconst (z := 0) X dX0_longestFloat_0 rfl ?_
  refine gx_istore_n X dX0_longestFloat_1 rfl (by decide) rfl ?_
  refine gx_iconst (z := 0) X dX0_longestFloat_2 rfl ?_
  refine gx_istore_n X dX0_longestFloat_3 rfl (by decide) rfl ?_
  refine gx_iconst (z := 0) X dX0_longestFloat_4 rfl ?_
  refine gx_istore X dX0_longestFloat_5 (by decide) rfl ?_
  have L7 : ∀ (fu : Nat) (v2 : Int) (v3 : Int) (v4 : Int), (0 ≤ v4) → (v4 ≤ p) → (0 ≤ v3 ∧ v3 ≤ v4) → (0 ≤ v2 ∧ v2 ≤ v4) → (p - v4) < (fu : Int) → (∀ z7 : Int, C_longestFloat_l7 S p fu v2 v3 v4 = z7 → True → GG l (rmK (1, 21)) K x (wC K q S) 44 [(0, .ref (q 0)), (1, .int (iI p)), (2, .int (iI z7))] []) → GG l (rmK (1, 21)) K x (wC K q S) 7 [(0, .ref (q 0)), (1, .int (iI p)), (2, .int (iI v2)), (3, .int (iI v3)), (4, .int (iI v4))] [] := by
    intro fu
    induction fu with
    | zero => intro v2 v3 v4 hi7_0 hi7_1 hi7_2 hi7_3 hm7 K7; exact absurd hm7 (by omega)
    | succ fu ih =>
      intro v2 v3 v4 hi7_0 hi7_1 hi7_2 hi7_3 hm7 K7
      refine gx_iload X dX0_longestFloat_7 4 rfl ?_
      refine gx_iload_n X dX0_longestFloat_9 rfl 1 rfl ?_
      refine gx_icmp_ge (tgt := 44) X dX0_longestFloat_10 (by decide) (by omega) (fun hc10 => ?_) (fun hc10 => ?_)
      · refine gx_sub [0, 1, 2] rfl ?_
        exact K7 v2 ((C_longestFloat_l7_s S p fu v2 v3 v4).trans (if_pos hc10)) trivial
      · refine gx_aload_n X dX0_longestFloat_13 rfl 0 rfl ?_
        refine gC_r2 X dX0_longestFloat_14 ?_
        refine gx_iload X dX0_longestFloat_17 4 rfl ?_
        refine gC_l2 (v := (S.2 2 v4)) X (by omega) rfl dX0_longestFloat_19 ?_
        have hr19 := InvC_a2 hI v4
        refine gx_iconst (z := 2) X dX0_longestFloat_20 rfl ?_
        have J31 : ∀ (m31 : Int), m31 = (if (S.2 2 v4) = 2 then (v3 + 1) else 0) → GG l (rmK (1, 21)) K x (wC K q S) 31 [(0, .ref (q 0)), (1, .int (iI p)), (2, .int (iI v2)), (3, .int (iI v3)), (4, .int (iI v4))] [.int (iI m31)] := by
          intro m31 e_m31
          refine gx_istore_n X dX0_longestFloat_31 rfl (by decide) rfl ?_
          refine gx_iload_n X dX0_longestFloat_32 rfl 3 rfl ?_
          refine gx_iload_n X dX0_longestFloat_33 rfl 0 rfl ?_
          refine gx_callSI (As := [.int (iI v2), .int (iI m31)]) (rest := []) X (hD _) lk_C_98 (c_J_max v2 m31 (by omega) (by omega)) jn_nil rfl ⟨by decide, by decide⟩ (Nat.le_of_ble_eq_true rfl) dX0_longestFloat_34 ?_
          have hq34_0 := J_max_sp v2 m31
          refine gx_istore_n X dX0_longestFloat_37 rfl (by decide) rfl ?_
          refine gx_iinc X dX0_longestFloat_38 4 rfl (by decide) rfl ?_
          refine gx_goto (tgt := 7) X dX0_longestFloat_41 (by decide) ?_
          refine gx_sub [3, 4, 1, 2, 0] rfl ?_
          subst e_m31
          exact ih _ _ _ (by omega) (by omega) (by omega) (by omega) (by omega) (fun z e hx => K7 z ((C_longestFloat_l7_s S p fu v2 v3 v4).trans ((if_neg hc10).trans e)) hx)
        refine gx_icmp_ne (tgt := 30) X dX0_longestFloat_21 (by decide) (by omega) (fun hc21 => ?_) (fun hc21 => ?_)
        · refine gx_iconst (z := 0) X dX0_longestFloat_30 rfl ?_
          refine gx_sub [0, 1, 2, 3, 4] rfl ?_
          exact J31 0 ((if_neg hc21).symm) 
        · refine gx_iload_n X dX0_longestFloat_24 rfl 3 rfl ?_
          refine gx_iconst (z := 1) X dX0_longestFloat_25 rfl ?_
          refine gx_iadd X dX0_longestFloat_26 ?_
          refine gx_goto (tgt := 31) X dX0_longestFloat_27 (by decide) ?_
          refine gx_sub [0, 1, 2, 3, 4] rfl ?_
          exact J31 (v3 + 1) ((if_pos hc21).symm) 
  refine gx_sub [3, 4, 2, 1, 0] rfl ?_
  refine L7 (61) 0 0 0 (by omega) (by omega) (by omega) (by omega) (by omega) (fun z7 e7 hx7 => ?_)
  refine gx_iload_n X dX0_longestFloat_44 rfl 2 rfl ?_
  exact gx_iret hR (e7) rfl dX0_longestFloat_45
def C_fits (S : Sta) (r : Int) (t : Int) : Int := if (S.2 6 r) = (-99) then 1 else if (S.2 6 r) = (S.2 1 t) then 1 else 0
theorem C_fits_01 (S : Sta) (r : Int) (t : Int) : C_fits S r t = 0 ∨ C_fits S r t = 1 := by
  unfold C_fits
  repeat (first | (exact Or.inl rfl) | (exact Or.inr rfl) | split)
set_option maxRecDepth 100000 in
theorem c_C_fits {l : Launch} {K : KK} {N : Int} (q : Nat → Nat) (S : Sta) (r : Int) (t : Int) (hI : InvC N S) (hp1 : 0 ≤ r ∧ r < 30) (hp2 : 0 ≤ t ∧ t ≤ 3) : CtI l yX0_fits cX0_fits 3 .boolean (0, 0) K [.ref (q 0), .int (iI r), .int (iI t)] (wC K q S) (C_fits S r t) (wC K q S) := by
  refine ctI_of (by decide) (Nat.le_of_ble_eq_true rfl) (narrow_bool (C_fits_01 S r t)) ?_
  intro x X hD hR
  have hD : ∀ S9 : Sta, va_D (cx_A x) (wC K q S9) := fun S9 => va_D_same hD rfl
  have hs0 := InvC_s0 hI
  have hs1 := InvC_s1 hI
  have hs3 := InvC_s3 hI
  have hs4 := InvC_s4 hI
  have hs6 := InvC_s6 hI
  refine gx_aload_n X dX0_fits_0 rfl 0 rfl ?_
  refine gC_r6 X dX0_fits_1 ?_
  refine gx_iload_n X dX0_fits_4 rfl 1 rfl ?_
  refine gC_l6 (v := (S.2 6 r)) X (by omega) rfl dX0_fits_5 ?_
  have hr5 := InvC_a6 hI r
  refine gx_bipush (z := (-99)) X dX0_fits_6 (by decide) ?_
  have J31 : ∀ (m31 : Int), m31 = (if (S.2 6 r) = (-99) then 1 else if (S.2 6 r) = (S.2 1 t) then 1 else 0) → GG l (rmK (0, 0)) K x (wC K q S) 31 [(0, .ref (q 0)), (1, .int (iI r)), (2, .int (iI t))] [.int (iI m31)] := by
    intro m31 e_m31
    exact gx_iret hR (e_m31.symm) rfl dX0_fits_31
  refine gx_icmp_eq (tgt := 26) X dX0_fits_8 (by decide) (by omega) (fun hc8 => ?_) (fun hc8 => ?_)
  · refine gx_iconst (z := 1) X dX0_fits_26 rfl ?_
    refine gx_goto (tgt := 31) X dX0_fits_27 (by decide) ?_
    refine gx_sub [0, 1, 2] rfl ?_
    exact J31 1 ((if_pos hc8).symm) 
  · refine gx_aload_n X dX0_fits_11 rfl 0 rfl ?_
    refine gC_r6 X dX0_fits_12 ?_
    refine gx_iload_n X dX0_fits_15 rfl 1 rfl ?_
    refine gC_l6 (v := (S.2 6 r)) X (by omega) rfl dX0_fits_16 ?_
    refine gx_aload_n X dX0_fits_17 rfl 0 rfl ?_
    refine gC_r1 X dX0_fits_18 ?_
    refine gx_iload_n X dX0_fits_21 rfl 2 rfl ?_
    refine gC_l1 (v := (S.2 1 t)) X (by omega) rfl dX0_fits_22 ?_
    have hr22 := InvC_a1 hI t
    refine gx_icmp_ne (tgt := 30) X dX0_fits_23 (by decide) (by omega) (fun hc23 => ?_) (fun hc23 => ?_)
    · refine gx_iconst (z := 0) X dX0_fits_30 rfl ?_
      refine gx_sub [0, 1, 2] rfl ?_
      exact J31 0 (((if_neg hc8).trans (if_neg hc23)).symm) 
    · refine gx_iconst (z := 1) X dX0_fits_26 rfl ?_
      refine gx_goto (tgt := 31) X dX0_fits_27 (by decide) ?_
      refine gx_sub [0, 1, 2] rfl ?_
      exact J31 1 (((if_neg hc8).trans (if_pos hc23)).symm) 
def C_threadAfter (S : Sta) (t : Int) (p : Int) : Int := (S.2 0 (J_floorMod (p - t) 4))
theorem C_threadAfter_rg {N : Int} (S : Sta) (t p : Int) (hI : InvC N S) (_ : -100 ≤ t ∧ t ≤ 100) (_ : 0 ≤ p ∧ p ≤ 3) : 0 ≤ C_threadAfter S t p ∧ C_threadAfter S t p ≤ 3 := InvC_a0 hI _
set_option maxRecDepth 100000 in
theorem c_C_threadAfter {l : Launch} {K : KK} {N : Int} (q : Nat → Nat) (S : Sta) (t : Int) (p : Int) (hI : InvC N S) (hp1 : -100 ≤ t ∧ t ≤ 100) (hp2 : 0 ≤ p ∧ p ≤ 3) : CtI l yX0_threadAfter cX0_threadAfter 3 .int (1, 22) K [.ref (q 0), .int (iI t), .int (iI p)] (wC K q S) (C_threadAfter S t p) (wC K q S) := by
  refine ctI_of (by decide) (Nat.le_of_ble_eq_true rfl) rfl ?_
  intro x X hD hR
  have hD : ∀ S9 : Sta, va_D (cx_A x) (wC K q S9) := fun S9 => va_D_same hD rfl
  have hs0 := InvC_s0 hI
  have hs1 := InvC_s1 hI
  have hs3 := InvC_s3 hI
  have hs4 := InvC_s4 hI
  have hs6 := InvC_s6 hI
  refine gx_aload_n X dX0_threadAfter_0 rfl 0 rfl ?_
  refine gC_r0 X dX0_threadAfter_1 ?_
  refine gx_iload_n X dX0_threadAfter_4 rfl 2 rfl ?_
  refine gx_iload_n X dX0_threadAfter_5 rfl 1 rfl ?_
  refine gx_isub X dX0_threadAfter_6 ?_
  refine gx_iconst (z := 4) X dX0_threadAfter_7 rfl ?_
  refine gx_callSI (As := [.int (iI (p - t)), .int (iI 4)]) (rest := [.ref (q 1)]) X (hD _) lk_C_103 (c_J_floorMod (p - t) 4 (by omega) (by omega)) jn_nil rfl ⟨by decide, by decide⟩ (Nat.le_of_ble_eq_true rfl) dX0_threadAfter_8 ?_
  have hp8_0 := J_floorMod_sp (p - t) 4 (by omega) (by omega)
  refine gC_l0 (v := (S.2 0 (J_floorMod (p - t) 4))) X (by omega) rfl dX0_threadAfter_11 ?_
  have hr11 := InvC_a0 hI (J_floorMod (p - t) 4)
  exact gx_iret hR (rfl) rfl dX0_threadAfter_12
def C_wantedOf_l2 (S : Sta) (t : Int) (n : Int) : Nat → Int → (Int) ⊕ (Unit)
  | 0, v3 => .inr ()
  | fu + 1, v3 => if n ≤ v3 then .inr () else if (S.2 3 v3) = t then if (S.2 6 v3) = (-99) then C_wantedOf_l2 S t n fu (v3 + 1) else .inl (S.2 6 v3) else C_wantedOf_l2 S t n fu (v3 + 1)
theorem C_wantedOf_l2_s (S : Sta) (t : Int) (n : Int) (fu : Nat) (v3 : Int) : C_wantedOf_l2 S t n (fu + 1) v3 = (if n ≤ v3 then .inr () else if (S.2 3 v3) = t then if (S.2 6 v3) = (-99) then C_wantedOf_l2 S t n fu (v3 + 1) else .inl (S.2 6 v3) else C_wantedOf_l2 S t n fu (v3 + 1)) := rfl
def C_wantedOf_r2  : Int := (-99)
def C_wantedOf (S : Sta) (t : Int) (n : Int) : Int := Sum.elim id (fun z2 => C_wantedOf_r2 ) (C_wantedOf_l2 S t n (31) 0)
theorem C_wantedOf_l2_rg {N : Int} (S : Sta) (t m : Int) (hI : InvC N S) : ∀ (n : Nat) (v : Int), (∃ z, C_wantedOf_l2 S t m n v = .inl z ∧ -99 ≤ z ∧ z ≤ 7) ∨ C_wantedOf_l2 S t m n v = .inr () := by
  intro n
  induction n with
  | zero => intro v; exact Or.inr rfl
  | succ n ih =>
    intro v
    rw [C_wantedOf_l2_s]
    split
    · exact Or.inr rfl
    · split
      · split
        · exact ih _
        · exact Or.inl ⟨_, rfl, InvC_a6 hI _⟩
      · exact ih _
theorem C_wantedOf_rg {N : Int} (S : Sta) (t n : Int) (hI : InvC N S) (_ : ok32 t) (_ : 0 ≤ n ∧ n ≤ 30) : -99 ≤ C_wantedOf S t n ∧ C_wantedOf S t n ≤ 7 := by
  rcases C_wantedOf_l2_rg S t n hI 31 0 with ⟨z, h, h1, h2⟩ | h
  · have e : C_wantedOf S t n = z := congrArg (Sum.elim id _) h
    omega
  · have e : C_wantedOf S t n = -99 := congrArg (Sum.elim id _) h
    omega
set_option maxRecDepth 100000 in
theorem c_C_wantedOf {l : Launch} {K : KK} {N : Int} (q : Nat → Nat) (S : Sta) (t : Int) (n : Int) (hI : InvC N S) (hp1 : ok32 t) (hp2 : 0 ≤ n ∧ n ≤ 30) : CtI l yX0_wantedOf cX0_wantedOf 4 .int (0, 0) K [.ref (q 0), .int (iI t), .int (iI n)] (wC K q S) (C_wantedOf S t n) (wC K q S) := by
  refine ctI_of (by decide) (Nat.le_of_ble_eq_true rfl) rfl ?_
  intro x X hD hR
  have hD : ∀ S9 : Sta, va_D (cx_A x) (wC K q S9) := fun S9 => va_D_same hD rfl
  have hs0 := InvC_s0 hI
  have hs1 := InvC_s1 hI
  have hs3 := InvC_s3 hI
  have hs4 := InvC_s4 hI
  have hs6 := InvC_s6 hI
  refine gx_iconst (z := 0) X dX0_wantedOf_0 rfl ?_
  refine gx_istore_n X dX0_wantedOf_1 rfl (by decide) rfl ?_
  have L2 : ∀ (fu : Nat) (v3 : Int), (0 ≤ v3) → (v3 ≤ n) → (n - v3) < (fu : Int) → (∀ z2 : Unit, C_wantedOf_l2 S t n fu v3 = .inr z2 → True → GG l (rmK (0, 0)) K x (wC K q S) 41 [(0, .ref (q 0)), (1, .int (iI t)), (2, .int (iI n))] []) → (∀ zz : Int, C_wantedOf_l2 S t n fu v3 = .inl zz → C_wantedOf S t n = zz) → GG l (rmK (0, 0)) K x (wC K q S) 2 [(0, .ref (q 0)), (1, .int (iI t)), (2, .int (iI n)), (3, .int (iI v3))] [] := by
    intro fu
    induction fu with
    | zero => intro v3 hi2_0 hi2_1 hm2 K2 KR2; exact absurd hm2 (by omega)
    | succ fu ih =>
      intro v3 hi2_0 hi2_1 hm2 K2 KR2
      refine gx_iload_n X dX0_wantedOf_2 rfl 3 rfl ?_
      refine gx_iload_n X dX0_wantedOf_3 rfl 2 rfl ?_
      refine gx_icmp_ge (tgt := 41) X dX0_wantedOf_4 (by decide) (by omega) (fun hc4 => ?_) (fun hc4 => ?_)
      · refine gx_sub [0, 1, 2] rfl ?_
        exact K2 () ((C_wantedOf_l2_s S t n fu v3).trans (if_pos hc4)) trivial
      · refine gx_aload_n X dX0_wantedOf_7 rfl 0 rfl ?_
        refine gC_r3 X dX0_wantedOf_8 ?_
        refine gx_iload_n X dX0_wantedOf_11 rfl 3 rfl ?_
        refine gC_l3 (v := (S.2 3 v3)) X (by omega) rfl dX0_wantedOf_12 ?_
        have hr12 := InvC_a3 hI v3
        refine gx_iload_n X dX0_wantedOf_13 rfl 1 rfl ?_
        refine gx_icmp_ne (tgt := 35) X dX0_wantedOf_14 (by decide) (by omega) (fun hc14 => ?_) (fun hc14 => ?_)
        · refine gx_iinc X dX0_wantedOf_35 3 rfl (by decide) rfl ?_
          refine gx_goto (tgt := 2) X dX0_wantedOf_38 (by decide) ?_
          refine gx_sub [1, 2, 3, 0] rfl ?_
          exact ih (v3 + 1) (by omega) (by omega) (by omega) (fun z e hx => K2 z ((C_wantedOf_l2_s S t n fu v3).trans (((if_neg hc4).trans (if_neg hc14)).trans e)) hx) (fun z e => KR2 z ((C_wantedOf_l2_s S t n fu v3).trans (((if_neg hc4).trans (if_neg hc14)).trans e)))
        · refine gx_aload_n X dX0_wantedOf_17 rfl 0 rfl ?_
          refine gC_r6 X dX0_wantedOf_18 ?_
          refine gx_iload_n X dX0_wantedOf_21 rfl 3 rfl ?_
          refine gC_l6 (v := (S.2 6 v3)) X (by omega) rfl dX0_wantedOf_22 ?_
          have hr22 := InvC_a6 hI v3
          refine gx_bipush (z := (-99)) X dX0_wantedOf_23 (by decide) ?_
          refine gx_icmp_eq (tgt := 35) X dX0_wantedOf_25 (by decide) (by omega) (fun hc25 => ?_) (fun hc25 => ?_)
          · refine gx_iinc X dX0_wantedOf_35 3 rfl (by decide) rfl ?_
            refine gx_goto (tgt := 2) X dX0_wantedOf_38 (by decide) ?_
            refine gx_sub [1, 2, 3, 0] rfl ?_
            exact ih (v3 + 1) (by omega) (by omega) (by omega) (fun z e hx => K2 z ((C_wantedOf_l2_s S t n fu v3).trans (((if_neg hc4).trans ((if_pos hc14).trans (if_pos hc25))).trans e)) hx) (fun z e => KR2 z ((C_wantedOf_l2_s S t n fu v3).trans (((if_neg hc4).trans ((if_pos hc14).trans (if_pos hc25))).trans e)))
          · refine gx_aload_n X dX0_wantedOf_28 rfl 0 rfl ?_
            refine gC_r6 X dX0_wantedOf_29 ?_
            refine gx_iload_n X dX0_wantedOf_32 rfl 3 rfl ?_
            refine gC_l6 (v := (S.2 6 v3)) X (by omega) rfl dX0_wantedOf_33 ?_
            exact gx_iret hR (KR2 (S.2 6 v3) ((C_wantedOf_l2_s S t n fu v3).trans ((if_neg hc4).trans ((if_pos hc14).trans (if_neg hc25))))) rfl dX0_wantedOf_34
  refine gx_sub [1, 2, 3, 0] rfl ?_
  refine L2 (31) 0 (by omega) (by omega) (by omega) (fun z2 e2 hx2 => ?_) (fun z e => congrArg (Sum.elim id (fun z2 => C_wantedOf_r2 )) e)
  refine gx_bipush (z := (-99)) X dX0_wantedOf_41 (by decide) ?_
  exact gx_iret hR (congrArg (Sum.elim id (fun z2 => C_wantedOf_r2 )) e2) rfl dX0_wantedOf_43
def C_quarrelRow_l2 (S : Sta) (n : Int) : Nat → Int → (Int) ⊕ (Unit)
  | 0, v2 => .inr ()
  | fu + 1, v2 => if n ≤ v2 then .inr () else if (S.2 6 v2) = (-99) then C_quarrelRow_l2 S n fu (v2 + 1) else if (C_wantedOf S (S.2 3 v2) v2) = (-99) then C_quarrelRow_l2 S n fu (v2 + 1) else if (C_wantedOf S (S.2 3 v2) v2) = (S.2 6 v2) then C_quarrelRow_l2 S n fu (v2 + 1) else .inl v2
theorem C_quarrelRow_l2_s (S : Sta) (n : Int) (fu : Nat) (v2 : Int) : C_quarrelRow_l2 S n (fu + 1) v2 = (if n ≤ v2 then .inr () else if (S.2 6 v2) = (-99) then C_quarrelRow_l2 S n fu (v2 + 1) else if (C_wantedOf S (S.2 3 v2) v2) = (-99) then C_quarrelRow_l2 S n fu (v2 + 1) else if (C_wantedOf S (S.2 3 v2) v2) = (S.2 6 v2) then C_quarrelRow_l2 S n fu (v2 + 1) else .inl v2) := rfl
def C_quarrelRow_r2  : Int := (-99)
def C_quarrelRow (S : Sta) (n : Int) : Int := Sum.elim id (fun z2 => C_quarrelRow_r2 ) (C_quarrelRow_l2 S n (31) 0)
theorem C_quarrelRow_l2_rg (S : Sta) (m : Int) : ∀ (n : Nat) (v : Int), 0 ≤ v → (∃ z, C_quarrelRow_l2 S m n v = .inl z ∧ 0 ≤ z ∧ z < m) ∨ C_quarrelRow_l2 S m n v = .inr () := by
  intro n
  induction n with
  | zero => intro v _; exact Or.inr rfl
  | succ n ih =>
    intro v h0
    rw [C_quarrelRow_l2_s]
    split
    · exact Or.inr rfl
    · split
      · exact ih _ (by omega)
      · split
        · exact ih _ (by omega)
        · split
          · exact ih _ (by omega)
          · exact Or.inl ⟨v, rfl, h0, by omega⟩
theorem C_quarrelRow_rg {N : Int} (S : Sta) (n : Int) (_ : InvC N S) (hn : 0 ≤ n ∧ n ≤ 30) : -99 ≤ C_quarrelRow S n ∧ C_quarrelRow S n ≤ 30 := by
  rcases C_quarrelRow_l2_rg S n 31 0 (by omega) with ⟨z, h, h1, h2⟩ | h
  · have e : C_quarrelRow S n = z := congrArg (Sum.elim id _) h
    omega
  · have e : C_quarrelRow S n = -99 := congrArg (Sum.elim id _) h
    omega
set_option maxRecDepth 100000 in
theorem c_C_quarrelRow {l : Launch} {K : KK} {N : Int} (q : Nat → Nat) (S : Sta) (n : Int) (hI : InvC N S) (hp1 : 0 ≤ n ∧ n ≤ 30) : CtI l yX0_quarrelRow cX0_quarrelRow 4 .int (1, 23) K [.ref (q 0), .int (iI n)] (wC K q S) (C_quarrelRow S n) (wC K q S) := by
  refine ctI_of (by decide) (Nat.le_of_ble_eq_true rfl) rfl ?_
  intro x X hD hR
  have hD : ∀ S9 : Sta, va_D (cx_A x) (wC K q S9) := fun S9 => va_D_same hD rfl
  have hs0 := InvC_s0 hI
  have hs1 := InvC_s1 hI
  have hs3 := InvC_s3 hI
  have hs4 := InvC_s4 hI
  have hs6 := InvC_s6 hI
  refine gx_iconst (z := 0) X dX0_quarrelRow_0 rfl ?_
  refine gx_istore_n X dX0_quarrelRow_1 rfl (by decide) rfl ?_
  have L2 : ∀ (fu : Nat) (v2 : Int), (0 ≤ v2) → (v2 ≤ n) → (n - v2) < (fu : Int) → (∀ z2 : Unit, C_quarrelRow_l2 S n fu v2 = .inr z2 → True → GG l (rmK (1, 23)) K x (wC K q S) 54 [(0, .ref (q 0)), (1, .int (iI n))] []) → (∀ zz : Int, C_quarrelRow_l2 S n fu v2 = .inl zz → C_quarrelRow S n = zz) → GG l (rmK (1, 23)) K x (wC K q S) 2 [(0, .ref (q 0)), (1, .int (iI n)), (2, .int (iI v2))] [] := by
    intro fu
    induction fu with
    | zero => intro v2 hi2_0 hi2_1 hm2 K2 KR2; exact absurd hm2 (by omega)
    | succ fu ih =>
      intro v2 hi2_0 hi2_1 hm2 K2 KR2
      refine gx_iload_n X dX0_quarrelRow_2 rfl 2 rfl ?_
      refine gx_iload_n X dX0_quarrelRow_3 rfl 1 rfl ?_
      refine gx_icmp_ge (tgt := 54) X dX0_quarrelRow_4 (by decide) (by omega) (fun hc4 => ?_) (fun hc4 => ?_)
      · refine gx_sub [0, 1] rfl ?_
        exact K2 () ((C_quarrelRow_l2_s S n fu v2).trans (if_pos hc4)) trivial
      · refine gx_aload_n X dX0_quarrelRow_7 rfl 0 rfl ?_
        refine gx_aload_n X dX0_quarrelRow_8 rfl 0 rfl ?_
        refine gC_r3 X dX0_quarrelRow_9 ?_
        refine gx_iload_n X dX0_quarrelRow_12 rfl 2 rfl ?_
        refine gC_l3 (v := (S.2 3 v2)) X (by omega) rfl dX0_quarrelRow_13 ?_
        have hr13 := InvC_a3 hI v2
        refine gx_iload_n X dX0_quarrelRow_14 rfl 2 rfl ?_
        refine gx_callVI (As := [.int (iI (S.2 3 v2)), .int (iI v2)]) (rest := []) X (hD _) lk_C_106 (ci := 0) rfl rfl 0 rfl (c_C_wantedOf q S (S.2 3 v2) v2 hI (by omega) (by omega)) jn_all rfl ⟨by decide, by decide⟩ (Nat.le_of_ble_eq_true rfl) dX0_quarrelRow_15 ?_
        have hp15_0 := C_wantedOf_rg S (S.2 3 v2) v2 hI (by omega) (by omega)
        refine gx_istore_n X dX0_quarrelRow_18 rfl (by decide) rfl ?_
        refine gx_aload_n X dX0_quarrelRow_19 rfl 1 rfl ?_
        refine gC_r6 X dX0_quarrelRow_20 ?_
        refine gx_iload_n X dX0_quarrelRow_23 rfl 3 rfl ?_
        refine gC_l6 (v := (S.2 6 v2)) X (by omega) rfl dX0_quarrelRow_24 ?_
        have hr24 := InvC_a6 hI v2
        refine gx_bipush (z := (-99)) X dX0_quarrelRow_25 (by decide) ?_
        refine gx_icmp_eq (tgt := 48) X dX0_quarrelRow_27 (by decide) (by omega) (fun hc27 => ?_) (fun hc27 => ?_)
        · refine gx_iinc X dX0_quarrelRow_48 3 rfl (by decide) rfl ?_
          refine gx_goto (tgt := 2) X dX0_quarrelRow_51 (by decide) ?_
          refine gx_sub [2, 3, 0] rfl ?_
          exact ih (v2 + 1) (by omega) (by omega) (by omega) (fun z e hx => K2 z ((C_quarrelRow_l2_s S n fu v2).trans (((if_neg hc4).trans (if_pos hc27)).trans e)) hx) (fun z e => KR2 z ((C_quarrelRow_l2_s S n fu v2).trans (((if_neg hc4).trans (if_pos hc27)).trans e)))
        · refine gx_iload_n X dX0_quarrelRow_30 rfl 0 rfl ?_
          refine gx_bipush (z := (-99)) X dX0_quarrelRow_31 (by decide) ?_
          refine gx_icmp_eq (tgt := 48) X dX0_quarrelRow_33 (by decide) (by omega) (fun hc33 => ?_) (fun hc33 => ?_)
          · refine gx_iinc X dX0_quarrelRow_48 3 rfl (by decide) rfl ?_
            refine gx_goto (tgt := 2) X dX0_quarrelRow_51 (by decide) ?_
            refine gx_sub [2, 3, 0] rfl ?_
            exact ih (v2 + 1) (by omega) (by omega) (by omega) (fun z e hx => K2 z ((C_quarrelRow_l2_s S n fu v2).trans (((if_neg hc4).trans ((if_neg hc27).trans (if_pos hc33))).trans e)) hx) (fun z e => KR2 z ((C_quarrelRow_l2_s S n fu v2).trans (((if_neg hc4).trans ((if_neg hc27).trans (if_pos hc33))).trans e)))
          · refine gx_iload_n X dX0_quarrelRow_36 rfl 0 rfl ?_
            refine gx_aload_n X dX0_quarrelRow_37 rfl 1 rfl ?_
            refine gC_r6 X dX0_quarrelRow_38 ?_
            refine gx_iload_n X dX0_quarrelRow_41 rfl 3 rfl ?_
            refine gC_l6 (v := (S.2 6 v2)) X (by omega) rfl dX0_quarrelRow_42 ?_
            refine gx_icmp_eq (tgt := 48) X dX0_quarrelRow_43 (by decide) (by omega) (fun hc43 => ?_) (fun hc43 => ?_)
            · refine gx_iinc X dX0_quarrelRow_48 3 rfl (by decide) rfl ?_
              refine gx_goto (tgt := 2) X dX0_quarrelRow_51 (by decide) ?_
              refine gx_sub [2, 3, 0] rfl ?_
              exact ih (v2 + 1) (by omega) (by omega) (by omega) (fun z e hx => K2 z ((C_quarrelRow_l2_s S n fu v2).trans (((if_neg hc4).trans ((if_neg hc27).trans ((if_neg hc33).trans (if_pos hc43)))).trans e)) hx) (fun z e => KR2 z ((C_quarrelRow_l2_s S n fu v2).trans (((if_neg hc4).trans ((if_neg hc27).trans ((if_neg hc33).trans (if_pos hc43)))).trans e)))
            · refine gx_iload_n X dX0_quarrelRow_46 rfl 3 rfl ?_
              exact gx_iret hR (KR2 v2 ((C_quarrelRow_l2_s S n fu v2).trans ((if_neg hc4).trans ((if_neg hc27).trans ((if_neg hc33).trans (if_neg hc43)))))) rfl dX0_quarrelRow_47
  refine gx_sub [1, 2, 0] rfl ?_
  refine L2 (31) 0 (by omega) (by omega) (by omega) (fun z2 e2 hx2 => ?_) (fun z e => congrArg (Sum.elim id (fun z2 => C_quarrelRow_r2 )) e)
  refine gx_bipush (z := (-99)) X dX0_quarrelRow_54 (by decide) ?_
  exact gx_iret hR (congrArg (Sum.elim id (fun z2 => C_quarrelRow_r2 )) e2) rfl dX0_quarrelRow_56
def C_fitsWith_l9 (S : Sta) (p : Int) (t : Int) (n : Int) : Nat → Int → Int → Int → (Int) ⊕ (Unit)
  | 0, v4, v5, v6 => .inr ()
  | fu + 1, v4, v5, v6 => if n ≤ v6 then .inr () else (fun (m32 : Int) => (fun (m73a : Int) (m73b : Int) => if (C_fits S v6 m73b) = 0 then .inl 0 else C_fitsWith_l9 S p t n fu m73a m73b (v6 + 1)) (if m32 = 0 then (v4 + 1) else if m32 = 1 then (v4 + (-1)) else v4) (if m32 = 0 then (J_floorMod (-(v4 + 1)) 4) else if m32 = 1 then (J_floorMod (1 - (v4 + (-1))) 4) else v5)) (if v6 = p then t else (S.2 2 v6))
theorem C_fitsWith_l9_s (S : Sta) (p : Int) (t : Int) (n : Int) (fu : Nat) (v4 : Int) (v5 : Int) (v6 : Int) : C_fitsWith_l9 S p t n (fu + 1) v4 v5 v6 = (if n ≤ v6 then .inr () else (fun (m32 : Int) => (fun (m73a : Int) (m73b : Int) => if (C_fits S v6 m73b) = 0 then .inl 0 else C_fitsWith_l9 S p t n fu m73a m73b (v6 + 1)) (if m32 = 0 then (v4 + 1) else if m32 = 1 then (v4 + (-1)) else v4) (if m32 = 0 then (J_floorMod (-(v4 + 1)) 4) else if m32 = 1 then (J_floorMod (1 - (v4 + (-1))) 4) else v5)) (if v6 = p then t else (S.2 2 v6))) := rfl
def C_fitsWith_r9  : Int := 1
def C_fitsWith (S : Sta) (p : Int) (t : Int) (n : Int) : Int := Sum.elim id (fun z9 => C_fitsWith_r9 ) (C_fitsWith_l9 S p t n (31) 0 0 0)
theorem or_ite {α : Type} {c : Prop} [Decidable c] {a b x y : α} (h1 : c → (a = x ∨ a = y)) (h2 : ¬ c → (b = x ∨ b = y)) : ((if c then a else b) = x ∨ (if c then a else b) = y) := by
  by_cases h : c
  · rw [if_pos h]; exact h1 h
  · rw [if_neg h]; exact h2 h
theorem C_fitsWith_l9_rg (S : Sta) (p t m : Int) : ∀ (n : Nat) (v4 v5 v6 : Int), C_fitsWith_l9 S p t m n v4 v5 v6 = .inl 0 ∨ C_fitsWith_l9 S p t m n v4 v5 v6 = .inr () := by
  intro n
  induction n with
  | zero => intro v4 v5 v6; exact Or.inr rfl
  | succ n ih =>
    intro v4 v5 v6
    rw [C_fitsWith_l9_s]
    split
    · exact Or.inr rfl
    · exact or_ite (fun _ => Or.inl rfl) (fun _ => ih _ _ _)
theorem C_fitsWith_01 (S : Sta) (p t n : Int) : C_fitsWith S p t n = 0 ∨ C_fitsWith S p t n = 1 := by
  rcases C_fitsWith_l9_rg S p t n 31 0 0 0 with h | h
  · exact Or.inl (congrArg (Sum.elim id _) h)
  · exact Or.inr (congrArg (Sum.elim id _) h)
set_option maxRecDepth 100000 in
theorem c_C_fitsWith {l : Launch} {K : KK} {N : Int} (q : Nat → Nat) (S : Sta) (p : Int) (t : Int) (n : Int) (hI : InvC N S) (hp1 : ok32 p) (hp2 : 0 ≤ t ∧ t ≤ 2) (hp3 : 0 ≤ n ∧ n ≤ 30) : CtI l yX0_fitsWith cX0_fitsWith 8 .boolean (1, 22) K [.ref (q 0), .int (iI p), .int (iI t), .int (iI n)] (wC K q S) (C_fitsWith S p t n) (wC K q S) := by
  refine ctI_of (by decide) (Nat.le_of_ble_eq_true rfl) (narrow_bool (C_fitsWith_01 S p t n)) ?_
  intro x X hD hR
  have hD : ∀ S9 : Sta, va_D (cx_A x) (wC K q S9) := fun S9 => va_D_same hD rfl
  have hs0 := InvC_s0 hI
  have hs1 := InvC_s1 hI
  have hs3 := InvC_s3 hI
  have hs4 := InvC_s4 hI
  have hs6 := InvC_s6 hI
  refine gx_iconst (z := 0) X dX0_fitsWith_0 rfl ?_
  refine gx_istore X dX0_fitsWith_1 (by decide) rfl ?_
  refine gx_iconst (z := 0) X dX0_fitsWith_3 rfl ?_
  refine gx_istore X dX0_fitsWith_4 (by decide) rfl ?_
  refine gx_iconst (z := 0) X dX0_fitsWith_6 rfl ?_
  refine gx_istore X dX0_fitsWith_7 (by decide) rfl ?_
  have L9 : ∀ (fu : Nat) (v4 : Int) (v5 : Int) (v6 : Int), (0 ≤ v6) → (v6 ≤ n) → (-v6 ≤ v4 ∧ v4 ≤ v6) → (0 ≤ v5 ∧ v5 ≤ 3) → (n - v6) < (fu : Int) → (∀ z9 : Unit, C_fitsWith_l9 S p t n fu v4 v5 v6 = .inr z9 → True → GG l (rmK (1, 22)) K x (wC K q S) 92 [(0, .ref (q 0)), (1, .int (iI p)), (2, .int (iI t)), (3, .int (iI n))] []) → (∀ zz : Int, C_fitsWith_l9 S p t n fu v4 v5 v6 = .inl zz → C_fitsWith S p t n = zz) → GG l (rmK (1, 22)) K x (wC K q S) 9 [(0, .ref (q 0)), (1, .int (iI p)), (2, .int (iI t)), (3, .int (iI n)), (4, .int (iI v4)), (5, .int (iI v5)), (6, .int (iI v6))] [] := by
    intro fu
    induction fu with
    | zero => intro v4 v5 v6 hi9_0 hi9_1 hi9_2 hi9_3 hm9 K9 KR9; exact absurd hm9 (by omega)
    | succ fu ih =>
      intro v4 v5 v6 hi9_0 hi9_1 hi9_2 hi9_3 hm9 K9 KR9
      refine gx_iload X dX0_fitsWith_9 6 rfl ?_
      refine gx_iload_n X dX0_fitsWith_11 rfl 3 rfl ?_
      refine gx_icmp_ge (tgt := 92) X dX0_fitsWith_12 (by decide) (by omega) (fun hc12 => ?_) (fun hc12 => ?_)
      · refine gx_sub [0, 1, 2, 3] rfl ?_
        exact K9 () ((C_fitsWith_l9_s S p t n fu v4 v5 v6).trans (if_pos hc12)) trivial
      · refine gx_iload X dX0_fitsWith_15 6 rfl ?_
        refine gx_iload_n X dX0_fitsWith_17 rfl 1 rfl ?_
        have J32 : ∀ (m32 : Int), m32 = (if v6 = p then t else (S.2 2 v6)) → (0 ≤ m32 ∧ m32 ≤ 2) → GG l (rmK (1, 22)) K x (wC K q S) 32 [(0, .ref (q 0)), (1, .int (iI p)), (2, .int (iI t)), (3, .int (iI n)), (4, .int (iI v4)), (5, .int (iI v5)), (6, .int (iI v6))] [.int (iI m32)] := by
          intro m32 e_m32 hf32_0
          refine gx_istore X dX0_fitsWith_32 (by decide) rfl ?_
          refine gx_iload X dX0_fitsWith_34 0 rfl ?_
          have J73 : ∀ (m73a : Int) (m73b : Int), m73a = (if m32 = 0 then (v4 + 1) else if m32 = 1 then (v4 + (-1)) else v4) → m73b = (if m32 = 0 then (J_floorMod (-(v4 + 1)) 4) else if m32 = 1 then (J_floorMod (1 - (v4 + (-1))) 4) else v5) → (-(v6 + 1) ≤ m73a ∧ m73a ≤ v6 + 1) → (0 ≤ m73b ∧ m73b ≤ 3) → GG l (rmK (1, 22)) K x (wC K q S) 73 [(0, .ref (q 0)), (1, .int (iI p)), (2, .int (iI t)), (3, .int (iI n)), (4, .int (iI m73a)), (5, .int (iI m73b)), (6, .int (iI v6)), (7, .int (iI m32))] [] := by
            intro m73a m73b e_m73a e_m73b hf73_0 hf73_1
            refine gx_aload_n X dX0_fitsWith_73 rfl 0 rfl ?_
            refine gx_iload X dX0_fitsWith_74 6 rfl ?_
            refine gx_iload X dX0_fitsWith_76 5 rfl ?_
            refine gx_callVI (As := [.int (iI v6), .int (iI m73b)]) (rest := []) X (hD _) lk_C_109 (ci := 0) rfl rfl 0 rfl (c_C_fits q S v6 m73b hI (by omega) (by omega)) jn_all rfl ⟨by decide, by decide⟩ (Nat.le_of_ble_eq_true rfl) dX0_fitsWith_78 ?_
            have hq78_0 := C_fits_01 S v6 m73b
            refine gx_if_ne (tgt := 86) X dX0_fitsWith_81 (by decide) (by omega) (fun hc81 => ?_) (fun hc81 => ?_)
            · refine gx_iinc X dX0_fitsWith_86 6 rfl (by decide) rfl ?_
              refine gx_goto (tgt := 9) X dX0_fitsWith_89 (by decide) ?_
              refine gx_sub [1, 2, 3, 4, 5, 6, 0] rfl ?_
              subst e_m32
              subst e_m73a
              subst e_m73b
              exact ih _ _ _ (by omega) (by omega) (by omega) (by omega) (by omega) (fun z e hx => K9 z ((C_fitsWith_l9_s S p t n fu v4 v5 v6).trans (((if_neg hc12).trans (if_neg hc81)).trans e)) hx) (fun z e => KR9 z ((C_fitsWith_l9_s S p t n fu v4 v5 v6).trans (((if_neg hc12).trans (if_neg hc81)).trans e)))
            · refine gx_iconst (z := 0) X dX0_fitsWith_84 rfl ?_
              subst e_m32
              subst e_m73a
              subst e_m73b
              exact gx_iret hR (KR9 _ ((C_fitsWith_l9_s S p t n fu v4 v5 v6).trans ((if_neg hc12).trans (if_pos hc81)))) rfl dX0_fitsWith_85
          refine gx_if_ne (tgt := 54) X dX0_fitsWith_36 (by decide) (by omega) (fun hc36 => ?_) (fun hc36 => ?_)
          · refine gx_iload X dX0_fitsWith_54 0 rfl ?_
            refine gx_iconst (z := 1) X dX0_fitsWith_56 rfl ?_
            refine gx_icmp_ne (tgt := 73) X dX0_fitsWith_57 (by decide) (by omega) (fun hc57 => ?_) (fun hc57 => ?_)
            · refine gx_sub [1, 2, 3, 4, 5, 6, 7, 0] rfl ?_
              exact J73 v4 v5 (((if_neg hc36).trans (if_neg hc57)).symm) (((if_neg hc36).trans (if_neg hc57)).symm) (by omega) (by omega)
            · refine gx_iinc X dX0_fitsWith_60 5 rfl (by decide) rfl ?_
              refine gx_iconst (z := 1) X dX0_fitsWith_63 rfl ?_
              refine gx_iload X dX0_fitsWith_64 0 rfl ?_
              refine gx_isub X dX0_fitsWith_66 ?_
              refine gx_iconst (z := 4) X dX0_fitsWith_67 rfl ?_
              refine gx_callSI (As := [.int (iI (1 - (v4 + (-1)))), .int (iI 4)]) (rest := []) X (hD _) lk_C_103 (c_J_floorMod (1 - (v4 + (-1))) 4 (by omega) (by omega)) jn_nil rfl ⟨by decide, by decide⟩ (Nat.le_of_ble_eq_true rfl) dX0_fitsWith_68 ?_
              have hp68_0 := J_floorMod_sp (1 - (v4 + (-1))) 4 (by omega) (by omega)
              refine gx_istore X dX0_fitsWith_71 (by decide) rfl ?_
              refine gx_sub [3, 4, 5, 6, 1, 0, 7, 2] rfl ?_
              exact J73 (v4 + (-1)) (J_floorMod (1 - (v4 + (-1))) 4) (((if_neg hc36).trans (if_pos hc57)).symm) (((if_neg hc36).trans (if_pos hc57)).symm) (by omega) (by omega)
          · refine gx_iinc X dX0_fitsWith_39 5 rfl (by decide) rfl ?_
            refine gx_iload X dX0_fitsWith_42 0 rfl ?_
            refine gx_ineg X dX0_fitsWith_44 ?_
            refine gx_iconst (z := 4) X dX0_fitsWith_45 rfl ?_
            refine gx_callSI (As := [.int (iI (-(v4 + 1))), .int (iI 4)]) (rest := []) X (hD _) lk_C_103 (c_J_floorMod (-(v4 + 1)) 4 (by omega) (by omega)) jn_nil rfl ⟨by decide, by decide⟩ (Nat.le_of_ble_eq_true rfl) dX0_fitsWith_46 ?_
            have hp46_0 := J_floorMod_sp (-(v4 + 1)) 4 (by omega) (by omega)
            refine gx_istore X dX0_fitsWith_49 (by decide) rfl ?_
            refine gx_goto (tgt := 73) X dX0_fitsWith_51 (by decide) ?_
            refine gx_sub [3, 4, 5, 6, 1, 0, 7, 2] rfl ?_
            exact J73 (v4 + 1) (J_floorMod (-(v4 + 1)) 4) ((if_pos hc36).symm) ((if_pos hc36).symm) (by omega) (by omega)
        refine gx_icmp_ne (tgt := 25) X dX0_fitsWith_18 (by decide) (by omega) (fun hc18 => ?_) (fun hc18 => ?_)
        · refine gx_aload_n X dX0_fitsWith_25 rfl 0 rfl ?_
          refine gC_r2 X dX0_fitsWith_26 ?_
          refine gx_iload X dX0_fitsWith_29 6 rfl ?_
          refine gC_l2 (v := (S.2 2 v6)) X (by omega) rfl dX0_fitsWith_31 ?_
          have hr31 := InvC_a2 hI v6
          refine gx_sub [0, 1, 2, 3, 4, 5, 6] rfl ?_
          exact J32 (S.2 2 v6) ((if_neg hc18).symm) (by omega)
        · refine gx_iload_n X dX0_fitsWith_21 rfl 2 rfl ?_
          refine gx_goto (tgt := 32) X dX0_fitsWith_22 (by decide) ?_
          refine gx_sub [0, 1, 2, 3, 4, 5, 6] rfl ?_
          exact J32 t ((if_pos hc18).symm) (by omega)
  refine gx_sub [3, 4, 5, 6, 2, 1, 0] rfl ?_
  refine L9 (31) 0 0 0 (by omega) (by omega) (by omega) (by omega) (by omega) (fun z9 e9 hx9 => ?_) (fun z e => congrArg (Sum.elim id (fun z9 => C_fitsWith_r9 )) e)
  refine gx_iconst (z := 1) X dX0_fitsWith_92 rfl ?_
  exact gx_iret hR (congrArg (Sum.elim id (fun z9 => C_fitsWith_r9 )) e9) rfl dX0_fitsWith_93
def C_move (S : Sta) (t : Int) : Sta := if t = 0 then (mA (mW (mI (mI S 6 0) 2 ((S.1 2) + (C_twistOf (mI S 6 0) t))) 0 (icpy (S.2 0) 0 1 3)) 0 0 (S.2 0 3)) else if t = 1 then (mA (mW (mI (mI S 6 0) 2 ((S.1 2) + (C_twistOf (mI S 6 0) t))) 0 (icpy (S.2 0) 1 0 3)) 0 3 (S.2 0 0)) else (mI (mI S 6 0) 2 ((S.1 2) + (C_twistOf (mI S 6 0) t)))
theorem C_move_sc (S : Sta) (t : Int) (j : Nat) (hj : j ∉ [2, 6]) : (C_move S t).1 j = S.1 j := by
  simp only [List.mem_cons, List.not_mem_nil, or_false, not_or] at hj
  have e : (mI (mI S 6 0) 2 (S.1 2 + C_twistOf (mI S 6 0) t)).1 j = S.1 j := (if_neg hj.1).trans (if_neg hj.2)
  unfold C_move
  split
  · exact e
  · split <;> exact e
theorem C_move_ar (S : Sta) (t : Int) (k : Nat) (hk : k ≠ 0) : (C_move S t).2 k = S.2 k := by
  unfold C_move
  split
  · exact (if_neg hk).trans (if_neg hk)
  · split
    · exact (if_neg hk).trans (if_neg hk)
    · rfl
set_option maxRecDepth 100000 in
theorem c_C_move {l : Launch} {K : KK} (q : Nat → Nat) (S : Sta) (t : Int) (hp0 : 0 ≤ S.1 0 ∧ S.1 0 ≤ 1) (hp1 : ok32 t) : CtV l yX0_move cX0_move 3 (2, 41) K [.ref (q 0), .int (iI t)] (wC K q S) (wC K q (C_move S t)) := by
  refine ctV_of (by decide) (Nat.le_of_ble_eq_true rfl) ?_
  intro x X hD hR
  have hD : ∀ S9 : Sta, va_D (cx_A x) (wC K q S9) := fun S9 => va_D_same hD rfl
  refine gx_aload_n X dX0_move_0 rfl 0 rfl ?_
  refine gx_iconst (z := 0) X dX0_move_1 rfl ?_
  refine gC_p6 X (hD _) (by decide) dX0_move_2 ?_
  refine gx_aload_n X dX0_move_5 rfl 0 rfl ?_
  refine gx_dup X dX0_move_6 rfl ?_
  refine gC_g2 (v := (S.1 2)) X rfl dX0_move_7 ?_
  refine gx_aload_n X dX0_move_10 rfl 0 rfl ?_
  refine gx_iload_n X dX0_move_11 rfl 1 rfl ?_
  refine gx_callVI (As := [.int (iI t)]) (rest := [.int (iI (S.1 2)), .ref (q 0)]) X (hD _) lk_C_85 (ci := 0) rfl rfl 0 rfl (c_C_twistOf q (mI S 6 0) t (hp0) (by omega)) jn_all rfl ⟨by decide, by decide⟩ (Nat.le_of_ble_eq_true rfl) dX0_move_12 ?_
  refine gx_iadd X dX0_move_15 ?_
  refine gC_p2 X (hD _) dX0_move_16 ?_
  refine gx_iload_n X dX0_move_19 rfl 1 rfl ?_
  have J87 : ∀ (S87 : Sta), S87 = (if t = 0 then (mA (mW (mI (mI S 6 0) 2 ((S.1 2) + (C_twistOf (mI S 6 0) t))) 0 (icpy (S.2 0) 0 1 3)) 0 0 (S.2 0 3)) else if t = 1 then (mA (mW (mI (mI S 6 0) 2 ((S.1 2) + (C_twistOf (mI S 6 0) t))) 0 (icpy (S.2 0) 1 0 3)) 0 3 (S.2 0 0)) else (mI (mI S 6 0) 2 ((S.1 2) + (C_twistOf (mI S 6 0) t)))) → GG l (rmK (2, 41)) K x (wC K q S87) 87 [(0, .ref (q 0)), (1, .int (iI t))] [] := by
    intro S87 e_S87
    exact gx_vret hR (congrArg (fun z : Sta => (wC K q z)) ((show C_move S t = S87 from e_S87.symm))) dX0_move_87
  refine gx_if_ne (tgt := 54) X dX0_move_20 (by decide) (by omega) (fun hc20 => ?_) (fun hc20 => ?_)
  · refine gx_iload_n X dX0_move_54 rfl 1 rfl ?_
    refine gx_iconst (z := 1) X dX0_move_55 rfl ?_
    refine gx_icmp_ne (tgt := 87) X dX0_move_56 (by decide) (by omega) (fun hc56 => ?_) (fun hc56 => ?_)
    · refine gx_sub [0, 1] rfl ?_
      exact J87 (mI (mI S 6 0) 2 ((S.1 2) + (C_twistOf (mI S 6 0) t))) (((if_neg hc20).trans (if_neg hc56)).symm) 
    · refine gx_aload_n X dX0_move_59 rfl 0 rfl ?_
      refine gC_r0 X dX0_move_60 ?_
      refine gx_iconst (z := 0) X dX0_move_63 rfl ?_
      refine gC_l0 (v := (S.2 0 0)) X (by omega) rfl dX0_move_64 ?_
      refine gx_istore_n X dX0_move_65 rfl (by decide) rfl ?_
      refine gx_aload_n X dX0_move_66 rfl 1 rfl ?_
      refine gC_r0 X dX0_move_67 ?_
      refine gx_iconst (z := 1) X dX0_move_70 rfl ?_
      refine gx_aload_n X dX0_move_71 rfl 1 rfl ?_
      refine gC_r0 X dX0_move_72 ?_
      refine gx_iconst (z := 0) X dX0_move_75 rfl ?_
      refine gx_iconst (z := 3) X dX0_move_76 rfl ?_
      refine gx_copy (ws' := (wC K q (mW (mI (mI S 6 0) 2 ((S.1 2) + (C_twistOf (mI S 6 0) t))) 0 (icpy (S.2 0) 1 0 3)))) X (hD _) 1 0 3 rfl rfl rfl 1 rfl (by decide) t_cp_C_88 t_cp_nat t_cp_stat t_cp_ini ⟨by decide, by decide⟩ rfl dX0_move_77 ?_
      refine gx_aload_n X dX0_move_80 rfl 1 rfl ?_
      refine gC_r0 X dX0_move_81 ?_
      refine gx_iconst (z := 3) X dX0_move_84 rfl ?_
      refine gx_iload_n X dX0_move_85 rfl 0 rfl ?_
      refine gC_s0 X (hD _) (by omega) dX0_move_86 ?_
      refine gx_sub [1, 2] rfl ?_
      exact J87 (mA (mW (mI (mI S 6 0) 2 ((S.1 2) + (C_twistOf (mI S 6 0) t))) 0 (icpy (S.2 0) 1 0 3)) 0 3 (S.2 0 0)) (((if_neg hc20).trans (if_pos hc56)).symm) 
  · refine gx_aload_n X dX0_move_23 rfl 0 rfl ?_
    refine gC_r0 X dX0_move_24 ?_
    refine gx_iconst (z := 3) X dX0_move_27 rfl ?_
    refine gC_l0 (v := (S.2 0 3)) X (by omega) rfl dX0_move_28 ?_
    refine gx_istore_n X dX0_move_29 rfl (by decide) rfl ?_
    refine gx_aload_n X dX0_move_30 rfl 1 rfl ?_
    refine gC_r0 X dX0_move_31 ?_
    refine gx_iconst (z := 0) X dX0_move_34 rfl ?_
    refine gx_aload_n X dX0_move_35 rfl 1 rfl ?_
    refine gC_r0 X dX0_move_36 ?_
    refine gx_iconst (z := 1) X dX0_move_39 rfl ?_
    refine gx_iconst (z := 3) X dX0_move_40 rfl ?_
    refine gx_copy (ws' := (wC K q (mW (mI (mI S 6 0) 2 ((S.1 2) + (C_twistOf (mI S 6 0) t))) 0 (icpy (S.2 0) 0 1 3)))) X (hD _) 0 1 3 rfl rfl rfl 1 rfl (by decide) t_cp_C_88 t_cp_nat t_cp_stat t_cp_ini ⟨by decide, by decide⟩ rfl dX0_move_41 ?_
    refine gx_aload_n X dX0_move_44 rfl 1 rfl ?_
    refine gC_r0 X dX0_move_45 ?_
    refine gx_iconst (z := 0) X dX0_move_48 rfl ?_
    refine gx_iload_n X dX0_move_49 rfl 0 rfl ?_
    refine gC_s0 X (hD _) (by omega) dX0_move_50 ?_
    refine gx_goto (tgt := 87) X dX0_move_51 (by decide) ?_
    refine gx_sub [1, 2] rfl ?_
    exact J87 (mA (mW (mI (mI S 6 0) 2 ((S.1 2) + (C_twistOf (mI S 6 0) t))) 0 (icpy (S.2 0) 0 1 3)) 0 0 (S.2 0 3)) ((if_pos hc20).symm) 
def C_turnIn_m58 (S : Sta) (p : Int) (t : Int) (m58 : Int) : Sta := (mA (C_move (mA (mA (mA S 5 p (S.1 3)) 2 p t) 4 p (C_slantOf (mA (mA S 5 p (S.1 3)) 2 p t) p t)) t) 3 p m58)
def C_turnIn (S : Sta) (p : Int) (t : Int) : Sta := C_turnIn_m58 S p t (if t = 2 then (C_showing (C_move (mA (mA (mA S 5 p (S.1 3)) 2 p t) 4 p (C_slantOf (mA (mA S 5 p (S.1 3)) 2 p t) p t)) t) p) else ((C_move (mA (mA (mA S 5 p (S.1 3)) 2 p t) 4 p (C_slantOf (mA (mA S 5 p (S.1 3)) 2 p t) p t)) t).2 0 t))
set_option maxRecDepth 100000 in
theorem c_C_turnIn {l : Launch} {K : KK} (q : Nat → Nat) (S : Sta) (p : Int) (t : Int) (hp0 : 0 ≤ S.1 0 ∧ S.1 0 ≤ 1) (hp1 : 0 ≤ p ∧ p < 60) (hp2 : 0 ≤ t ∧ t ≤ 2) : CtV l yX0_turnIn cX0_turnIn 3 (3, 63) K [.ref (q 0), .int (iI p), .int (iI t)] (wC K q S) (wC K q (C_turnIn S p t)) := by
  refine ctV_of (by decide) (Nat.le_of_ble_eq_true rfl) ?_
  intro x X hD hR
  have hD : ∀ S9 : Sta, va_D (cx_A x) (wC K q S9) := fun S9 => va_D_same hD rfl
  refine gx_aload_n X dX0_turnIn_0 rfl 0 rfl ?_
  refine gC_r5 X dX0_turnIn_1 ?_
  refine gx_iload_n X dX0_turnIn_4 rfl 1 rfl ?_
  refine gx_aload_n X dX0_turnIn_5 rfl 0 rfl ?_
  refine gC_g3 (v := (S.1 3)) X rfl dX0_turnIn_6 ?_
  refine gC_s5 X (hD _) (by omega) dX0_turnIn_9 ?_
  refine gx_aload_n X dX0_turnIn_10 rfl 0 rfl ?_
  refine gC_r2 X dX0_turnIn_11 ?_
  refine gx_iload_n X dX0_turnIn_14 rfl 1 rfl ?_
  refine gx_iload_n X dX0_turnIn_15 rfl 2 rfl ?_
  refine gC_s2 X (hD _) (by omega) dX0_turnIn_16 ?_
  refine gx_aload_n X dX0_turnIn_17 rfl 0 rfl ?_
  refine gC_r4 X dX0_turnIn_18 ?_
  refine gx_iload_n X dX0_turnIn_21 rfl 1 rfl ?_
  refine gx_aload_n X dX0_turnIn_22 rfl 0 rfl ?_
  refine gx_iload_n X dX0_turnIn_23 rfl 1 rfl ?_
  refine gx_iload_n X dX0_turnIn_24 rfl 2 rfl ?_
  refine gx_callVI (As := [.int (iI p), .int (iI t)]) (rest := [.int (iI p), .ref (q 5)]) X (hD _) lk_C_67 (ci := 0) rfl rfl 0 rfl (c_C_slantOf q (mA (mA S 5 p (S.1 3)) 2 p t) p t (hp0) (by omega) (by omega)) jn_all rfl ⟨by decide, by decide⟩ (Nat.le_of_ble_eq_true rfl) dX0_turnIn_25 ?_
  refine gC_s4 X (hD _) (by omega) dX0_turnIn_28 ?_
  refine gx_aload_n X dX0_turnIn_29 rfl 0 rfl ?_
  refine gx_iload_n X dX0_turnIn_30 rfl 2 rfl ?_
  refine gx_callVV (As := [.int (iI t)]) (rest := []) X (hD _) lk_C_71 (ci := 0) rfl rfl 0 rfl (c_C_move q (mA (mA (mA S 5 p (S.1 3)) 2 p t) 4 p (C_slantOf (mA (mA S 5 p (S.1 3)) 2 p t) p t)) t (hp0) (by omega)) jn_all rfl ⟨by decide, by decide⟩ (Nat.le_of_ble_eq_true rfl) dX0_turnIn_31 ?_
  refine gx_aload_n X dX0_turnIn_34 rfl 0 rfl ?_
  refine gC_r3 X dX0_turnIn_35 ?_
  refine gx_iload_n X dX0_turnIn_38 rfl 1 rfl ?_
  refine gx_iload_n X dX0_turnIn_39 rfl 2 rfl ?_
  refine gx_iconst (z := 2) X dX0_turnIn_40 rfl ?_
  have J58 : ∀ (m58 : Int), m58 = (if t = 2 then (C_showing (C_move (mA (mA (mA S 5 p (S.1 3)) 2 p t) 4 p (C_slantOf (mA (mA S 5 p (S.1 3)) 2 p t) p t)) t) p) else ((C_move (mA (mA (mA S 5 p (S.1 3)) 2 p t) 4 p (C_slantOf (mA (mA S 5 p (S.1 3)) 2 p t) p t)) t).2 0 t)) → GG l (rmK (3, 63)) K x (wC K q (C_move (mA (mA (mA S 5 p (S.1 3)) 2 p t) 4 p (C_slantOf (mA (mA S 5 p (S.1 3)) 2 p t) p t)) t)) 58 [(0, .ref (q 0)), (1, .int (iI p)), (2, .int (iI t))] [.int (iI m58), .int (iI p), .ref (q 4)] := by
    intro m58 e_m58
    refine gC_s3 X (hD _) (by omega) dX0_turnIn_58 ?_
    exact gx_vret hR (congrArg (fun z : Sta => (wC K q z)) ((show C_turnIn S p t = (mA (C_move (mA (mA (mA S 5 p (S.1 3)) 2 p t) 4 p (C_slantOf (mA (mA S 5 p (S.1 3)) 2 p t) p t)) t) 3 p m58) from congrArg (fun z0 => C_turnIn_m58 S p t z0) e_m58.symm))) dX0_turnIn_59
  refine gx_icmp_ne (tgt := 52) X dX0_turnIn_41 (by decide) (by omega) (fun hc41 => ?_) (fun hc41 => ?_)
  · refine gx_aload_n X dX0_turnIn_52 rfl 0 rfl ?_
    refine gC_r0 X dX0_turnIn_53 ?_
    refine gx_iload_n X dX0_turnIn_56 rfl 2 rfl ?_
    refine gC_l0 (v := ((C_move (mA (mA (mA S 5 p (S.1 3)) 2 p t) 4 p (C_slantOf (mA (mA S 5 p (S.1 3)) 2 p t) p t)) t).2 0 t)) X (by omega) rfl dX0_turnIn_57 ?_
    refine gx_sub [0, 1, 2] rfl ?_
    exact J58 ((C_move (mA (mA (mA S 5 p (S.1 3)) 2 p t) 4 p (C_slantOf (mA (mA S 5 p (S.1 3)) 2 p t) p t)) t).2 0 t) ((if_neg hc41).symm) 
  · refine gx_aload_n X dX0_turnIn_44 rfl 0 rfl ?_
    refine gx_iload_n X dX0_turnIn_45 rfl 1 rfl ?_
    refine gx_callVI (As := [.int (iI p)]) (rest := [.int (iI p), .ref (q 4)]) X (hD _) lk_C_75 (ci := 0) rfl rfl 0 rfl (c_C_showing q (C_move (mA (mA (mA S 5 p (S.1 3)) 2 p t) 4 p (C_slantOf (mA (mA S 5 p (S.1 3)) 2 p t) p t)) t) p (by omega)) jn_all rfl ⟨by decide, by decide⟩ (Nat.le_of_ble_eq_true rfl) dX0_turnIn_46 ?_
    refine gx_goto (tgt := 58) X dX0_turnIn_49 (by decide) ?_
    refine gx_sub [0, 1, 2] rfl ?_
    exact J58 (C_showing (C_move (mA (mA (mA S 5 p (S.1 3)) 2 p t) 4 p (C_slantOf (mA (mA S 5 p (S.1 3)) 2 p t) p t)) t) p) ((if_pos hc41).symm) 
def C_takeBack_m20 (p : Int) (S20 : Sta) : Sta := (C_move (mI S20 3 (S20.2 5 p)) (C_opposite (S20.2 2 p)))
def C_takeBack (S : Sta) (p : Int) : Sta := C_takeBack_m20 p (if (((S.1 3) - (S.2 5 p)) % 2) = 0 then S else (C_turnOver S))
set_option maxRecDepth 100000 in
theorem c_C_takeBack {l : Launch} {K : KK} {N : Int} (q : Nat → Nat) (S : Sta) (p : Int) (hI : InvC N S) (hp1 : 0 ≤ p ∧ p < 60) (hp2 : S.2 5 p ≤ S.1 3) : CtV l yX0_takeBack cX0_takeBack 2 (3, 63) K [.ref (q 0), .int (iI p)] (wC K q S) (wC K q (C_takeBack S p)) := by
  refine ctV_of (by decide) (Nat.le_of_ble_eq_true rfl) ?_
  intro x X hD hR
  have hD : ∀ S9 : Sta, va_D (cx_A x) (wC K q S9) := fun S9 => va_D_same hD rfl
  have hs0 := InvC_s0 hI
  have hs1 := InvC_s1 hI
  have hs3 := InvC_s3 hI
  have hs4 := InvC_s4 hI
  have hs6 := InvC_s6 hI
  refine gx_aload_n X dX0_takeBack_0 rfl 0 rfl ?_
  refine gC_g3 (v := (S.1 3)) X rfl dX0_takeBack_1 ?_
  refine gx_aload_n X dX0_takeBack_4 rfl 0 rfl ?_
  refine gC_r5 X dX0_takeBack_5 ?_
  refine gx_iload_n X dX0_takeBack_8 rfl 1 rfl ?_
  refine gC_l5 (v := (S.2 5 p)) X (by omega) rfl dX0_takeBack_9 ?_
  have hr9 := InvC_a5 hI p
  refine gx_isub X dX0_takeBack_10 ?_
  refine gx_iconst (z := 2) X dX0_takeBack_11 rfl ?_
  refine gx_irem X dX0_takeBack_12 (by omega) ?_
  have J20 : ∀ (S20 : Sta), S20 = (if (((S.1 3) - (S.2 5 p)) % 2) = 0 then S else (C_turnOver S)) → (InvC N S20) → GG l (rmK (3, 63)) K x (wC K q S20) 20 [(0, .ref (q 0)), (1, .int (iI p))] [] := by
    intro S20 e_S20 hf20_0
    refine gx_aload_n X dX0_takeBack_20 rfl 0 rfl ?_
    refine gx_aload_n X dX0_takeBack_21 rfl 0 rfl ?_
    refine gC_r5 X dX0_takeBack_22 ?_
    refine gx_iload_n X dX0_takeBack_25 rfl 1 rfl ?_
    refine gC_l5 (v := (S20.2 5 p)) X (by omega) rfl dX0_takeBack_26 ?_
    have hr26 := InvC_a5 hf20_0 p
    refine gC_p3 X (hD _) dX0_takeBack_27 ?_
    refine gx_aload_n X dX0_takeBack_30 rfl 0 rfl ?_
    refine gx_aload_n X dX0_takeBack_31 rfl 0 rfl ?_
    refine gC_r2 X dX0_takeBack_32 ?_
    refine gx_iload_n X dX0_takeBack_35 rfl 1 rfl ?_
    refine gC_l2 (v := (S20.2 2 p)) X (by omega) rfl dX0_takeBack_36 ?_
    have hr36 := InvC_a2 hf20_0 p
    refine gx_callSI (As := [.int (iI (S20.2 2 p))]) (rest := [.ref (q 0)]) X (hD _) lk_C_82 (c_C_opposite (S20.2 2 p) (by omega)) jn_nil rfl ⟨by decide, by decide⟩ (Nat.le_of_ble_eq_true rfl) dX0_takeBack_37 ?_
    have hq37_0 := C_opposite_sp (S20.2 2 p)
    refine gx_callVV (As := [.int (iI (C_opposite (S20.2 2 p)))]) (rest := []) X (hD _) lk_C_71 (ci := 0) rfl rfl 0 rfl (c_C_move q (mI S20 3 (S20.2 5 p)) (C_opposite (S20.2 2 p)) (show 0 ≤ S20.1 0 ∧ S20.1 0 ≤ 1 from InvC_s0 hf20_0) (by omega)) jn_all rfl ⟨by decide, by decide⟩ (Nat.le_of_ble_eq_true rfl) dX0_takeBack_40 ?_
    exact gx_vret hR (congrArg (fun z : Sta => (wC K q z)) ((show C_takeBack S p = (C_move (mI S20 3 (S20.2 5 p)) (C_opposite (S20.2 2 p))) from congrArg (fun z0 => C_takeBack_m20 p z0) e_S20.symm))) dX0_takeBack_43
  refine gx_if_eq (tgt := 20) X dX0_takeBack_13 (by decide) (by omega) (fun hc13 => ?_) (fun hc13 => ?_)
  · refine gx_sub [0, 1] rfl ?_
    exact J20 S ((if_pos hc13).symm) (by first | exact hI | exact C_turnOver_inv hI)
  · refine gx_aload_n X dX0_takeBack_16 rfl 0 rfl ?_
    refine gx_callVV (As := []) (rest := []) X (hD _) lk_C_79 (ci := 0) rfl rfl 0 rfl (c_C_turnOver q S  ) jn_all rfl ⟨by decide, by decide⟩ (Nat.le_of_ble_eq_true rfl) dX0_takeBack_17 ?_
    refine gx_sub [0, 1] rfl ?_
    exact J20 (C_turnOver S) ((if_neg hc13).symm) (by first | exact hI | exact C_turnOver_inv hI)
