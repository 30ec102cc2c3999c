def M_turn (S : Sta) (p : Int) (c : Int) : Int := if (M_noPick S p) = 0 then if (M_noCard S c) = 0 then (S.2 12 ((16 * p) + c)) else (-1) else (-1)
set_option maxRecDepth 100000 in
theorem c_M_turn {l : Launch} {K : KK} {N : Int} (q : Nat → Nat) (S : Sta) (p : Int) (c : Int) (hI : InvW N S) (hp1 : ok32 p) (hp2 : ok32 c) : CtI l yX3_turn cX3_turn 3 .int (2, 46) K [.ref (q 0), .int (iI p), .int (iI c)] (wM K q S) (M_turn S p c) (wM K q S) := by
  refine ctI_of (by decide) (Nat.le_of_ble_eq_true rfl) rfl ?_
  intro x X hD hR
  have hD : ∀ S9 : Sta, va_D (cx_A x) (wM K q S9) := fun S9 => va_D_same hD rfl
  have hs1 := InvM_s1 hI
  have hs2 := InvM_s2 hI
  have hs3 := InvM_s3 hI
  have hs4 := InvM_s4 hI
  refine gx_aload_n X dX3_turn_0 rfl 0 rfl ?_
  refine gx_iconst (z := 0) X dX3_turn_1 rfl ?_
  refine gM_t0 X (hD _) (InvM_t hI) dX3_turn_2 ?_
  refine gx_aload_n X dX3_turn_5 rfl 0 rfl ?_
  refine gx_iload_n X dX3_turn_6 rfl 1 rfl ?_
  refine gx_callVI (As := [.int (iI p)]) (rest := []) X (hD _) lk_M_117 (ci := 3) rfl rfl 0 rfl (c_M_noPick q S p hI (by omega)) jn_all rfl ⟨by decide, by decide⟩ (Nat.le_of_ble_eq_true rfl) dX3_turn_7 ?_
  have hq7_0 := M_noPick_sp S p
  have J36 : ∀ (m36 : Int), m36 = (if (M_noPick S p) = 0 then if (M_noCard S c) = 0 then (S.2 12 ((16 * p) + c)) else (-1) else (-1)) → GG l (rmK (2, 46)) K x (wM K q S) 36 [(0, .ref (q 0)), (1, .int (iI p)), (2, .int (iI c))] [.int (iI m36)] := by
    intro m36 e_m36
    exact gx_iret hR (e_m36.symm) rfl dX3_turn_36
  refine gx_if_ne (tgt := 21) X dX3_turn_10 (by decide) (by omega) (fun hc10 => ?_) (fun hc10 => ?_)
  · refine gx_iconst (z := (-1)) X dX3_turn_21 rfl ?_
    refine gx_goto (tgt := 36) X dX3_turn_22 (by decide) ?_
    refine gx_sub [0, 1, 2] rfl ?_
    exact J36 (-1) ((if_neg hc10).symm) 
  · refine gx_aload_n X dX3_turn_13 rfl 0 rfl ?_
    refine gx_iload_n X dX3_turn_14 rfl 2 rfl ?_
    refine gx_callVI (As := [.int (iI c)]) (rest := []) X (hD _) lk_M_97 (ci := 3) rfl rfl 0 rfl (c_M_noCard q S c hI (by omega)) jn_all rfl ⟨by decide, by decide⟩ (Nat.le_of_ble_eq_true rfl) dX3_turn_15 ?_
    have hq15_0 := M_noCard_sp S c
    refine gx_if_eq (tgt := 25) X dX3_turn_18 (by decide) (by omega) (fun hc18 => ?_) (fun hc18 => ?_)
    · refine gx_aload_n X dX3_turn_25 rfl 0 rfl ?_
      refine gM_r12 X dX3_turn_26 ?_
      refine gx_bipush (z := 16) X dX3_turn_29 (by decide) ?_
      refine gx_iload_n X dX3_turn_31 rfl 1 rfl ?_
      refine gx_imul X dX3_turn_32 ?_
      refine gx_iload_n X dX3_turn_33 rfl 2 rfl ?_
      refine gx_iadd X dX3_turn_34 ?_
      refine gM_l12 (v := (S.2 12 ((16 * p) + c))) X (by omega) rfl dX3_turn_35 ?_
      have hr35 := InvM_a12 hI ((16 * p) + c)
      refine gx_sub [0, 1, 2] rfl ?_
      exact J36 (S.2 12 ((16 * p) + c)) (((if_pos hc10).trans (if_pos hc18)).symm) 
    · refine gx_iconst (z := (-1)) X dX3_turn_21 rfl ?_
      refine gx_goto (tgt := 36) X dX3_turn_22 (by decide) ?_
      refine gx_sub [0, 1, 2] rfl ?_
      exact J36 (-1) (((if_pos hc10).trans (if_neg hc18)).symm) 
def M_colourOf (S : Sta) (p : Int) (c : Int) : Int := (S.2 0 ((4 * c) + (S.2 13 ((16 * p) + c))))
theorem M_colourOf_rg {N : Int} (S : Sta) (p c : Int) (hI : InvW N S) (_ : 0 ≤ p ∧ p < 60) (_ : 0 ≤ c ∧ c < 16) : 0 ≤ M_colourOf S p c ∧ M_colourOf S p c ≤ 7 := InvM_a0 hI _
set_option maxRecDepth 100000 in
theorem c_M_colourOf {l : Launch} {K : KK} {N : Int} (q : Nat → Nat) (S : Sta) (p : Int) (c : Int) (hI : InvW N S) (hp1 : 0 ≤ p ∧ p < 60) (hp2 : 0 ≤ c ∧ c < 16) : CtI l yX3_colourOf cX3_colourOf 3 .int (0, 0) K [.ref (q 0), .int (iI p), .int (iI c)] (wM K q S) (M_colourOf S p c) (wM K q S) := by
  refine ctI_of (by decide) (Nat.le_of_ble_eq_true rfl) rfl ?_
  intro x X hD hR
  have hD : ∀ S9 : Sta, va_D (cx_A x) (wM K q S9) := fun S9 => va_D_same hD rfl
  have hs1 := InvM_s1 hI
  have hs2 := InvM_s2 hI
  have hs3 := InvM_s3 hI
  have hs4 := InvM_s4 hI
  refine gx_aload_n X dX3_colourOf_0 rfl 0 rfl ?_
  refine gM_r0 X dX3_colourOf_1 ?_
  refine gx_iconst (z := 4) X dX3_colourOf_4 rfl ?_
  refine gx_iload_n X dX3_colourOf_5 rfl 2 rfl ?_
  refine gx_imul X dX3_colourOf_6 ?_
  refine gx_aload_n X dX3_colourOf_7 rfl 0 rfl ?_
  refine gM_r13 X dX3_colourOf_8 ?_
  refine gx_bipush (z := 16) X dX3_colourOf_11 (by decide) ?_
  refine gx_iload_n X dX3_colourOf_13 rfl 1 rfl ?_
  refine gx_imul X dX3_colourOf_14 ?_
  refine gx_iload_n X dX3_colourOf_15 rfl 2 rfl ?_
  refine gx_iadd X dX3_colourOf_16 ?_
  refine gM_l13 (v := (S.2 13 ((16 * p) + c))) X (by omega) rfl dX3_colourOf_17 ?_
  have hr17 := InvM_a13 hI ((16 * p) + c)
  refine gx_iadd X dX3_colourOf_18 ?_
  refine gM_l0 (v := (S.2 0 ((4 * c) + (S.2 13 ((16 * p) + c))))) X (by omega) rfl dX3_colourOf_19 ?_
  have hr19 := InvM_a0 hI ((4 * c) + (S.2 13 ((16 * p) + c)))
  exact gx_iret hR (rfl) rfl dX3_colourOf_20
def M_behindOf (S : Sta) (p : Int) (c : Int) : Int := (S.2 0 ((4 * c) + (S.2 14 ((16 * p) + c))))
theorem M_behindOf_rg {N : Int} (S : Sta) (p c : Int) (hI : InvW N S) (_ : 0 ≤ p ∧ p < 60) (_ : 0 ≤ c ∧ c < 16) : 0 ≤ M_behindOf S p c ∧ M_behindOf S p c ≤ 7 := InvM_a0 hI _
set_option maxRecDepth 100000 in
theorem c_M_behindOf {l : Launch} {K : KK} {N : Int} (q : Nat → Nat) (S : Sta) (p : Int) (c : Int) (hI : InvW N S) (hp1 : 0 ≤ p ∧ p < 60) (hp2 : 0 ≤ c ∧ c < 16) : CtI l yX3_behindOf cX3_behindOf 3 .int (0, 0) K [.ref (q 0), .int (iI p), .int (iI c)] (wM K q S) (M_behindOf S p c) (wM K q S) := by
  refine ctI_of (by decide) (Nat.le_of_ble_eq_true rfl) rfl ?_
  intro x X hD hR
  have hD : ∀ S9 : Sta, va_D (cx_A x) (wM K q S9) := fun S9 => va_D_same hD rfl
  have hs1 := InvM_s1 hI
  have hs2 := InvM_s2 hI
  have hs3 := InvM_s3 hI
  have hs4 := InvM_s4 hI
  refine gx_aload_n X dX3_behindOf_0 rfl 0 rfl ?_
  refine gM_r0 X dX3_behindOf_1 ?_
  refine gx_iconst (z := 4) X dX3_behindOf_4 rfl ?_
  refine gx_iload_n X dX3_behindOf_5 rfl 2 rfl ?_
  refine gx_imul X dX3_behindOf_6 ?_
  refine gx_aload_n X dX3_behindOf_7 rfl 0 rfl ?_
  refine gM_r14 X dX3_behindOf_8 ?_
  refine gx_bipush (z := 16) X dX3_behindOf_11 (by decide) ?_
  refine gx_iload_n X dX3_behindOf_13 rfl 1 rfl ?_
  refine gx_imul X dX3_behindOf_14 ?_
  refine gx_iload_n X dX3_behindOf_15 rfl 2 rfl ?_
  refine gx_iadd X dX3_behindOf_16 ?_
  refine gM_l14 (v := (S.2 14 ((16 * p) + c))) X (by omega) rfl dX3_behindOf_17 ?_
  have hr17 := InvM_a14 hI ((16 * p) + c)
  refine gx_iadd X dX3_behindOf_18 ?_
  refine gM_l0 (v := (S.2 0 ((4 * c) + (S.2 14 ((16 * p) + c))))) X (by omega) rfl dX3_behindOf_19 ?_
  have hr19 := InvM_a0 hI ((4 * c) + (S.2 14 ((16 * p) + c)))
  exact gx_iret hR (rfl) rfl dX3_behindOf_20
def M_shows (S : Sta) (p : Int) (c : Int) (b : Int) : Int := if (M_noPick S p) = 0 then if (M_noCard S c) = 0 then if b = 0 then (M_colourOf S p c) else (M_behindOf S p c) else (-1) else (-1)
set_option maxRecDepth 100000 in
theorem c_M_shows {l : Launch} {K : KK} {N : Int} (q : Nat → Nat) (S : Sta) (p : Int) (c : Int) (b : Int) (hI : InvW N S) (hp1 : ok32 p) (hp2 : ok32 c) (hp3 : ok32 b) : CtI l yX3_shows cX3_shows 4 .int (2, 46) K [.ref (q 0), .int (iI p), .int (iI c), .int (iI b)] (wM K q S) (M_shows S p c b) (wM K q S) := by
  refine ctI_of (by decide) (Nat.le_of_ble_eq_true rfl) rfl ?_
  intro x X hD hR
  have hD : ∀ S9 : Sta, va_D (cx_A x) (wM K q S9) := fun S9 => va_D_same hD rfl
  have hs1 := InvM_s1 hI
  have hs2 := InvM_s2 hI
  have hs3 := InvM_s3 hI
  have hs4 := InvM_s4 hI
  refine gx_aload_n X dX3_shows_0 rfl 0 rfl ?_
  refine gx_iconst (z := 0) X dX3_shows_1 rfl ?_
  refine gM_t0 X (hD _) (InvM_t hI) dX3_shows_2 ?_
  refine gx_aload_n X dX3_shows_5 rfl 0 rfl ?_
  refine gx_iload_n X dX3_shows_6 rfl 1 rfl ?_
  refine gx_callVI (As := [.int (iI p)]) (rest := []) X (hD _) lk_M_117 (ci := 3) rfl rfl 0 rfl (c_M_noPick q S p hI (by omega)) jn_all rfl ⟨by decide, by decide⟩ (Nat.le_of_ble_eq_true rfl) dX3_shows_7 ?_
  have hq7_0 := M_noPick_sp S p
  have J44 : ∀ (m44 : Int), m44 = (if (M_noPick S p) = 0 then if (M_noCard S c) = 0 then if b = 0 then (M_colourOf S p c) else (M_behindOf S p c) else (-1) else (-1)) → GG l (rmK (2, 46)) K x (wM K q S) 44 [(0, .ref (q 0)), (1, .int (iI p)), (2, .int (iI c)), (3, .int (iI b))] [.int (iI m44)] := by
    intro m44 e_m44
    exact gx_iret hR (e_m44.symm) rfl dX3_shows_44
  refine gx_if_ne (tgt := 21) X dX3_shows_10 (by decide) (by omega) (fun hc10 => ?_) (fun hc10 => ?_)
  · refine gx_iconst (z := (-1)) X dX3_shows_21 rfl ?_
    refine gx_goto (tgt := 44) X dX3_shows_22 (by decide) ?_
    refine gx_sub [0, 1, 2, 3] rfl ?_
    exact J44 (-1) ((if_neg hc10).symm) 
  · refine gx_aload_n X dX3_shows_13 rfl 0 rfl ?_
    refine gx_iload_n X dX3_shows_14 rfl 2 rfl ?_
    refine gx_callVI (As := [.int (iI c)]) (rest := []) X (hD _) lk_M_97 (ci := 3) rfl rfl 0 rfl (c_M_noCard q S c hI (by omega)) jn_all rfl ⟨by decide, by decide⟩ (Nat.le_of_ble_eq_true rfl) dX3_shows_15 ?_
    have hq15_0 := M_noCard_sp S c
    refine gx_if_eq (tgt := 25) X dX3_shows_18 (by decide) (by omega) (fun hc18 => ?_) (fun hc18 => ?_)
    · refine gx_iload_n X dX3_shows_25 rfl 3 rfl ?_
      refine gx_if_eq (tgt := 38) X dX3_shows_26 (by decide) (by omega) (fun hc26 => ?_) (fun hc26 => ?_)
      · refine gx_aload_n X dX3_shows_38 rfl 0 rfl ?_
        refine gx_iload_n X dX3_shows_39 rfl 1 rfl ?_
        refine gx_iload_n X dX3_shows_40 rfl 2 rfl ?_
        refine gx_callVI (As := [.int (iI p), .int (iI c)]) (rest := []) X (hD _) lk_M_124 (ci := 3) rfl rfl 0 rfl (c_M_colourOf q S p c hI (by omega) (by omega)) jn_all rfl ⟨by decide, by decide⟩ (Nat.le_of_ble_eq_true rfl) dX3_shows_41 ?_
        have hp41_0 := M_colourOf_rg S p c hI (by omega) (by omega)
        refine gx_sub [0, 1, 2, 3] rfl ?_
        exact J44 (M_colourOf S p c) (((if_pos hc10).trans ((if_pos hc18).trans (if_pos hc26))).symm) 
      · refine gx_aload_n X dX3_shows_29 rfl 0 rfl ?_
        refine gx_iload_n X dX3_shows_30 rfl 1 rfl ?_
        refine gx_iload_n X dX3_shows_31 rfl 2 rfl ?_
        refine gx_callVI (As := [.int (iI p), .int (iI c)]) (rest := []) X (hD _) lk_M_120 (ci := 3) rfl rfl 0 rfl (c_M_behindOf q S p c hI (by omega) (by omega)) jn_all rfl ⟨by decide, by decide⟩ (Nat.le_of_ble_eq_true rfl) dX3_shows_32 ?_
        have hp32_0 := M_behindOf_rg S p c hI (by omega) (by omega)
        refine gx_goto (tgt := 44) X dX3_shows_35 (by decide) ?_
        refine gx_sub [0, 1, 2, 3] rfl ?_
        exact J44 (M_behindOf S p c) (((if_pos hc10).trans ((if_pos hc18).trans (if_neg hc26))).symm) 
    · refine gx_iconst (z := (-1)) X dX3_shows_21 rfl ?_
      refine gx_goto (tgt := 44) X dX3_shows_22 (by decide) ?_
      refine gx_sub [0, 1, 2, 3] rfl ?_
      exact J44 (-1) (((if_pos hc10).trans (if_neg hc18)).symm) 
def M_shown (S : Sta) (p : Int) (c : Int) (b : Int) : Int := if (M_noPick S p) = 0 then if (M_noCard S c) = 0 then if b = 0 then (S.2 13 ((16 * p) + c)) else (S.2 14 ((16 * p) + c)) else (-1) else (-1)
set_option maxRecDepth 100000 in
theorem c_M_shown {l : Launch} {K : KK} {N : Int} (q : Nat → Nat) (S : Sta) (p : Int) (c : Int) (b : Int) (hI : InvW N S) (hp1 : ok32 p) (hp2 : ok32 c) (hp3 : ok32 b) : CtI l yX3_shown cX3_shown 4 .int (2, 46) K [.ref (q 0), .int (iI p), .int (iI c), .int (iI b)] (wM K q S) (M_shown S p c b) (wM K q S) := by
  refine ctI_of (by decide) (Nat.le_of_ble_eq_true rfl) rfl ?_
  intro x X hD hR
  have hD : ∀ S9 : Sta, va_D (cx_A x) (wM K q S9) := fun S9 => va_D_same hD rfl
  have hs1 := InvM_s1 hI
  have hs2 := InvM_s2 hI
  have hs3 := InvM_s3 hI
  have hs4 := InvM_s4 hI
  refine gx_aload_n X dX3_shown_0 rfl 0 rfl ?_
  refine gx_iconst (z := 0) X dX3_shown_1 rfl ?_
  refine gM_t0 X (hD _) (InvM_t hI) dX3_shown_2 ?_
  refine gx_aload_n X dX3_shown_5 rfl 0 rfl ?_
  refine gx_iload_n X dX3_shown_6 rfl 1 rfl ?_
  refine gx_callVI (As := [.int (iI p)]) (rest := []) X (hD _) lk_M_117 (ci := 3) rfl rfl 0 rfl (c_M_noPick q S p hI (by omega)) jn_all rfl ⟨by decide, by decide⟩ (Nat.le_of_ble_eq_true rfl) dX3_shown_7 ?_
  have hq7_0 := M_noPick_sp S p
  have J54 : ∀ (m54 : Int), m54 = (if (M_noPick S p) = 0 then if (M_noCard S c) = 0 then if b = 0 then (S.2 13 ((16 * p) + c)) else (S.2 14 ((16 * p) + c)) else (-1) else (-1)) → GG l (rmK (2, 46)) K x (wM K q S) 54 [(0, .ref (q 0)), (1, .int (iI p)), (2, .int (iI c)), (3, .int (iI b))] [.int (iI m54)] := by
    intro m54 e_m54
    exact gx_iret hR (e_m54.symm) rfl dX3_shown_54
  refine gx_if_ne (tgt := 21) X dX3_shown_10 (by decide) (by omega) (fun hc10 => ?_) (fun hc10 => ?_)
  · refine gx_iconst (z := (-1)) X dX3_shown_21 rfl ?_
    refine gx_goto (tgt := 54) X dX3_shown_22 (by decide) ?_
    refine gx_sub [0, 1, 2, 3] rfl ?_
    exact J54 (-1) ((if_neg hc10).symm) 
  · refine gx_aload_n X dX3_shown_13 rfl 0 rfl ?_
    refine gx_iload_n X dX3_shown_14 rfl 2 rfl ?_
    refine gx_callVI (As := [.int (iI c)]) (rest := []) X (hD _) lk_M_97 (ci := 3) rfl rfl 0 rfl (c_M_noCard q S c hI (by omega)) jn_all rfl ⟨by decide, by decide⟩ (Nat.le_of_ble_eq_true rfl) dX3_shown_15 ?_
    have hq15_0 := M_noCard_sp S c
    refine gx_if_eq (tgt := 25) X dX3_shown_18 (by decide) (by omega) (fun hc18 => ?_) (fun hc18 => ?_)
    · refine gx_iload_n X dX3_shown_25 rfl 3 rfl ?_
      refine gx_if_eq (tgt := 43) X dX3_shown_26 (by decide) (by omega) (fun hc26 => ?_) (fun hc26 => ?_)
      · refine gx_aload_n X dX3_shown_43 rfl 0 rfl ?_
        refine gM_r13 X dX3_shown_44 ?_
        refine gx_bipush (z := 16) X dX3_shown_47 (by decide) ?_
        refine gx_iload_n X dX3_shown_49 rfl 1 rfl ?_
        refine gx_imul X dX3_shown_50 ?_
        refine gx_iload_n X dX3_shown_51 rfl 2 rfl ?_
        refine gx_iadd X dX3_shown_52 ?_
        refine gM_l13 (v := (S.2 13 ((16 * p) + c))) X (by omega) rfl dX3_shown_53 ?_
        have hr53 := InvM_a13 hI ((16 * p) + c)
        refine gx_sub [0, 1, 2, 3] rfl ?_
        exact J54 (S.2 13 ((16 * p) + c)) (((if_pos hc10).trans ((if_pos hc18).trans (if_pos hc26))).symm) 
      · refine gx_aload_n X dX3_shown_29 rfl 0 rfl ?_
        refine gM_r14 X dX3_shown_30 ?_
        refine gx_bipush (z := 16) X dX3_shown_33 (by decide) ?_
        refine gx_iload_n X dX3_shown_35 rfl 1 rfl ?_
        refine gx_imul X dX3_shown_36 ?_
        refine gx_iload_n X dX3_shown_37 rfl 2 rfl ?_
        refine gx_iadd X dX3_shown_38 ?_
        refine gM_l14 (v := (S.2 14 ((16 * p) + c))) X (by omega) rfl dX3_shown_39 ?_
        have hr39 := InvM_a14 hI ((16 * p) + c)
        refine gx_goto (tgt := 54) X dX3_shown_40 (by decide) ?_
        refine gx_sub [0, 1, 2, 3] rfl ?_
        exact J54 (S.2 14 ((16 * p) + c)) (((if_pos hc10).trans ((if_pos hc18).trans (if_neg hc26))).symm) 
    · refine gx_iconst (z := (-1)) X dX3_shown_21 rfl ?_
      refine gx_goto (tgt := 54) X dX3_shown_22 (by decide) ?_
      refine gx_sub [0, 1, 2, 3] rfl ?_
      exact J54 (-1) (((if_pos hc10).trans (if_neg hc18)).symm) 
def M_slant (S : Sta) (p : Int) (c : Int) : Int := if (M_noPick S p) = 0 then if (M_noCard S c) = 0 then (S.2 15 ((16 * p) + c)) else (-1) else (-1)
set_option maxRecDepth 100000 in
theorem c_M_slant {l : Launch} {K : KK} {N : Int} (q : Nat → Nat) (S : Sta) (p : Int) (c : Int) (hI : InvW N S) (hp1 : ok32 p) (hp2 : ok32 c) : CtI l yX3_slant cX3_slant 3 .int (2, 46) K [.ref (q 0), .int (iI p), .int (iI c)] (wM K q S) (M_slant S p c) (wM K q S) := by
  refine ctI_of (by decide) (Nat.le_of_ble_eq_true rfl) rfl ?_
  intro x X hD hR
  have hD : ∀ S9 : Sta, va_D (cx_A x) (wM K q S9) := fun S9 => va_D_same hD rfl
  have hs1 := InvM_s1 hI
  have hs2 := InvM_s2 hI
  have hs3 := InvM_s3 hI
  have hs4 := InvM_s4 hI
  refine gx_aload_n X dX3_slant_0 rfl 0 rfl ?_
  refine gx_iconst (z := 0) X dX3_slant_1 rfl ?_
  refine gM_t0 X (hD _) (InvM_t hI) dX3_slant_2 ?_
  refine gx_aload_n X dX3_slant_5 rfl 0 rfl ?_
  refine gx_iload_n X dX3_slant_6 rfl 1 rfl ?_
  refine gx_callVI (As := [.int (iI p)]) (rest := []) X (hD _) lk_M_117 (ci := 3) rfl rfl 0 rfl (c_M_noPick q S p hI (by omega)) jn_all rfl ⟨by decide, by decide⟩ (Nat.le_of_ble_eq_true rfl) dX3_slant_7 ?_
  have hq7_0 := M_noPick_sp S p
  have J36 : ∀ (m36 : Int), m36 = (if (M_noPick S p) = 0 then if (M_noCard S c) = 0 then (S.2 15 ((16 * p) + c)) else (-1) else (-1)) → GG l (rmK (2, 46)) K x (wM K q S) 36 [(0, .ref (q 0)), (1, .int (iI p)), (2, .int (iI c))] [.int (iI m36)] := by
    intro m36 e_m36
    exact gx_iret hR (e_m36.symm) rfl dX3_slant_36
  refine gx_if_ne (tgt := 21) X dX3_slant_10 (by decide) (by omega) (fun hc10 => ?_) (fun hc10 => ?_)
  · refine gx_iconst (z := (-1)) X dX3_slant_21 rfl ?_
    refine gx_goto (tgt := 36) X dX3_slant_22 (by decide) ?_
    refine gx_sub [0, 1, 2] rfl ?_
    exact J36 (-1) ((if_neg hc10).symm) 
  · refine gx_aload_n X dX3_slant_13 rfl 0 rfl ?_
    refine gx_iload_n X dX3_slant_14 rfl 2 rfl ?_
    refine gx_callVI (As := [.int (iI c)]) (rest := []) X (hD _) lk_M_97 (ci := 3) rfl rfl 0 rfl (c_M_noCard q S c hI (by omega)) jn_all rfl ⟨by decide, by decide⟩ (Nat.le_of_ble_eq_true rfl) dX3_slant_15 ?_
    have hq15_0 := M_noCard_sp S c
    refine gx_if_eq (tgt := 25) X dX3_slant_18 (by decide) (by omega) (fun hc18 => ?_) (fun hc18 => ?_)
    · refine gx_aload_n X dX3_slant_25 rfl 0 rfl ?_
      refine gM_r15 X dX3_slant_26 ?_
      refine gx_bipush (z := 16) X dX3_slant_29 (by decide) ?_
      refine gx_iload_n X dX3_slant_31 rfl 1 rfl ?_
      refine gx_imul X dX3_slant_32 ?_
      refine gx_iload_n X dX3_slant_33 rfl 2 rfl ?_
      refine gx_iadd X dX3_slant_34 ?_
      refine gM_l15 (v := (S.2 15 ((16 * p) + c))) X (by omega) rfl dX3_slant_35 ?_
      have hr35 := InvM_a15 hI ((16 * p) + c)
      refine gx_sub [0, 1, 2] rfl ?_
      exact J36 (S.2 15 ((16 * p) + c)) (((if_pos hc10).trans (if_pos hc18)).symm) 
    · refine gx_iconst (z := (-1)) X dX3_slant_21 rfl ?_
      refine gx_goto (tgt := 36) X dX3_slant_22 (by decide) ?_
      refine gx_sub [0, 1, 2] rfl ?_
      exact J36 (-1) (((if_pos hc10).trans (if_neg hc18)).symm) 
def M_longest_l22 (S : Sta) (c : Int) : Nat → Int → Int → Int → Int
  | 0, v2, v3, v4 => v2
  | fu + 1, v2, v3, v4 => if (S.1 2) ≤ v4 then v2 else (fun (m54 : Int) => (fun (m65 : Int) => M_longest_l22 S c fu m65 m54 (v4 + 1)) (if m54 ≤ v2 then v2 else m54)) (if (S.2 12 ((16 * v4) + c)) = 2 then (v3 + 1) else 0)
theorem M_longest_l22_s (S : Sta) (c : Int) (fu : Nat) (v2 : Int) (v3 : Int) (v4 : Int) : M_longest_l22 S c (fu + 1) v2 v3 v4 = (if (S.1 2) ≤ v4 then v2 else (fun (m54 : Int) => (fun (m65 : Int) => M_longest_l22 S c fu m65 m54 (v4 + 1)) (if m54 ≤ v2 then v2 else m54)) (if (S.2 12 ((16 * v4) + c)) = 2 then (v3 + 1) else 0)) := rfl
def M_longest (S : Sta) (c : Int) : Int := if (M_noCard S c) = 0 then (M_longest_l22 S c (61) 0 0 0) else (-1)
set_option maxRecDepth 100000 in
theorem c_M_longest {l : Launch} {K : KK} {N : Int} (q : Nat → Nat) (S : Sta) (c : Int) (hI : InvW N S) (hp1 : ok32 c) : CtI l yX3_longest cX3_longest 5 .int (2, 46) K [.ref (q 0), .int (iI c)] (wM K q S) (M_longest S c) (wM K q S) := by
  refine ctI_of (by decide) (Nat.le_of_ble_eq_true rfl) rfl ?_
  intro x X hD hR
  have hD : ∀ S9 : Sta, va_D (cx_A x) (wM K q S9) := fun S9 => va_D_same hD rfl
  have hs1 := InvM_s1 hI
  have hs2 := InvM_s2 hI
  have hs3 := InvM_s3 hI
  have hs4 := InvM_s4 hI
  refine gx_aload_n X dX3_longest_0 rfl 0 rfl ?_
  refine gx_iconst (z := 0) X dX3_longest_1 rfl ?_
  refine gM_t0 X (hD _) (InvM_t hI) dX3_longest_2 ?_
  refine gx_aload_n X dX3_longest_5 rfl 0 rfl ?_
  refine gx_iload_n X dX3_longest_6 rfl 1 rfl ?_
  refine gx_callVI (As := [.int (iI c)]) (rest := []) X (hD _) lk_M_97 (ci := 3) rfl rfl 0 rfl (c_M_noCard q S c hI (by omega)) jn_all rfl ⟨by decide, by decide⟩ (Nat.le_of_ble_eq_true rfl) dX3_longest_7 ?_
  have hq7_0 := M_noCard_sp S c
  refine gx_if_eq (tgt := 15) X dX3_longest_10 (by decide) (by omega) (fun hc10 => ?_) (fun hc10 => ?_)
  · refine gx_iconst (z := 0) X dX3_longest_15 rfl ?_
    refine gx_istore_n X dX3_longest_16 rfl (by decide) rfl ?_
    refine gx_iconst (z := 0) X dX3_longest_17 rfl ?_
    refine gx_istore_n X dX3_longest_18 rfl (by decide) rfl ?_
    refine gx_iconst (z := 0) X dX3_longest_19 rfl ?_
    refine gx_istore X dX3_longest_20 (by decide) rfl ?_
    have L22 : ∀ (fu : Nat) (v2 : Int) (v3 : Int) (v4 : Int), (0 ≤ v4) → (v4 ≤ (S.1 2)) → (0 ≤ v3 ∧ v3 ≤ v4) → (0 ≤ v2 ∧ v2 ≤ v4) → ((S.1 2) - v4) < (fu : Int) → (∀ z22 : Int, M_longest_l22 S c fu v2 v3 v4 = z22 → True → GG l (rmK (2, 46)) K x (wM K q S) 72 [(0, .ref (q 0)), (1, .int (iI c)), (2, .int (iI z22))] []) → GG l (rmK (2, 46)) K x (wM K q S) 22 [(0, .ref (q 0)), (1, .int (iI c)), (2, .int (iI v2)), (3, .int (iI v3)), (4, .int (iI v4))] [] := by
      intro fu
      induction fu with
      | zero => intro v2 v3 v4 hi22_0 hi22_1 hi22_2 hi22_3 hm22 K22; exact absurd hm22 (by omega)
      | succ fu ih =>
        intro v2 v3 v4 hi22_0 hi22_1 hi22_2 hi22_3 hm22 K22
        refine gx_iload X dX3_longest_22 4 rfl ?_
        refine gx_aload_n X dX3_longest_24 rfl 0 rfl ?_
        refine gM_g2 (v := (S.1 2)) X rfl dX3_longest_25 ?_
        refine gx_icmp_ge (tgt := 72) X dX3_longest_28 (by decide) (by omega) (fun hc28 => ?_) (fun hc28 => ?_)
        · refine gx_sub [0, 1, 2] rfl ?_
          exact K22 v2 ((M_longest_l22_s S c fu v2 v3 v4).trans (if_pos hc28)) trivial
        · refine gx_aload_n X dX3_longest_31 rfl 0 rfl ?_
          refine gM_r12 X dX3_longest_32 ?_
          refine gx_bipush (z := 16) X dX3_longest_35 (by decide) ?_
          refine gx_iload X dX3_longest_37 4 rfl ?_
          refine gx_imul X dX3_longest_39 ?_
          refine gx_iload_n X dX3_longest_40 rfl 1 rfl ?_
          refine gx_iadd X dX3_longest_41 ?_
          refine gM_l12 (v := (S.2 12 ((16 * v4) + c))) X (by omega) rfl dX3_longest_42 ?_
          have hr42 := InvM_a12 hI ((16 * v4) + c)
          refine gx_iconst (z := 2) X dX3_longest_43 rfl ?_
          have J54 : ∀ (m54 : Int), m54 = (if (S.2 12 ((16 * v4) + c)) = 2 then (v3 + 1) else 0) → GG l (rmK (2, 46)) K x (wM K q S) 54 [(0, .ref (q 0)), (1, .int (iI c)), (2, .int (iI v2)), (3, .int (iI v3)), (4, .int (iI v4))] [.int (iI m54)] := by
            intro m54 e_m54
            refine gx_istore_n X dX3_longest_54 rfl (by decide) rfl ?_
            refine gx_iload_n X dX3_longest_55 rfl 0 rfl ?_
            refine gx_iload_n X dX3_longest_56 rfl 3 rfl ?_
            have J65 : ∀ (m65 : Int), m65 = (if m54 ≤ v2 then v2 else m54) → GG l (rmK (2, 46)) K x (wM K q S) 65 [(0, .ref (q 0)), (1, .int (iI c)), (2, .int (iI v2)), (3, .int (iI m54)), (4, .int (iI v4))] [.int (iI m65)] := by
              intro m65 e_m65
              refine gx_istore_n X dX3_longest_65 rfl (by decide) rfl ?_
              refine gx_iinc X dX3_longest_66 4 rfl (by decide) rfl ?_
              refine gx_goto (tgt := 22) X dX3_longest_69 (by decide) ?_
              refine gx_sub [2, 3, 1, 4, 0] rfl ?_
              subst e_m54
              subst e_m65
              exact ih _ _ _ (by omega) (by omega) (by omega) (by omega) (by omega) (fun z e hx => K22 z ((M_longest_l22_s S c fu v2 v3 v4).trans ((if_neg hc28).trans e)) hx)
            refine gx_icmp_le (tgt := 64) X dX3_longest_57 (by decide) (by omega) (fun hc57 => ?_) (fun hc57 => ?_)
            · refine gx_iload_n X dX3_longest_64 rfl 3 rfl ?_
              refine gx_sub [1, 2, 3, 0, 4] rfl ?_
              exact J65 v2 ((if_pos hc57).symm) 
            · refine gx_iload_n X dX3_longest_60 rfl 0 rfl ?_
              refine gx_goto (tgt := 65) X dX3_longest_61 (by decide) ?_
              refine gx_sub [1, 2, 3, 0, 4] rfl ?_
              exact J65 m54 ((if_neg hc57).symm) 
          refine gx_icmp_ne (tgt := 53) X dX3_longest_44 (by decide) (by omega) (fun hc44 => ?_) (fun hc44 => ?_)
          · refine gx_iconst (z := 0) X dX3_longest_53 rfl ?_
            refine gx_sub [0, 1, 2, 3, 4] rfl ?_
            exact J54 0 ((if_neg hc44).symm) 
          · refine gx_iload_n X dX3_longest_47 rfl 3 rfl ?_
            refine gx_iconst (z := 1) X dX3_longest_48 rfl ?_
            refine gx_iadd X dX3_longest_49 ?_
            refine gx_goto (tgt := 54) X dX3_longest_50 (by decide) ?_
            refine gx_sub [0, 1, 2, 3, 4] rfl ?_
            exact J54 (v3 + 1) ((if_pos hc44).symm) 
    refine gx_sub [3, 4, 2, 1, 0] rfl ?_
    refine L22 (61) 0 0 0 (by omega) (by omega) (by omega) (by omega) (by omega) (fun z22 e22 hx22 => ?_)
    refine gx_iload_n X dX3_longest_72 rfl 2 rfl ?_
    exact gx_iret hR ((if_pos hc10).trans (e22)) rfl dX3_longest_73
  · refine gx_iconst (z := (-1)) X dX3_longest_13 rfl ?_
    exact gx_iret hR (if_neg hc10) rfl dX3_longest_14
def M_many_l35 (S : Sta) (p : Int) (v : Int) : Nat → Int → Int → Int
  | 0, v3, v4 => v3
  | fu + 1, v3, v4 => if (S.1 1) ≤ v4 then v3 else (fun (m61 : Int) => M_many_l35 S p v fu (v3 + m61) (v4 + 1)) (if (M_colourOf S p v4) = v then 1 else 0)
theorem M_many_l35_s (S : Sta) (p : Int) (v : Int) (fu : Nat) (v3 : Int) (v4 : Int) : M_many_l35 S p v (fu + 1) v3 v4 = (if (S.1 1) ≤ v4 then v3 else (fun (m61 : Int) => M_many_l35 S p v fu (v3 + m61) (v4 + 1)) (if (M_colourOf S p v4) = v then 1 else 0)) := rfl
def M_many (S : Sta) (p : Int) (v : Int) : Int := if (M_noPick S p) = 0 then if (M_in v 0 7) = 0 then (-2) else (M_many_l35 S p v (17) 0 0) else (-1)
set_option maxRecDepth 100000 in
theorem c_M_many {l : Launch} {K : KK} {N : Int} (q : Nat → Nat) (S : Sta) (p : Int) (v : Int) (hI : InvW N S) (hp1 : ok32 p) (hp2 : ok32 v) : CtI l yX3_many cX3_many 5 .int (2, 46) K [.ref (q 0), .int (iI p), .int (iI v)] (wM K q S) (M_many S p v) (wM K q S) := by
  refine ctI_of (by decide) (Nat.le_of_ble_eq_true rfl) rfl ?_
  intro x X hD hR
  have hD : ∀ S9 : Sta, va_D (cx_A x) (wM K q S9) := fun S9 => va_D_same hD rfl
  have hs1 := InvM_s1 hI
  have hs2 := InvM_s2 hI
  have hs3 := InvM_s3 hI
  have hs4 := InvM_s4 hI
  refine gx_aload_n X dX3_many_0 rfl 0 rfl ?_
  refine gx_iconst (z := 0) X dX3_many_1 rfl ?_
  refine gM_t0 X (hD _) (InvM_t hI) dX3_many_2 ?_
  refine gx_aload_n X dX3_many_5 rfl 0 rfl ?_
  refine gx_iload_n X dX3_many_6 rfl 1 rfl ?_
  refine gx_callVI (As := [.int (iI p)]) (rest := []) X (hD _) lk_M_117 (ci := 3) rfl rfl 0 rfl (c_M_noPick q S p hI (by omega)) jn_all rfl ⟨by decide, by decide⟩ (Nat.le_of_ble_eq_true rfl) dX3_many_7 ?_
  have hq7_0 := M_noPick_sp S p
  refine gx_if_eq (tgt := 15) X dX3_many_10 (by decide) (by omega) (fun hc10 => ?_) (fun hc10 => ?_)
  · refine gx_iload_n X dX3_many_15 rfl 2 rfl ?_
    refine gx_i2l X dX3_many_16 (by omega) ?_
    refine gx_lconst (v := lI 0) X dX3_many_17 rfl ?_
    refine gx_ldc2 (v := lI 7) X t_M_103 dX3_many_18 ?_
    refine gx_callSI (As := [.long (lI v), .long (lI 0), .long (lI 7)]) (rest := []) X (hD _) lk_M_88 (c_M_in v 0 7 (by omega) (by omega) (by omega)) jn_nil rfl ⟨by decide, by decide⟩ (Nat.le_of_ble_eq_true rfl) dX3_many_21 ?_
    have hq21_0 := M_in_sp v 0 7
    refine gx_if_ne (tgt := 30) X dX3_many_24 (by decide) (by omega) (fun hc24 => ?_) (fun hc24 => ?_)
    · refine gx_iconst (z := 0) X dX3_many_30 rfl ?_
      refine gx_istore_n X dX3_many_31 rfl (by decide) rfl ?_
      refine gx_iconst (z := 0) X dX3_many_32 rfl ?_
      refine gx_istore X dX3_many_33 (by decide) rfl ?_
      have L35 : ∀ (fu : Nat) (v3 : Int) (v4 : Int), (0 ≤ v4) → (v4 ≤ (S.1 1)) → ((S.1 1) - v4) < (fu : Int) → (∀ z35 : Int, M_many_l35 S p v fu v3 v4 = z35 → True → GG l (rmK (2, 46)) K x (wM K q S) 69 [(0, .ref (q 0)), (1, .int (iI p)), (2, .int (iI v)), (3, .int (iI z35))] []) → GG l (rmK (2, 46)) K x (wM K q S) 35 [(0, .ref (q 0)), (1, .int (iI p)), (2, .int (iI v)), (3, .int (iI v3)), (4, .int (iI v4))] [] := by
        intro fu
        induction fu with
        | zero => intro v3 v4 hi35_0 hi35_1 hm35 K35; exact absurd hm35 (by omega)
        | succ fu ih =>
          intro v3 v4 hi35_0 hi35_1 hm35 K35
          refine gx_iload X dX3_many_35 4 rfl ?_
          refine gx_aload_n X dX3_many_37 rfl 0 rfl ?_
          refine gM_g1 (v := (S.1 1)) X rfl dX3_many_38 ?_
          refine gx_icmp_ge (tgt := 69) X dX3_many_41 (by decide) (by omega) (fun hc41 => ?_) (fun hc41 => ?_)
          · refine gx_sub [0, 1, 2, 3] rfl ?_
            exact K35 v3 ((M_many_l35_s S p v fu v3 v4).trans (if_pos hc41)) trivial
          · refine gx_iload_n X dX3_many_44 rfl 3 rfl ?_
            refine gx_aload_n X dX3_many_45 rfl 0 rfl ?_
            refine gx_iload_n X dX3_many_46 rfl 1 rfl ?_
            refine gx_iload X dX3_many_47 4 rfl ?_
            refine gx_callVI (As := [.int (iI p), .int (iI v4)]) (rest := [.int (iI v3)]) X (hD _) lk_M_124 (ci := 3) rfl rfl 0 rfl (c_M_colourOf q S p v4 hI (by omega) (by omega)) jn_all rfl ⟨by decide, by decide⟩ (Nat.le_of_ble_eq_true rfl) dX3_many_49 ?_
            have hp49_0 := M_colourOf_rg S p v4 hI (by omega) (by omega)
            refine gx_iload_n X dX3_many_52 rfl 2 rfl ?_
            have J61 : ∀ (m61 : Int), m61 = (if (M_colourOf S p v4) = v then 1 else 0) → GG l (rmK (2, 46)) K x (wM K q S) 61 [(0, .ref (q 0)), (1, .int (iI p)), (2, .int (iI v)), (3, .int (iI v3)), (4, .int (iI v4))] [.int (iI m61), .int (iI v3)] := by
              intro m61 e_m61
              refine gx_iadd X dX3_many_61 ?_
              refine gx_istore_n X dX3_many_62 rfl (by decide) rfl ?_
              refine gx_iinc X dX3_many_63 4 rfl (by decide) rfl ?_
              refine gx_goto (tgt := 35) X dX3_many_66 (by decide) ?_
              refine gx_sub [2, 3, 4, 1, 0] rfl ?_
              subst e_m61
              exact ih _ _ (by omega) (by omega) (by omega) (fun z e hx => K35 z ((M_many_l35_s S p v fu v3 v4).trans ((if_neg hc41).trans e)) hx)
            refine gx_icmp_ne (tgt := 60) X dX3_many_53 (by decide) (by omega) (fun hc53 => ?_) (fun hc53 => ?_)
            · refine gx_iconst (z := 0) X dX3_many_60 rfl ?_
              refine gx_sub [0, 1, 2, 3, 4] rfl ?_
              exact J61 0 ((if_neg hc53).symm) 
            · refine gx_iconst (z := 1) X dX3_many_56 rfl ?_
              refine gx_goto (tgt := 61) X dX3_many_57 (by decide) ?_
              refine gx_sub [0, 1, 2, 3, 4] rfl ?_
              exact J61 1 ((if_pos hc53).symm) 
      refine gx_sub [2, 3, 4, 1, 0] rfl ?_
      refine L35 (17) 0 0 (by omega) (by omega) (by omega) (fun z35 e35 hx35 => ?_)
      refine gx_iload_n X dX3_many_69 rfl 3 rfl ?_
      exact gx_iret hR ((if_pos hc10).trans ((if_neg hc24).trans (e35))) rfl dX3_many_70
    · refine gx_bipush (z := (-2)) X dX3_many_27 (by decide) ?_
      exact gx_iret hR ((if_pos hc10).trans (if_pos hc24)) rfl dX3_many_29
  · refine gx_iconst (z := (-1)) X dX3_many_13 rfl ?_
    exact gx_iret hR (if_neg hc10) rfl dX3_many_14
def M_fits (S : Sta) (r : Int) (c : Int) (v : Int) : Int := if (S.2 16 ((16 * r) + c)) = (-99) then 1 else if (S.2 16 ((16 * r) + c)) = v then 1 else 0
theorem M_fits_01 (S : Sta) (r : Int) (c : Int) (v : Int) : M_fits S r c v = 0 ∨ M_fits S r c v = 1 := by
  unfold M_fits
  repeat (first | (exact Or.inl rfl) | (exact Or.inr rfl) | split)
set_option maxRecDepth 100000 in
theorem c_M_fits {l : Launch} {K : KK} {N : Int} (q : Nat → Nat) (S : Sta) (r : Int) (c : Int) (v : Int) (hI : InvW N S) (hp1 : 0 ≤ r ∧ r < 30) (hp2 : 0 ≤ c ∧ c < 16) (hp3 : ok32 v) : CtI l yX3_fits cX3_fits 4 .boolean (0, 0) K [.ref (q 0), .int (iI r), .int (iI c), .int (iI v)] (wM K q S) (M_fits S r c v) (wM K q S) := by
  refine ctI_of (by decide) (Nat.le_of_ble_eq_true rfl) (narrow_bool (M_fits_01 S r c v)) ?_
  intro x X hD hR
  have hD : ∀ S9 : Sta, va_D (cx_A x) (wM K q S9) := fun S9 => va_D_same hD rfl
  have hs1 := InvM_s1 hI
  have hs2 := InvM_s2 hI
  have hs3 := InvM_s3 hI
  have hs4 := InvM_s4 hI
  refine gx_aload_n X dX3_fits_0 rfl 0 rfl ?_
  refine gM_r16 X dX3_fits_1 ?_
  refine gx_bipush (z := 16) X dX3_fits_4 (by decide) ?_
  refine gx_iload_n X dX3_fits_6 rfl 1 rfl ?_
  refine gx_imul X dX3_fits_7 ?_
  refine gx_iload_n X dX3_fits_8 rfl 2 rfl ?_
  refine gx_iadd X dX3_fits_9 ?_
  refine gM_l16 (v := (S.2 16 ((16 * r) + c))) X (by omega) rfl dX3_fits_10 ?_
  have hr10 := InvM_a16 hI ((16 * r) + c)
  refine gx_bipush (z := (-99)) X dX3_fits_11 (by decide) ?_
  have J36 : ∀ (m36 : Int), m36 = (if (S.2 16 ((16 * r) + c)) = (-99) then 1 else if (S.2 16 ((16 * r) + c)) = v then 1 else 0) → GG l (rmK (0, 0)) K x (wM K q S) 36 [(0, .ref (q 0)), (1, .int (iI r)), (2, .int (iI c)), (3, .int (iI v))] [.int (iI m36)] := by
    intro m36 e_m36
    exact gx_iret hR (e_m36.symm) rfl dX3_fits_36
  refine gx_icmp_eq (tgt := 31) X dX3_fits_13 (by decide) (by omega) (fun hc13 => ?_) (fun hc13 => ?_)
  · refine gx_iconst (z := 1) X dX3_fits_31 rfl ?_
    refine gx_goto (tgt := 36) X dX3_fits_32 (by decide) ?_
    refine gx_sub [0, 1, 2, 3] rfl ?_
    exact J36 1 ((if_pos hc13).symm) 
  · refine gx_aload_n X dX3_fits_16 rfl 0 rfl ?_
    refine gM_r16 X dX3_fits_17 ?_
    refine gx_bipush (z := 16) X dX3_fits_20 (by decide) ?_
    refine gx_iload_n X dX3_fits_22 rfl 1 rfl ?_
    refine gx_imul X dX3_fits_23 ?_
    refine gx_iload_n X dX3_fits_24 rfl 2 rfl ?_
    refine gx_iadd X dX3_fits_25 ?_
    refine gM_l16 (v := (S.2 16 ((16 * r) + c))) X (by omega) rfl dX3_fits_26 ?_
    refine gx_iload_n X dX3_fits_27 rfl 3 rfl ?_
    refine gx_icmp_ne (tgt := 35) X dX3_fits_28 (by decide) (by omega) (fun hc28 => ?_) (fun hc28 => ?_)
    · refine gx_iconst (z := 0) X dX3_fits_35 rfl ?_
      refine gx_sub [0, 1, 2, 3] rfl ?_
      exact J36 0 (((if_neg hc13).trans (if_neg hc28)).symm) 
    · refine gx_iconst (z := 1) X dX3_fits_31 rfl ?_
      refine gx_goto (tgt := 36) X dX3_fits_32 (by decide) ?_
      refine gx_sub [0, 1, 2, 3] rfl ?_
      exact J36 1 (((if_neg hc13).trans (if_pos hc28)).symm) 
def M_seenRows (S : Sta) : Int := if (S.1 2) ≤ (S.1 3) then (S.1 2) else (S.1 3)
theorem M_seenRows_sp (S : Sta) : M_seenRows S ≤ S.1 2 ∧ M_seenRows S ≤ S.1 3 ∧ (M_seenRows S = S.1 2 ∨ M_seenRows S = S.1 3) := by
  unfold M_seenRows
  split <;> omega
set_option maxRecDepth 100000 in
theorem c_M_seenRows {l : Launch} {K : KK} {N : Int} (q : Nat → Nat) (S : Sta) (hI : InvW N S) : CtI l yX3_seenRows cX3_seenRows 1 .int (0, 0) K [.ref (q 0)] (wM K q S) (M_seenRows S) (wM K q S) := by
  refine ctI_of (by decide) (Nat.le_of_ble_eq_true rfl) rfl ?_
  intro x X hD hR
  have hD : ∀ S9 : Sta, va_D (cx_A x) (wM K q S9) := fun S9 => va_D_same hD rfl
  have hs1 := InvM_s1 hI
  have hs2 := InvM_s2 hI
  have hs3 := InvM_s3 hI
  have hs4 := InvM_s4 hI
  refine gx_aload_n X dX3_seenRows_0 rfl 0 rfl ?_
  refine gM_g3 (v := (S.1 3)) X rfl dX3_seenRows_1 ?_
  refine gx_aload_n X dX3_seenRows_4 rfl 0 rfl ?_
  refine gM_g2 (v := (S.1 2)) X rfl dX3_seenRows_5 ?_
  have J22 : ∀ (m22 : Int), m22 = (if (S.1 2) ≤ (S.1 3) then (S.1 2) else (S.1 3)) → GG l (rmK (0, 0)) K x (wM K q S) 22 [(0, .ref (q 0))] [.int (iI m22)] := by
    intro m22 e_m22
    exact gx_iret hR (e_m22.symm) rfl dX3_seenRows_22
  refine gx_icmp_ge (tgt := 18) X dX3_seenRows_8 (by decide) (by omega) (fun hc8 => ?_) (fun hc8 => ?_)
  · refine gx_aload_n X dX3_seenRows_18 rfl 0 rfl ?_
    refine gM_g2 (v := (S.1 2)) X rfl dX3_seenRows_19 ?_
    refine gx_sub [0] rfl ?_
    exact J22 (S.1 2) ((if_pos hc8).symm) 
  · refine gx_aload_n X dX3_seenRows_11 rfl 0 rfl ?_
    refine gM_g3 (v := (S.1 3)) X rfl dX3_seenRows_12 ?_
    refine gx_goto (tgt := 22) X dX3_seenRows_15 (by decide) ?_
    refine gx_sub [0] rfl ?_
    exact J22 (S.1 3) ((if_neg hc8).symm) 
def M_isLike_l5 (S : Sta) (p : Int) (r : Int) : Nat → Int → Int → Int
  | 0, v3, v4 => v3
  | fu + 1, v3, v4 => if (S.1 1) ≤ v4 then v3 else (fun (m40 : Int) => M_isLike_l5 S p r fu m40 (v4 + 1)) (if v3 = 0 then 0 else if (M_colourOf S p v4) = (M_colourOf S r v4) then 1 else 0)
theorem M_isLike_l5_s (S : Sta) (p : Int) (r : Int) (fu : Nat) (v3 : Int) (v4 : Int) : M_isLike_l5 S p r (fu + 1) v3 v4 = (if (S.1 1) ≤ v4 then v3 else (fun (m40 : Int) => M_isLike_l5 S p r fu m40 (v4 + 1)) (if v3 = 0 then 0 else if (M_colourOf S p v4) = (M_colourOf S r v4) then 1 else 0)) := rfl
def M_isLike (S : Sta) (p : Int) (r : Int) : Int := (M_isLike_l5 S p r (17) 1 0)
theorem M_isLike_l5_01 (S : Sta) (p r : Int) : ∀ (n : Nat) (v3 v4 : Int), (v3 = 0 ∨ v3 = 1) → (M_isLike_l5 S p r n v3 v4 = 0 ∨ M_isLike_l5 S p r n v3 v4 = 1) := by
  intro n
  induction n with
  | zero => intro v3 v4 h; exact h
  | succ n ih =>
    intro v3 v4 h
    rw [M_isLike_l5_s]
    split
    · exact h
    · refine ih _ _ ?_
      omega
theorem M_isLike_01 (S : Sta) (p r : Int) : M_isLike S p r = 0 ∨ M_isLike S p r = 1 := M_isLike_l5_01 S p r 17 1 0 (Or.inr rfl)
set_option maxRecDepth 100000 in
theorem c_M_isLike {l : Launch} {K : KK} {N : Int} (q : Nat → Nat) (S : Sta) (p : Int) (r : Int) (hI : InvW N S) (hp1 : 0 ≤ p ∧ p < 60) (hp2 : 0 ≤ r ∧ r < 60) : CtI l yX3_isLike cX3_isLike 5 .boolean (1, 22) K [.ref (q 0), .int (iI p), .int (iI r)] (wM K q S) (M_isLike S p r) (wM K q S) := by
  refine ctI_of (by decide) (Nat.le_of_ble_eq_true rfl) (narrow_bool (M_isLike_01 S p r)) ?_
  intro x X hD hR
  have hD : ∀ S9 : Sta, va_D (cx_A x) (wM K q S9) := fun S9 => va_D_same hD rfl
  have hs1 := InvM_s1 hI
  have hs2 := InvM_s2 hI
  have hs3 := InvM_s3 hI
  have hs4 := InvM_s4 hI
  refine gx_iconst (z := 1) X dX3_isLike_0 rfl ?_
  refine gx_istore_n X dX3_isLike_1 rfl (by decide) rfl ?_
  refine gx_iconst (z := 0) X dX3_isLike_2 rfl ?_
  refine gx_istore X dX3_isLike_3 (by decide) rfl ?_
  have L5 : ∀ (fu : Nat) (v3 : Int) (v4 : Int), (0 ≤ v4) → (v4 ≤ (S.1 1)) → (0 ≤ v3 ∧ v3 ≤ 1) → ((S.1 1) - v4) < (fu : Int) → (∀ z5 : Int, M_isLike_l5 S p r fu v3 v4 = z5 → True → GG l (rmK (1, 22)) K x (wM K q S) 47 [(0, .ref (q 0)), (1, .int (iI p)), (2, .int (iI r)), (3, .int (iI z5))] []) → GG l (rmK (1, 22)) K x (wM K q S) 5 [(0, .ref (q 0)), (1, .int (iI p)), (2, .int (iI r)), (3, .int (iI v3)), (4, .int (iI v4))] [] := by
    intro fu
    induction fu with
    | zero => intro v3 v4 hi5_0 hi5_1 hi5_2 hm5 K5; exact absurd hm5 (by omega)
    | succ fu ih =>
      intro v3 v4 hi5_0 hi5_1 hi5_2 hm5 K5
      refine gx_iload X dX3_isLike_5 4 rfl ?_
      refine gx_aload_n X dX3_isLike_7 rfl 0 rfl ?_
      refine gM_g1 (v := (S.1 1)) X rfl dX3_isLike_8 ?_
      refine gx_icmp_ge (tgt := 47) X dX3_isLike_11 (by decide) (by omega) (fun hc11 => ?_) (fun hc11 => ?_)
      · refine gx_sub [0, 1, 2, 3] rfl ?_
        exact K5 v3 ((M_isLike_l5_s S p r fu v3 v4).trans (if_pos hc11)) trivial
      · refine gx_iload_n X dX3_isLike_14 rfl 3 rfl ?_
        have J40 : ∀ (m40 : Int), m40 = (if v3 = 0 then 0 else if (M_colourOf S p v4) = (M_colourOf S r v4) then 1 else 0) → GG l (rmK (1, 22)) K x (wM K q S) 40 [(0, .ref (q 0)), (1, .int (iI p)), (2, .int (iI r)), (3, .int (iI v3)), (4, .int (iI v4))] [.int (iI m40)] := by
          intro m40 e_m40
          refine gx_istore_n X dX3_isLike_40 rfl (by decide) rfl ?_
          refine gx_iinc X dX3_isLike_41 4 rfl (by decide) rfl ?_
          refine gx_goto (tgt := 5) X dX3_isLike_44 (by decide) ?_
          refine gx_sub [2, 3, 4, 1, 0] rfl ?_
          subst e_m40
          exact ih _ _ (by omega) (by omega) (by omega) (by omega) (fun z e hx => K5 z ((M_isLike_l5_s S p r fu v3 v4).trans ((if_neg hc11).trans e)) hx)
        refine gx_if_eq (tgt := 39) X dX3_isLike_15 (by decide) (by omega) (fun hc15 => ?_) (fun hc15 => ?_)
        · refine gx_iconst (z := 0) X dX3_isLike_39 rfl ?_
          refine gx_sub [0, 1, 2, 3, 4] rfl ?_
          exact J40 0 ((if_pos hc15).symm) 
        · refine gx_aload_n X dX3_isLike_18 rfl 0 rfl ?_
          refine gx_iload_n X dX3_isLike_19 rfl 1 rfl ?_
          refine gx_iload X dX3_isLike_20 4 rfl ?_
          refine gx_callVI (As := [.int (iI p), .int (iI v4)]) (rest := []) X (hD _) lk_M_124 (ci := 3) rfl rfl 0 rfl (c_M_colourOf q S p v4 hI (by omega) (by omega)) jn_all rfl ⟨by decide, by decide⟩ (Nat.le_of_ble_eq_true rfl) dX3_isLike_22 ?_
          have hp22_0 := M_colourOf_rg S p v4 hI (by omega) (by omega)
          refine gx_aload_n X dX3_isLike_25 rfl 0 rfl ?_
          refine gx_iload_n X dX3_isLike_26 rfl 2 rfl ?_
          refine gx_iload X dX3_isLike_27 4 rfl ?_
          refine gx_callVI (As := [.int (iI r), .int (iI v4)]) (rest := [.int (iI (M_colourOf S p v4))]) X (hD _) lk_M_124 (ci := 3) rfl rfl 0 rfl (c_M_colourOf q S r v4 hI (by omega) (by omega)) jn_all rfl ⟨by decide, by decide⟩ (Nat.le_of_ble_eq_true rfl) dX3_isLike_29 ?_
          have hp29_0 := M_colourOf_rg S r v4 hI (by omega) (by omega)
          refine gx_icmp_ne (tgt := 39) X dX3_isLike_32 (by decide) (by omega) (fun hc32 => ?_) (fun hc32 => ?_)
          · refine gx_iconst (z := 0) X dX3_isLike_39 rfl ?_
            refine gx_sub [0, 1, 2, 3, 4] rfl ?_
            exact J40 0 (((if_neg hc15).trans (if_neg hc32)).symm) 
          · refine gx_iconst (z := 1) X dX3_isLike_35 rfl ?_
            refine gx_goto (tgt := 40) X dX3_isLike_36 (by decide) ?_
            refine gx_sub [0, 1, 2, 3, 4] rfl ?_
            exact J40 1 (((if_neg hc15).trans (if_pos hc32)).symm) 
  refine gx_sub [2, 3, 4, 1, 0] rfl ?_
  refine L5 (17) 1 0 (by omega) (by omega) (by omega) (by omega) (fun z5 e5 hx5 => ?_)
  refine gx_iload_n X dX3_isLike_47 rfl 3 rfl ?_
  exact gx_iret hR (e5) rfl dX3_isLike_48
def M_repeat_l19 (S : Sta) (v1 : Int) : Nat → Int → Int → Int
  | 0, v2, v3 => v2
  | fu + 1, v2, v3 => if (S.1 2) ≤ v3 then v2 else (fun (m47 : Int) => M_repeat_l19 S v1 fu m47 (v3 + 1)) (if v2 = 0 then 0 else if (M_isLike S v3 (v3 - v1)) = 0 then 0 else 1)
theorem M_repeat_l19_s (S : Sta) (v1 : Int) (fu : Nat) (v2 : Int) (v3 : Int) : M_repeat_l19 S v1 (fu + 1) v2 v3 = (if (S.1 2) ≤ v3 then v2 else (fun (m47 : Int) => M_repeat_l19 S v1 fu m47 (v3 + 1)) (if v2 = 0 then 0 else if (M_isLike S v3 (v3 - v1)) = 0 then 0 else 1)) := rfl
def M_repeat_l7 (S : Sta) : Nat → Int → (Int) ⊕ (Unit)
  | 0, v1 => .inr ()
  | fu + 1, v1 => if (S.1 2) < v1 then .inr () else (fun (z19 : Int) => if z19 = 0 then M_repeat_l7 S fu (v1 + 1) else .inl v1) (M_repeat_l19 S v1 (61) 1 v1)
theorem M_repeat_l7_s (S : Sta) (fu : Nat) (v1 : Int) : M_repeat_l7 S (fu + 1) v1 = (if (S.1 2) < v1 then .inr () else (fun (z19 : Int) => if z19 = 0 then M_repeat_l7 S fu (v1 + 1) else .inl v1) (M_repeat_l19 S v1 (61) 1 v1)) := rfl
def M_repeat_r7  : Int := 0
def M_repeat (S : Sta) : Int := Sum.elim id (fun z7 => M_repeat_r7 ) (M_repeat_l7 S (62) 1)
set_option maxRecDepth 100000 in
theorem c_M_repeat {l : Launch} {K : KK} {N : Int} (q : Nat → Nat) (S : Sta) (hI : InvW N S) : CtI l yX3_repeat cX3_repeat 4 .int (2, 46) K [.ref (q 0)] (wM K q S) (M_repeat S) (wM K q S) := by
  refine ctI_of (by decide) (Nat.le_of_ble_eq_true rfl) rfl ?_
  intro x X hD hR
  have hD : ∀ S9 : Sta, va_D (cx_A x) (wM K q S9) := fun S9 => va_D_same hD rfl
  have hs1 := InvM_s1 hI
  have hs2 := InvM_s2 hI
  have hs3 := InvM_s3 hI
  have hs4 := InvM_s4 hI
  refine gx_aload_n X dX3_repeat_0 rfl 0 rfl ?_
  refine gx_iconst (z := 0) X dX3_repeat_1 rfl ?_
  refine gM_t0 X (hD _) (InvM_t hI) dX3_repeat_2 ?_
  refine gx_iconst (z := 1) X dX3_repeat_5 rfl ?_
  refine gx_istore_n X dX3_repeat_6 rfl (by decide) rfl ?_
  have L7 : ∀ (fu : Nat) (v1 : Int), (1 ≤ v1) → (v1 ≤ ((S.1 2) + 1)) → (((S.1 2) + 1) - v1) < (fu : Int) → (∀ z7 : Unit, M_repeat_l7 S fu v1 = .inr z7 → True → GG l (rmK (2, 46)) K x (wM K q S) 66 [(0, .ref (q 0))] []) → (∀ zz : Int, M_repeat_l7 S fu v1 = .inl zz → M_repeat S = zz) → GG l (rmK (2, 46)) K x (wM K q S) 7 [(0, .ref (q 0)), (1, .int (iI v1))] [] := by
    intro fu
    induction fu with
    | zero => intro v1 hi7_0 hi7_1 hm7 K7 KR7; exact absurd hm7 (by omega)
    | succ fu ih =>
      intro v1 hi7_0 hi7_1 hm7 K7 KR7
      refine gx_iload_n X dX3_repeat_7 rfl 1 rfl ?_
      refine gx_aload_n X dX3_repeat_8 rfl 0 rfl ?_
      refine gM_g2 (v := (S.1 2)) X rfl dX3_repeat_9 ?_
      refine gx_icmp_gt (tgt := 66) X dX3_repeat_12 (by decide) (by omega) (fun hc12 => ?_) (fun hc12 => ?_)
      · refine gx_sub [0] rfl ?_
        exact K7 () ((M_repeat_l7_s S fu v1).trans (if_pos hc12)) trivial
      · refine gx_iconst (z := 1) X dX3_repeat_15 rfl ?_
        refine gx_istore_n X dX3_repeat_16 rfl (by decide) rfl ?_
        refine gx_iload_n X dX3_repeat_17 rfl 2 rfl ?_
        refine gx_istore_n X dX3_repeat_18 rfl (by decide) rfl ?_
        have L19 : ∀ (fu : Nat) (v2 : Int) (v3 : Int), (v1 ≤ v3) → (v3 ≤ (S.1 2)) → (0 ≤ v2 ∧ v2 ≤ 1) → ((S.1 2) - v3) < (fu : Int) → (∀ z19 : Int, M_repeat_l19 S v1 fu v2 v3 = z19 → (0 ≤ z19 ∧ z19 ≤ 1) → GG l (rmK (2, 46)) K x (wM K q S) 54 [(0, .ref (q 0)), (1, .int (iI v1)), (2, .int (iI z19))] []) → GG l (rmK (2, 46)) K x (wM K q S) 19 [(0, .ref (q 0)), (1, .int (iI v1)), (2, .int (iI v2)), (3, .int (iI v3))] [] := by
          intro fu
          induction fu with
          | zero => intro v2 v3 hi19_0 hi19_1 hi19_2 hm19 K19; exact absurd hm19 (by omega)
          | succ fu ih =>
            intro v2 v3 hi19_0 hi19_1 hi19_2 hm19 K19
            refine gx_iload_n X dX3_repeat_19 rfl 3 rfl ?_
            refine gx_aload_n X dX3_repeat_20 rfl 0 rfl ?_
            refine gM_g2 (v := (S.1 2)) X rfl dX3_repeat_21 ?_
            refine gx_icmp_ge (tgt := 54) X dX3_repeat_24 (by decide) (by omega) (fun hc24 => ?_) (fun hc24 => ?_)
            · refine gx_sub [0, 1, 2] rfl ?_
              exact K19 v2 ((M_repeat_l19_s S v1 fu v2 v3).trans (if_pos hc24)) (by omega)
            · refine gx_iload_n X dX3_repeat_27 rfl 2 rfl ?_
              have J47 : ∀ (m47 : Int), m47 = (if v2 = 0 then 0 else if (M_isLike S v3 (v3 - v1)) = 0 then 0 else 1) → GG l (rmK (2, 46)) K x (wM K q S) 47 [(0, .ref (q 0)), (1, .int (iI v1)), (2, .int (iI v2)), (3, .int (iI v3))] [.int (iI m47)] := by
                intro m47 e_m47
                refine gx_istore_n X dX3_repeat_47 rfl (by decide) rfl ?_
                refine gx_iinc X dX3_repeat_48 3 rfl (by decide) rfl ?_
                refine gx_goto (tgt := 19) X dX3_repeat_51 (by decide) ?_
                refine gx_sub [2, 3, 1, 0] rfl ?_
                subst e_m47
                exact ih _ _ (by omega) (by omega) (by omega) (by omega) (fun z e hx => K19 z ((M_repeat_l19_s S v1 fu v2 v3).trans ((if_neg hc24).trans e)) hx)
              refine gx_if_eq (tgt := 46) X dX3_repeat_28 (by decide) (by omega) (fun hc28 => ?_) (fun hc28 => ?_)
              · refine gx_iconst (z := 0) X dX3_repeat_46 rfl ?_
                refine gx_sub [0, 1, 2, 3] rfl ?_
                exact J47 0 ((if_pos hc28).symm) 
              · refine gx_aload_n X dX3_repeat_31 rfl 0 rfl ?_
                refine gx_iload_n X dX3_repeat_32 rfl 3 rfl ?_
                refine gx_iload_n X dX3_repeat_33 rfl 3 rfl ?_
                refine gx_iload_n X dX3_repeat_34 rfl 1 rfl ?_
                refine gx_isub X dX3_repeat_35 ?_
                refine gx_callVI (As := [.int (iI v3), .int (iI (v3 - v1))]) (rest := []) X (hD _) lk_M_127 (ci := 3) rfl rfl 0 rfl (c_M_isLike q S v3 (v3 - v1) hI (by omega) (by omega)) jn_all rfl ⟨by decide, by decide⟩ (Nat.le_of_ble_eq_true rfl) dX3_repeat_36 ?_
                have hq36_0 := M_isLike_01 S v3 (v3 - v1)
                refine gx_if_eq (tgt := 46) X dX3_repeat_39 (by decide) (by omega) (fun hc39 => ?_) (fun hc39 => ?_)
                · refine gx_iconst (z := 0) X dX3_repeat_46 rfl ?_
                  refine gx_sub [0, 1, 2, 3] rfl ?_
                  exact J47 0 (((if_neg hc28).trans (if_pos hc39)).symm) 
                · refine gx_iconst (z := 1) X dX3_repeat_42 rfl ?_
                  refine gx_goto (tgt := 47) X dX3_repeat_43 (by decide) ?_
                  refine gx_sub [0, 1, 2, 3] rfl ?_
                  exact J47 1 (((if_neg hc28).trans (if_neg hc39)).symm) 
        refine gx_sub [2, 3, 1, 0] rfl ?_
        refine L19 (61) 1 v1 (by omega) (by omega) (by omega) (by omega) (fun z19 e19 hx19 => ?_)
        refine gx_iload_n X dX3_repeat_54 rfl 2 rfl ?_
        refine gx_if_eq (tgt := 60) X dX3_repeat_55 (by decide) (by omega) (fun hc55 => ?_) (fun hc55 => ?_)
        · refine gx_iinc X dX3_repeat_60 1 rfl (by decide) rfl ?_
          refine gx_goto (tgt := 7) X dX3_repeat_63 (by decide) ?_
          refine gx_sub [1, 0] rfl ?_
          subst e19
          exact ih _ (by omega) (by omega) (by omega) (fun z e hx => K7 z ((M_repeat_l7_s S fu v1).trans (((if_neg hc12).trans (if_pos hc55)).trans e)) hx) (fun z e => KR7 z ((M_repeat_l7_s S fu v1).trans (((if_neg hc12).trans (if_pos hc55)).trans e)))
        · refine gx_iload_n X dX3_repeat_58 rfl 1 rfl ?_
          subst e19
          exact gx_iret hR (KR7 _ ((M_repeat_l7_s S fu v1).trans ((if_neg hc12).trans (if_neg hc55)))) rfl dX3_repeat_59
  refine gx_sub [1, 0] rfl ?_
  refine L7 (62) 1 (by omega) (by omega) (by omega) (fun z7 e7 hx7 => ?_) (fun z e => congrArg (Sum.elim id (fun z7 => M_repeat_r7 )) e)
  refine gx_iconst (z := 0) X dX3_repeat_66 rfl ?_
  exact gx_iret hR (congrArg (Sum.elim id (fun z7 => M_repeat_r7 )) e7) rfl dX3_repeat_67
def M_is_l33 (S : Sta) (w : Int) (v3 : Int) : Nat → Int → Int → Int
  | 0, v2', v4 => v2'
  | fu + 1, v2', v4 => if (S.1 1) ≤ v4 then v2' else (fun (m89 : Int) => M_is_l33 S w v3 fu m89 (v4 + 1)) (if v2' = 0 then 0 else if (M_colourOf S v3 v4) = ((if w = 0 then (M_colourOf S v3 (((S.1 1) - 1) - v4)) else (M_behindOf S v3 v4)) : Int) then 1 else 0)
theorem M_is_l33_s (S : Sta) (w : Int) (v3 : Int) (fu : Nat) (v2' : Int) (v4 : Int) : M_is_l33 S w v3 (fu + 1) v2' v4 = (if (S.1 1) ≤ v4 then v2' else (fun (m89 : Int) => M_is_l33 S w v3 fu m89 (v4 + 1)) (if v2' = 0 then 0 else if (M_colourOf S v3 v4) = ((if w = 0 then (M_colourOf S v3 (((S.1 1) - 1) - v4)) else (M_behindOf S v3 v4)) : Int) then 1 else 0)) := rfl
def M_is_l22 (S : Sta) (w : Int) : Nat → Int → Int → Int
  | 0, v2, v3 => v2
  | fu + 1, v2, v3 => if (S.1 2) ≤ v3 then v2 else (fun (z33 : Int) => M_is_l22 S w fu z33 (v3 + 1)) (M_is_l33 S w v3 (17) v2 0)
theorem M_is_l22_s (S : Sta) (w : Int) (fu : Nat) (v2 : Int) (v3 : Int) : M_is_l22 S w (fu + 1) v2 v3 = (if (S.1 2) ≤ v3 then v2 else (fun (z33 : Int) => M_is_l22 S w fu z33 (v3 + 1)) (M_is_l33 S w v3 (17) v2 0)) := rfl
def M_is_r22 (z22 : Int) : Int := if z22 = 0 then 0 else 1
def M_is (S : Sta) (w : Int) : Int := if (M_in w 0 1) = 0 then (-2) else (fun z22 => M_is_r22 z22) (M_is_l22 S w (61) 1 0)
set_option maxRecDepth 100000 in
theorem c_M_is {l : Launch} {K : KK} {N : Int} (q : Nat → Nat) (S : Sta) (w : Int) (hI : InvW N S) (hp1 : ok32 w) : CtI l yX3_is cX3_is 5 .int (1, 25) K [.ref (q 0), .int (iI w)] (wM K q S) (M_is S w) (wM K q S) := by
  refine ctI_of (by decide) (Nat.le_of_ble_eq_true rfl) rfl ?_
  intro x X hD hR
  have hD : ∀ S9 : Sta, va_D (cx_A x) (wM K q S9) := fun S9 => va_D_same hD rfl
  have hs1 := InvM_s1 hI
  have hs2 := InvM_s2 hI
  have hs3 := InvM_s3 hI
  have hs4 := InvM_s4 hI
  refine gx_aload_n X dX3_is_0 rfl 0 rfl ?_
  refine gx_iconst (z := 0) X dX3_is_1 rfl ?_
  refine gM_t0 X (hD _) (InvM_t hI) dX3_is_2 ?_
  refine gx_iload_n X dX3_is_5 rfl 1 rfl ?_
  refine gx_i2l X dX3_is_6 (by omega) ?_
  refine gx_lconst (v := lI 0) X dX3_is_7 rfl ?_
  refine gx_lconst (v := lI 1) X dX3_is_8 rfl ?_
  refine gx_callSI (As := [.long (lI w), .long (lI 0), .long (lI 1)]) (rest := []) X (hD _) lk_M_88 (c_M_in w 0 1 (by omega) (by omega) (by omega)) jn_nil rfl ⟨by decide, by decide⟩ (Nat.le_of_ble_eq_true rfl) dX3_is_9 ?_
  have hq9_0 := M_in_sp w 0 1
  refine gx_if_ne (tgt := 18) X dX3_is_12 (by decide) (by omega) (fun hc12 => ?_) (fun hc12 => ?_)
  · refine gx_iconst (z := 1) X dX3_is_18 rfl ?_
    refine gx_istore_n X dX3_is_19 rfl (by decide) rfl ?_
    refine gx_iconst (z := 0) X dX3_is_20 rfl ?_
    refine gx_istore_n X dX3_is_21 rfl (by decide) rfl ?_
    have L22 : ∀ (fu : Nat) (v2 : Int) (v3 : Int), (0 ≤ v3) → (v3 ≤ (S.1 2)) → (0 ≤ v2 ∧ v2 ≤ 1) → ((S.1 2) - v3) < (fu : Int) → (∀ z22 : Int, M_is_l22 S w fu v2 v3 = z22 → (0 ≤ z22 ∧ z22 ≤ 1) → GG l (rmK (1, 25)) K x (wM K q S) 102 [(0, .ref (q 0)), (1, .int (iI w)), (2, .int (iI z22))] []) → GG l (rmK (1, 25)) K x (wM K q S) 22 [(0, .ref (q 0)), (1, .int (iI w)), (2, .int (iI v2)), (3, .int (iI v3))] [] := by
      intro fu
      induction fu with
      | zero => intro v2 v3 hi22_0 hi22_1 hi22_2 hm22 K22; exact absurd hm22 (by omega)
      | succ fu ih =>
        intro v2 v3 hi22_0 hi22_1 hi22_2 hm22 K22
        refine gx_iload_n X dX3_is_22 rfl 3 rfl ?_
        refine gx_aload_n X dX3_is_23 rfl 0 rfl ?_
        refine gM_g2 (v := (S.1 2)) X rfl dX3_is_24 ?_
        refine gx_icmp_ge (tgt := 102) X dX3_is_27 (by decide) (by omega) (fun hc27 => ?_) (fun hc27 => ?_)
        · refine gx_sub [0, 1, 2] rfl ?_
          exact K22 v2 ((M_is_l22_s S w fu v2 v3).trans (if_pos hc27)) (by omega)
        · refine gx_iconst (z := 0) X dX3_is_30 rfl ?_
          refine gx_istore X dX3_is_31 (by decide) rfl ?_
          have L33 : ∀ (fu : Nat) (v2' : Int) (v4 : Int), (0 ≤ v4) → (v4 ≤ (S.1 1)) → (0 ≤ v2' ∧ v2' ≤ 1) → ((S.1 1) - v4) < (fu : Int) → (∀ z33 : Int, M_is_l33 S w v3 fu v2' v4 = z33 → (0 ≤ z33 ∧ z33 ≤ 1) → GG l (rmK (1, 25)) K x (wM K q S) 96 [(0, .ref (q 0)), (1, .int (iI w)), (2, .int (iI z33)), (3, .int (iI v3))] []) → GG l (rmK (1, 25)) K x (wM K q S) 33 [(0, .ref (q 0)), (1, .int (iI w)), (2, .int (iI v2')), (3, .int (iI v3)), (4, .int (iI v4))] [] := by
            intro fu
            induction fu with
            | zero => intro v2' v4 hi33_0 hi33_1 hi33_2 hm33 K33; exact absurd hm33 (by omega)
            | succ fu ih =>
              intro v2' v4 hi33_0 hi33_1 hi33_2 hm33 K33
              refine gx_iload X dX3_is_33 4 rfl ?_
              refine gx_aload_n X dX3_is_35 rfl 0 rfl ?_
              refine gM_g1 (v := (S.1 1)) X rfl dX3_is_36 ?_
              refine gx_icmp_ge (tgt := 96) X dX3_is_39 (by decide) (by omega) (fun hc39 => ?_) (fun hc39 => ?_)
              · refine gx_sub [0, 1, 2, 3] rfl ?_
                exact K33 v2' ((M_is_l33_s S w v3 fu v2' v4).trans (if_pos hc39)) (by omega)
              · refine gx_iload_n X dX3_is_42 rfl 2 rfl ?_
                have J89 : ∀ (m89 : Int), m89 = (if v2' = 0 then 0 else if (M_colourOf S v3 v4) = ((if w = 0 then (M_colourOf S v3 (((S.1 1) - 1) - v4)) else (M_behindOf S v3 v4)) : Int) then 1 else 0) → GG l (rmK (1, 25)) K x (wM K q S) 89 [(0, .ref (q 0)), (1, .int (iI w)), (2, .int (iI v2')), (3, .int (iI v3)), (4, .int (iI v4))] [.int (iI m89)] := by
                  intro m89 e_m89
                  refine gx_istore_n X dX3_is_89 rfl (by decide) rfl ?_
                  refine gx_iinc X dX3_is_90 4 rfl (by decide) rfl ?_
                  refine gx_goto (tgt := 33) X dX3_is_93 (by decide) ?_
                  refine gx_sub [2, 3, 1, 4, 0] rfl ?_
                  subst e_m89
                  exact ih _ _ (by omega) (by omega) (by omega) (by omega) (fun z e hx => K33 z ((M_is_l33_s S w v3 fu v2' v4).trans ((if_neg hc39).trans e)) hx)
                refine gx_if_eq (tgt := 88) X dX3_is_43 (by decide) (by omega) (fun hc43 => ?_) (fun hc43 => ?_)
                · refine gx_iconst (z := 0) X dX3_is_88 rfl ?_
                  refine gx_sub [0, 1, 2, 3, 4] rfl ?_
                  exact J89 0 ((if_pos hc43).symm) 
                · refine gx_aload_n X dX3_is_46 rfl 0 rfl ?_
                  refine gx_iload_n X dX3_is_47 rfl 3 rfl ?_
                  refine gx_iload X dX3_is_48 4 rfl ?_
                  refine gx_callVI (As := [.int (iI v3), .int (iI v4)]) (rest := []) X (hD _) lk_M_124 (ci := 3) rfl rfl 0 rfl (c_M_colourOf q S v3 v4 hI (by omega) (by omega)) jn_all rfl ⟨by decide, by decide⟩ (Nat.le_of_ble_eq_true rfl) dX3_is_50 ?_
                  have hp50_0 := M_colourOf_rg S v3 v4 hI (by omega) (by omega)
                  refine gx_iload_n X dX3_is_53 rfl 1 rfl ?_
                  have J81 : ∀ (m81 : Int), m81 = (if w = 0 then (M_colourOf S v3 (((S.1 1) - 1) - v4)) else (M_behindOf S v3 v4)) → (0 ≤ m81 ∧ m81 ≤ 7) → GG l (rmK (1, 25)) K x (wM K q S) 81 [(0, .ref (q 0)), (1, .int (iI w)), (2, .int (iI v2')), (3, .int (iI v3)), (4, .int (iI v4))] [.int (iI m81), .int (iI (M_colourOf S v3 v4))] := by
                    intro m81 e_m81 hf81_0
                    refine gx_icmp_ne (tgt := 88) X dX3_is_81 (by decide) (by omega) (fun hc81 => ?_) (fun hc81 => ?_)
                    · refine gx_iconst (z := 0) X dX3_is_88 rfl ?_
                      refine gx_sub [0, 1, 2, 3, 4] rfl ?_
                      subst e_m81
                      exact J89 _ (((if_neg hc43).trans (if_neg hc81)).symm) 
                    · refine gx_iconst (z := 1) X dX3_is_84 rfl ?_
                      refine gx_goto (tgt := 89) X dX3_is_85 (by decide) ?_
                      refine gx_sub [0, 1, 2, 3, 4] rfl ?_
                      subst e_m81
                      exact J89 _ (((if_neg hc43).trans (if_pos hc81)).symm) 
                  refine gx_if_ne (tgt := 74) X dX3_is_54 (by decide) (by omega) (fun hc54 => ?_) (fun hc54 => ?_)
                  · refine gx_aload_n X dX3_is_74 rfl 0 rfl ?_
                    refine gx_iload_n X dX3_is_75 rfl 3 rfl ?_
                    refine gx_iload X dX3_is_76 4 rfl ?_
                    refine gx_callVI (As := [.int (iI v3), .int (iI v4)]) (rest := [.int (iI (M_colourOf S v3 v4))]) X (hD _) lk_M_120 (ci := 3) rfl rfl 0 rfl (c_M_behindOf q S v3 v4 hI (by omega) (by omega)) jn_all rfl ⟨by decide, by decide⟩ (Nat.le_of_ble_eq_true rfl) dX3_is_78 ?_
                    have hp78_0 := M_behindOf_rg S v3 v4 hI (by omega) (by omega)
                    refine gx_sub [0, 1, 2, 3, 4] rfl ?_
                    exact J81 (M_behindOf S v3 v4) ((if_neg hc54).symm) (by omega)
                  · refine gx_aload_n X dX3_is_57 rfl 0 rfl ?_
                    refine gx_iload_n X dX3_is_58 rfl 3 rfl ?_
                    refine gx_aload_n X dX3_is_59 rfl 0 rfl ?_
                    refine gM_g1 (v := (S.1 1)) X rfl dX3_is_60 ?_
                    refine gx_iconst (z := 1) X dX3_is_63 rfl ?_
                    refine gx_isub X dX3_is_64 ?_
                    refine gx_iload X dX3_is_65 4 rfl ?_
                    refine gx_isub X dX3_is_67 ?_
                    refine gx_callVI (As := [.int (iI v3), .int (iI (((S.1 1) - 1) - v4))]) (rest := [.int (iI (M_colourOf S v3 v4))]) X (hD _) lk_M_124 (ci := 3) rfl rfl 0 rfl (c_M_colourOf q S v3 (((S.1 1) - 1) - v4) hI (by omega) (by omega)) jn_all rfl ⟨by decide, by decide⟩ (Nat.le_of_ble_eq_true rfl) dX3_is_68 ?_
                    have hp68_0 := M_colourOf_rg S v3 (((S.1 1) - 1) - v4) hI (by omega) (by omega)
                    refine gx_goto (tgt := 81) X dX3_is_71 (by decide) ?_
                    refine gx_sub [0, 1, 2, 3, 4] rfl ?_
                    exact J81 (M_colourOf S v3 (((S.1 1) - 1) - v4)) ((if_pos hc54).symm) (by omega)
          refine gx_sub [1, 2, 3, 4, 0] rfl ?_
          refine L33 (17) v2 0 (by omega) (by omega) (by omega) (by omega) (fun z33 e33 hx33 => ?_)
          refine gx_iinc X dX3_is_96 3 rfl (by decide) rfl ?_
          refine gx_goto (tgt := 22) X dX3_is_99 (by decide) ?_
          refine gx_sub [1, 2, 3, 0] rfl ?_
          subst e33
          exact ih _ _ (by omega) (by omega) (by omega) (by omega) (fun z e hx => K22 z ((M_is_l22_s S w fu v2 v3).trans ((if_neg hc27).trans e)) hx)
    refine gx_sub [2, 3, 1, 0] rfl ?_
    refine L22 (61) 1 0 (by omega) (by omega) (by omega) (by omega) (fun z22 e22 hx22 => ?_)
    refine gx_iload_n X dX3_is_102 rfl 2 rfl ?_
    have J111 : ∀ (m111 : Int), m111 = (if z22 = 0 then 0 else 1) → GG l (rmK (1, 25)) K x (wM K q S) 111 [(0, .ref (q 0)), (1, .int (iI w)), (2, .int (iI z22))] [.int (iI m111)] := by
      intro m111 e_m111
      exact gx_iret hR ((if_neg hc12).trans ((congrArg (fun z22 => M_is_r22 z22) e22).trans (e_m111.symm))) rfl dX3_is_111
    refine gx_if_eq (tgt := 110) X dX3_is_103 (by decide) (by omega) (fun hc103 => ?_) (fun hc103 => ?_)
    · refine gx_iconst (z := 0) X dX3_is_110 rfl ?_
      refine gx_sub [0, 1, 2] rfl ?_
      exact J111 0 ((if_pos hc103).symm) 
    · refine gx_iconst (z := 1) X dX3_is_106 rfl ?_
      refine gx_goto (tgt := 111) X dX3_is_107 (by decide) ?_
      refine gx_sub [0, 1, 2] rfl ?_
      exact J111 1 ((if_neg hc103).symm) 
  · refine gx_bipush (z := (-2)) X dX3_is_15 (by decide) ?_
    exact gx_iret hR (if_pos hc12) rfl dX3_is_17
def M_rows_l22 (S : Sta) (v2 : Int) : Nat → Int → Int → Int
  | 0, v3, v4 => v3
  | fu + 1, v3, v4 => if v2 ≤ v4 then v3 else (fun (m47 : Int) => M_rows_l22 S v2 fu m47 (v4 + 1)) (if v3 = 0 then 0 else if (M_isLike S v2 v4) = 0 then 1 else 0)
theorem M_rows_l22_s (S : Sta) (v2 : Int) (fu : Nat) (v3 : Int) (v4 : Int) : M_rows_l22 S v2 (fu + 1) v3 v4 = (if v2 ≤ v4 then v3 else (fun (m47 : Int) => M_rows_l22 S v2 fu m47 (v4 + 1)) (if v3 = 0 then 0 else if (M_isLike S v2 v4) = 0 then 1 else 0)) := rfl
def M_rows_l9 (S : Sta) : Nat → Int → Int → Int
  | 0, v1, v2 => v1
  | fu + 1, v1, v2 => if (S.1 2) ≤ v2 then v1 else (fun (z22 : Int) => (fun (m64 : Int) => M_rows_l9 S fu (v1 + m64) (v2 + 1)) (if z22 = 0 then 0 else 1)) (M_rows_l22 S v2 (61) 1 0)
theorem M_rows_l9_s (S : Sta) (fu : Nat) (v1 : Int) (v2 : Int) : M_rows_l9 S (fu + 1) v1 v2 = (if (S.1 2) ≤ v2 then v1 else (fun (z22 : Int) => (fun (m64 : Int) => M_rows_l9 S fu (v1 + m64) (v2 + 1)) (if z22 = 0 then 0 else 1)) (M_rows_l22 S v2 (61) 1 0)) := rfl
def M_rows (S : Sta) : Int := (M_rows_l9 S (61) 0 0)
set_option maxRecDepth 100000 in
theorem c_M_rows {l : Launch} {K : KK} {N : Int} (q : Nat → Nat) (S : Sta) (hI : InvW N S) : CtI l yX3_rows cX3_rows 5 .int (2, 46) K [.ref (q 0)] (wM K q S) (M_rows S) (wM K q S) := by
  refine ctI_of (by decide) (Nat.le_of_ble_eq_true rfl) rfl ?_
  intro x X hD hR
  have hD : ∀ S9 : Sta, va_D (cx_A x) (wM K q S9) := fun S9 => va_D_same hD rfl
  have hs1 := InvM_s1 hI
  have hs2 := InvM_s2 hI
  have hs3 := InvM_s3 hI
  have hs4 := InvM_s4 hI
  refine gx_aload_n X dX3_rows_0 rfl 0 rfl ?_
  refine gx_iconst (z := 0) X dX3_rows_1 rfl ?_
  refine gM_t0 X (hD _) (InvM_t hI) dX3_rows_2 ?_
  refine gx_iconst (z := 0) X dX3_rows_5 rfl ?_
  refine gx_istore_n X dX3_rows_6 rfl (by decide) rfl ?_
  refine gx_iconst (z := 0) X dX3_rows_7 rfl ?_
  refine gx_istore_n X dX3_rows_8 rfl (by decide) rfl ?_
  have L9 : ∀ (fu : Nat) (v1 : Int) (v2 : Int), (0 ≤ v2) → (v2 ≤ (S.1 2)) → ((S.1 2) - v2) < (fu : Int) → (∀ z9 : Int, M_rows_l9 S fu v1 v2 = z9 → True → GG l (rmK (2, 46)) K x (wM K q S) 72 [(0, .ref (q 0)), (1, .int (iI z9))] []) → GG l (rmK (2, 46)) K x (wM K q S) 9 [(0, .ref (q 0)), (1, .int (iI v1)), (2, .int (iI v2))] [] := by
    intro fu
    induction fu with
    | zero => intro v1 v2 hi9_0 hi9_1 hm9 K9; exact absurd hm9 (by omega)
    | succ fu ih =>
      intro v1 v2 hi9_0 hi9_1 hm9 K9
      refine gx_iload_n X dX3_rows_9 rfl 2 rfl ?_
      refine gx_aload_n X dX3_rows_10 rfl 0 rfl ?_
      refine gM_g2 (v := (S.1 2)) X rfl dX3_rows_11 ?_
      refine gx_icmp_ge (tgt := 72) X dX3_rows_14 (by decide) (by omega) (fun hc14 => ?_) (fun hc14 => ?_)
      · refine gx_sub [0, 1] rfl ?_
        exact K9 v1 ((M_rows_l9_s S fu v1 v2).trans (if_pos hc14)) trivial
      · refine gx_iconst (z := 1) X dX3_rows_17 rfl ?_
        refine gx_istore_n X dX3_rows_18 rfl (by decide) rfl ?_
        refine gx_iconst (z := 0) X dX3_rows_19 rfl ?_
        refine gx_istore X dX3_rows_20 (by decide) rfl ?_
        have L22 : ∀ (fu : Nat) (v3 : Int) (v4 : Int), (0 ≤ v4) → (v4 ≤ v2) → (0 ≤ v3 ∧ v3 ≤ 1) → (v2 - v4) < (fu : Int) → (∀ z22 : Int, M_rows_l22 S v2 fu v3 v4 = z22 → (0 ≤ z22 ∧ z22 ≤ 1) → GG l (rmK (2, 46)) K x (wM K q S) 54 [(0, .ref (q 0)), (1, .int (iI v1)), (2, .int (iI v2)), (3, .int (iI z22))] []) → GG l (rmK (2, 46)) K x (wM K q S) 22 [(0, .ref (q 0)), (1, .int (iI v1)), (2, .int (iI v2)), (3, .int (iI v3)), (4, .int (iI v4))] [] := by
          intro fu
          induction fu with
          | zero => intro v3 v4 hi22_0 hi22_1 hi22_2 hm22 K22; exact absurd hm22 (by omega)
          | succ fu ih =>
            intro v3 v4 hi22_0 hi22_1 hi22_2 hm22 K22
            refine gx_iload X dX3_rows_22 4 rfl ?_
            refine gx_iload_n X dX3_rows_24 rfl 2 rfl ?_
            refine gx_icmp_ge (tgt := 54) X dX3_rows_25 (by decide) (by omega) (fun hc25 => ?_) (fun hc25 => ?_)
            · refine gx_sub [0, 1, 2, 3] rfl ?_
              exact K22 v3 ((M_rows_l22_s S v2 fu v3 v4).trans (if_pos hc25)) (by omega)
            · refine gx_iload_n X dX3_rows_28 rfl 3 rfl ?_
              have J47 : ∀ (m47 : Int), m47 = (if v3 = 0 then 0 else if (M_isLike S v2 v4) = 0 then 1 else 0) → GG l (rmK (2, 46)) K x (wM K q S) 47 [(0, .ref (q 0)), (1, .int (iI v1)), (2, .int (iI v2)), (3, .int (iI v3)), (4, .int (iI v4))] [.int (iI m47)] := by
                intro m47 e_m47
                refine gx_istore_n X dX3_rows_47 rfl (by decide) rfl ?_
                refine gx_iinc X dX3_rows_48 4 rfl (by decide) rfl ?_
                refine gx_goto (tgt := 22) X dX3_rows_51 (by decide) ?_
                refine gx_sub [2, 3, 4, 1, 0] rfl ?_
                subst e_m47
                exact ih _ _ (by omega) (by omega) (by omega) (by omega) (fun z e hx => K22 z ((M_rows_l22_s S v2 fu v3 v4).trans ((if_neg hc25).trans e)) hx)
              refine gx_if_eq (tgt := 46) X dX3_rows_29 (by decide) (by omega) (fun hc29 => ?_) (fun hc29 => ?_)
              · refine gx_iconst (z := 0) X dX3_rows_46 rfl ?_
                refine gx_sub [0, 1, 2, 3, 4] rfl ?_
                exact J47 0 ((if_pos hc29).symm) 
              · refine gx_aload_n X dX3_rows_32 rfl 0 rfl ?_
                refine gx_iload_n X dX3_rows_33 rfl 2 rfl ?_
                refine gx_iload X dX3_rows_34 4 rfl ?_
                refine gx_callVI (As := [.int (iI v2), .int (iI v4)]) (rest := []) X (hD _) lk_M_127 (ci := 3) rfl rfl 0 rfl (c_M_isLike q S v2 v4 hI (by omega) (by omega)) jn_all rfl ⟨by decide, by decide⟩ (Nat.le_of_ble_eq_true rfl) dX3_rows_36 ?_
                have hq36_0 := M_isLike_01 S v2 v4
                refine gx_if_ne (tgt := 46) X dX3_rows_39 (by decide) (by omega) (fun hc39 => ?_) (fun hc39 => ?_)
                · refine gx_iconst (z := 0) X dX3_rows_46 rfl ?_
                  refine gx_sub [0, 1, 2, 3, 4] rfl ?_
                  exact J47 0 (((if_neg hc29).trans (if_neg hc39)).symm) 
                · refine gx_iconst (z := 1) X dX3_rows_42 rfl ?_
                  refine gx_goto (tgt := 47) X dX3_rows_43 (by decide) ?_
                  refine gx_sub [0, 1, 2, 3, 4] rfl ?_
                  exact J47 1 (((if_neg hc29).trans (if_pos hc39)).symm) 
        refine gx_sub [2, 3, 4, 1, 0] rfl ?_
        refine L22 (61) 1 0 (by omega) (by omega) (by omega) (by omega) (fun z22 e22 hx22 => ?_)
        refine gx_iload_n X dX3_rows_54 rfl 1 rfl ?_
        refine gx_iload_n X dX3_rows_55 rfl 3 rfl ?_
        have J64 : ∀ (m64 : Int), m64 = (if z22 = 0 then 0 else 1) → GG l (rmK (2, 46)) K x (wM K q S) 64 [(0, .ref (q 0)), (1, .int (iI v1)), (2, .int (iI v2)), (3, .int (iI z22))] [.int (iI m64), .int (iI v1)] := by
          intro m64 e_m64
          refine gx_iadd X dX3_rows_64 ?_
          refine gx_istore_n X dX3_rows_65 rfl (by decide) rfl ?_
          refine gx_iinc X dX3_rows_66 2 rfl (by decide) rfl ?_
          refine gx_goto (tgt := 9) X dX3_rows_69 (by decide) ?_
          refine gx_sub [2, 1, 0] rfl ?_
          subst e22
          subst e_m64
          exact ih _ _ (by omega) (by omega) (by omega) (fun z e hx => K9 z ((M_rows_l9_s S fu v1 v2).trans ((if_neg hc14).trans e)) hx)
        refine gx_if_eq (tgt := 63) X dX3_rows_56 (by decide) (by omega) (fun hc56 => ?_) (fun hc56 => ?_)
        · refine gx_iconst (z := 0) X dX3_rows_63 rfl ?_
          refine gx_sub [0, 1, 2, 3] rfl ?_
          exact J64 0 ((if_pos hc56).symm) 
        · refine gx_iconst (z := 1) X dX3_rows_59 rfl ?_
          refine gx_goto (tgt := 64) X dX3_rows_60 (by decide) ?_
          refine gx_sub [0, 1, 2, 3] rfl ?_
          exact J64 1 ((if_neg hc56).symm) 
  refine gx_sub [2, 1, 0] rfl ?_
  refine L9 (61) 0 0 (by omega) (by omega) (by omega) (fun z9 e9 hx9 => ?_)
  refine gx_iload_n X dX3_rows_72 rfl 1 rfl ?_
  exact gx_iret hR (e9) rfl dX3_rows_73
