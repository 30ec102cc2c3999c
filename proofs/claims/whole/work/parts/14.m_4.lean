def M_worst_l9 (S : Sta) : Nat → Int → Int → Int
  | 0, v2, v3 => v2
  | fu + 1, v2, v3 => if (S.1 1) ≤ v3 then v2 else (fun (m43 : Int) => M_worst_l9 S fu m43 (v3 + 1)) (if (M_size (S.2 4 v3)) ≤ (M_size (S.2 4 v2)) then v2 else v3)
theorem M_worst_l9_s (S : Sta) (fu : Nat) (v2 : Int) (v3 : Int) : M_worst_l9 S (fu + 1) v2 v3 = (if (S.1 1) ≤ v3 then v2 else (fun (m43 : Int) => M_worst_l9 S fu m43 (v3 + 1)) (if (M_size (S.2 4 v3)) ≤ (M_size (S.2 4 v2)) then v2 else v3)) := rfl
def M_worst_r9 (S : Sta) (b : Int) (z9 : Int) : Int := if b = 0 then (M_size (S.2 4 z9)) else z9
def M_worst (S : Sta) (b : Int) : Int := (fun z9 => M_worst_r9 S b z9) (M_worst_l9 S (17) 0 1)
set_option maxRecDepth 100000 in
theorem c_M_worst {l : Launch} {K : KK} {N : Int} (q : Nat → Nat) (S : Sta) (b : Int) (hI : InvW N S) (hT : InvT S) (hp2 : ok32 b) : CtI l yX3_worst cX3_worst 4 .int (1, 20) K [.ref (q 0), .int (iI b)] (wM K q S) (M_worst S b) (wM K q S) := by
  refine ctI_of (by decide) (Nat.le_of_ble_eq_true rfl) rfl ?_
  intro x X hD hR
  have hD : ∀ S9 : Sta, va_D (cx_A x) (wM K q S9) := fun S9 => va_D_same hD rfl
  have hs1 := InvM_s1 hI
  have hs2 := InvM_s2 hI
  have hs3 := InvM_s3 hI
  have hs4 := InvM_s4 hI
  refine gx_aload_n X dX3_worst_0 rfl 0 rfl ?_
  refine gx_iconst (z := 0) X dX3_worst_1 rfl ?_
  refine gM_t0 X (hD _) (InvM_t hI) dX3_worst_2 ?_
  refine gx_iconst (z := 0) X dX3_worst_5 rfl ?_
  refine gx_istore_n X dX3_worst_6 rfl (by decide) rfl ?_
  refine gx_iconst (z := 1) X dX3_worst_7 rfl ?_
  refine gx_istore_n X dX3_worst_8 rfl (by decide) rfl ?_
  have L9 : ∀ (fu : Nat) (v2 : Int) (v3 : Int), (1 ≤ v3) → (v3 ≤ (S.1 1)) → (0 ≤ v2 ∧ v2 < 16) → ((S.1 1) - v3) < (fu : Int) → (∀ z9 : Int, M_worst_l9 S fu v2 v3 = z9 → (0 ≤ z9 ∧ z9 < 16) → GG l (rmK (1, 20)) K x (wM K q S) 50 [(0, .ref (q 0)), (1, .int (iI b)), (2, .int (iI z9))] []) → GG l (rmK (1, 20)) K x (wM K q S) 9 [(0, .ref (q 0)), (1, .int (iI b)), (2, .int (iI v2)), (3, .int (iI v3))] [] := by
    intro fu
    induction fu with
    | zero => intro v2 v3 hi9_0 hi9_1 hi9_2 hm9 K9; exact absurd hm9 (by omega)
    | succ fu ih =>
      intro v2 v3 hi9_0 hi9_1 hi9_2 hm9 K9
      refine gx_iload_n X dX3_worst_9 rfl 3 rfl ?_
      refine gx_aload_n X dX3_worst_10 rfl 0 rfl ?_
      refine gM_g1 (v := (S.1 1)) X rfl dX3_worst_11 ?_
      refine gx_icmp_ge (tgt := 50) X dX3_worst_14 (by decide) (by omega) (fun hc14 => ?_) (fun hc14 => ?_)
      · refine gx_sub [0, 1, 2] rfl ?_
        exact K9 v2 ((M_worst_l9_s S fu v2 v3).trans (if_pos hc14)) (by omega)
      · refine gx_aload_n X dX3_worst_17 rfl 0 rfl ?_
        refine gM_r4 X dX3_worst_18 ?_
        refine gx_iload_n X dX3_worst_21 rfl 3 rfl ?_
        refine gM_l4 (v := (S.2 4 v3)) X (by omega) rfl dX3_worst_22 ?_
        have hr22 := InvM_a4 hT v3
        refine gx_callSI (As := [.int (iI (S.2 4 v3))]) (rest := []) X (hD _) lk_M_131 (c_M_size (S.2 4 v3) (by omega)) jn_nil rfl ⟨by decide, by decide⟩ (Nat.le_of_ble_eq_true rfl) dX3_worst_23 ?_
        have hq23_0 := M_size_sp (S.2 4 v3)
        refine gx_aload_n X dX3_worst_26 rfl 0 rfl ?_
        refine gM_r4 X dX3_worst_27 ?_
        refine gx_iload_n X dX3_worst_30 rfl 2 rfl ?_
        refine gM_l4 (v := (S.2 4 v2)) X (by omega) rfl dX3_worst_31 ?_
        have hr31 := InvM_a4 hT v2
        refine gx_callSI (As := [.int (iI (S.2 4 v2))]) (rest := [.int (iI (M_size (S.2 4 v3)))]) X (hD _) lk_M_131 (c_M_size (S.2 4 v2) (by omega)) jn_nil rfl ⟨by decide, by decide⟩ (Nat.le_of_ble_eq_true rfl) dX3_worst_32 ?_
        have hq32_0 := M_size_sp (S.2 4 v2)
        have J43 : ∀ (m43 : Int), m43 = (if (M_size (S.2 4 v3)) ≤ (M_size (S.2 4 v2)) then v2 else v3) → GG l (rmK (1, 20)) K x (wM K q S) 43 [(0, .ref (q 0)), (1, .int (iI b)), (2, .int (iI v2)), (3, .int (iI v3))] [.int (iI m43)] := by
          intro m43 e_m43
          refine gx_istore_n X dX3_worst_43 rfl (by decide) rfl ?_
          refine gx_iinc X dX3_worst_44 3 rfl (by decide) rfl ?_
          refine gx_goto (tgt := 9) X dX3_worst_47 (by decide) ?_
          refine gx_sub [2, 3, 1, 0] rfl ?_
          subst e_m43
          exact ih _ _ (by omega) (by omega) (by omega) (by omega) (fun z e hx => K9 z ((M_worst_l9_s S fu v2 v3).trans ((if_neg hc14).trans e)) hx)
        refine gx_icmp_le (tgt := 42) X dX3_worst_35 (by decide) (by omega) (fun hc35 => ?_) (fun hc35 => ?_)
        · refine gx_iload_n X dX3_worst_42 rfl 2 rfl ?_
          refine gx_sub [0, 1, 2, 3] rfl ?_
          exact J43 v2 ((if_pos hc35).symm) 
        · refine gx_iload_n X dX3_worst_38 rfl 3 rfl ?_
          refine gx_goto (tgt := 43) X dX3_worst_39 (by decide) ?_
          refine gx_sub [0, 1, 2, 3] rfl ?_
          exact J43 v3 ((if_neg hc35).symm) 
  refine gx_sub [2, 3, 1, 0] rfl ?_
  refine L9 (17) 0 1 (by omega) (by omega) (by omega) (by omega) (fun z9 e9 hx9 => ?_)
  refine gx_iload_n X dX3_worst_50 rfl 1 rfl ?_
  have J67 : ∀ (m67 : Int), m67 = (if b = 0 then (M_size (S.2 4 z9)) else z9) → GG l (rmK (1, 20)) K x (wM K q S) 67 [(0, .ref (q 0)), (1, .int (iI b)), (2, .int (iI z9))] [.int (iI m67)] := by
    intro m67 e_m67
    exact gx_iret hR ((congrArg (fun z9 => M_worst_r9 S b z9) e9).trans (e_m67.symm)) rfl dX3_worst_67
  refine gx_if_eq (tgt := 58) X dX3_worst_51 (by decide) (by omega) (fun hc51 => ?_) (fun hc51 => ?_)
  · refine gx_aload_n X dX3_worst_58 rfl 0 rfl ?_
    refine gM_r4 X dX3_worst_59 ?_
    refine gx_iload_n X dX3_worst_62 rfl 2 rfl ?_
    refine gM_l4 (v := (S.2 4 z9)) X (by omega) rfl dX3_worst_63 ?_
    have hr63 := InvM_a4 hT z9
    refine gx_callSI (As := [.int (iI (S.2 4 z9))]) (rest := []) X (hD _) lk_M_131 (c_M_size (S.2 4 z9) (by omega)) jn_nil rfl ⟨by decide, by decide⟩ (Nat.le_of_ble_eq_true rfl) dX3_worst_64 ?_
    have hq64_0 := M_size_sp (S.2 4 z9)
    refine gx_sub [0, 1, 2] rfl ?_
    exact J67 (M_size (S.2 4 z9)) ((if_pos hc51).symm) 
  · refine gx_iload_n X dX3_worst_54 rfl 2 rfl ?_
    refine gx_goto (tgt := 67) X dX3_worst_55 (by decide) ?_
    refine gx_sub [0, 1, 2] rfl ?_
    exact J67 z9 ((if_neg hc51).symm) 
def M_goes_l6 (S : Sta) (p : Int) (m : Int) (b : Int) : Nat → Int → Int → Int
  | 0, v4, v5 => v4
  | fu + 1, v4, v5 => if (S.1 1) ≤ v5 then v4 else (fun (m67 : Int) => M_goes_l6 S p m b fu m67 (v5 + 1)) (if v4 = 0 then 0 else if (S.2 3 v5) = p then if m < (M_size ((S.2 4 v5) + ((if (S.2 2 v5) = 0 then b else (-b)) : Int))) then 0 else 1 else 1)
theorem M_goes_l6_s (S : Sta) (p : Int) (m : Int) (b : Int) (fu : Nat) (v4 : Int) (v5 : Int) : M_goes_l6 S p m b (fu + 1) v4 v5 = (if (S.1 1) ≤ v5 then v4 else (fun (m67 : Int) => M_goes_l6 S p m b fu m67 (v5 + 1)) (if v4 = 0 then 0 else if (S.2 3 v5) = p then if m < (M_size ((S.2 4 v5) + ((if (S.2 2 v5) = 0 then b else (-b)) : Int))) then 0 else 1 else 1)) := rfl
def M_goes (S : Sta) (p : Int) (m : Int) (b : Int) : Int := (M_goes_l6 S p m b (17) 1 0)
theorem M_goes_l6_01 (S : Sta) (p m b : Int) : ∀ (n : Nat) (v4 v5 : Int), (v4 = 0 ∨ v4 = 1) → (M_goes_l6 S p m b n v4 v5 = 0 ∨ M_goes_l6 S p m b n v4 v5 = 1) := by
  intro n
  induction n with
  | zero => intro v4 v5 h; exact h
  | succ n ih =>
    intro v4 v5 h
    rw [M_goes_l6_s]
    split
    · exact h
    · refine ih _ _ ?_
      omega
theorem M_goes_01 (S : Sta) (p m b : Int) : M_goes S p m b = 0 ∨ M_goes S p m b = 1 := M_goes_l6_01 S p m b 17 1 0 (Or.inr rfl)
set_option maxRecDepth 100000 in
theorem c_M_goes {l : Launch} {K : KK} {N : Int} (q : Nat → Nat) (S : Sta) (p : Int) (m : Int) (b : Int) (hI : InvW N S) (hT : InvT S) (hp2 : ok32 p) (hp3 : ok32 m) (hp4 : -60 ≤ b ∧ b ≤ 60) : CtI l yX3_goes cX3_goes 6 .boolean (1, 20) K [.ref (q 0), .int (iI p), .int (iI m), .int (iI b)] (wM K q S) (M_goes S p m b) (wM K q S) := by
  refine ctI_of (by decide) (Nat.le_of_ble_eq_true rfl) (narrow_bool (M_goes_01 S p m b)) ?_
  intro x X hD hR
  have hD : ∀ S9 : Sta, va_D (cx_A x) (wM K q S9) := fun S9 => va_D_same hD rfl
  have hs1 := InvM_s1 hI
  have hs2 := InvM_s2 hI
  have hs3 := InvM_s3 hI
  have hs4 := InvM_s4 hI
  refine gx_iconst (z := 1) X dX3_goes_0 rfl ?_
  refine gx_istore X dX3_goes_1 (by decide) rfl ?_
  refine gx_iconst (z := 0) X dX3_goes_3 rfl ?_
  refine gx_istore X dX3_goes_4 (by decide) rfl ?_
  have L6 : ∀ (fu : Nat) (v4 : Int) (v5 : Int), (0 ≤ v5) → (v5 ≤ (S.1 1)) → (0 ≤ v4 ∧ v4 ≤ 1) → ((S.1 1) - v5) < (fu : Int) → (∀ z6 : Int, M_goes_l6 S p m b fu v4 v5 = z6 → True → GG l (rmK (1, 20)) K x (wM K q S) 75 [(0, .ref (q 0)), (1, .int (iI p)), (2, .int (iI m)), (3, .int (iI b)), (4, .int (iI z6))] []) → GG l (rmK (1, 20)) K x (wM K q S) 6 [(0, .ref (q 0)), (1, .int (iI p)), (2, .int (iI m)), (3, .int (iI b)), (4, .int (iI v4)), (5, .int (iI v5))] [] := by
    intro fu
    induction fu with
    | zero => intro v4 v5 hi6_0 hi6_1 hi6_2 hm6 K6; exact absurd hm6 (by omega)
    | succ fu ih =>
      intro v4 v5 hi6_0 hi6_1 hi6_2 hm6 K6
      refine gx_iload X dX3_goes_6 5 rfl ?_
      refine gx_aload_n X dX3_goes_8 rfl 0 rfl ?_
      refine gM_g1 (v := (S.1 1)) X rfl dX3_goes_9 ?_
      refine gx_icmp_ge (tgt := 75) X dX3_goes_12 (by decide) (by omega) (fun hc12 => ?_) (fun hc12 => ?_)
      · refine gx_sub [0, 1, 2, 3, 4] rfl ?_
        exact K6 v4 ((M_goes_l6_s S p m b fu v4 v5).trans (if_pos hc12)) trivial
      · refine gx_iload X dX3_goes_15 4 rfl ?_
        have J67 : ∀ (m67 : Int), m67 = (if v4 = 0 then 0 else if (S.2 3 v5) = p then if m < (M_size ((S.2 4 v5) + ((if (S.2 2 v5) = 0 then b else (-b)) : Int))) then 0 else 1 else 1) → GG l (rmK (1, 20)) K x (wM K q S) 67 [(0, .ref (q 0)), (1, .int (iI p)), (2, .int (iI m)), (3, .int (iI b)), (4, .int (iI v4)), (5, .int (iI v5))] [.int (iI m67)] := by
          intro m67 e_m67
          refine gx_istore X dX3_goes_67 (by decide) rfl ?_
          refine gx_iinc X dX3_goes_69 5 rfl (by decide) rfl ?_
          refine gx_goto (tgt := 6) X dX3_goes_72 (by decide) ?_
          refine gx_sub [2, 3, 4, 5, 1, 0] rfl ?_
          subst e_m67
          exact ih _ _ (by omega) (by omega) (by omega) (by omega) (fun z e hx => K6 z ((M_goes_l6_s S p m b fu v4 v5).trans ((if_neg hc12).trans e)) hx)
        refine gx_if_eq (tgt := 66) X dX3_goes_17 (by decide) (by omega) (fun hc17 => ?_) (fun hc17 => ?_)
        · refine gx_iconst (z := 0) X dX3_goes_66 rfl ?_
          refine gx_sub [0, 1, 2, 3, 4, 5] rfl ?_
          exact J67 0 ((if_pos hc17).symm) 
        · refine gx_aload_n X dX3_goes_20 rfl 0 rfl ?_
          refine gM_r3 X dX3_goes_21 ?_
          refine gx_iload X dX3_goes_24 5 rfl ?_
          refine gM_l3 (v := (S.2 3 v5)) X (by omega) rfl dX3_goes_26 ?_
          have hr26 := InvM_a3 hI v5
          refine gx_iload_n X dX3_goes_27 rfl 1 rfl ?_
          refine gx_icmp_ne (tgt := 62) X dX3_goes_28 (by decide) (by omega) (fun hc28 => ?_) (fun hc28 => ?_)
          · refine gx_iconst (z := 1) X dX3_goes_62 rfl ?_
            refine gx_goto (tgt := 67) X dX3_goes_63 (by decide) ?_
            refine gx_sub [0, 1, 2, 3, 4, 5] rfl ?_
            exact J67 1 (((if_neg hc17).trans (if_neg hc28)).symm) 
          · refine gx_aload_n X dX3_goes_31 rfl 0 rfl ?_
            refine gM_r4 X dX3_goes_32 ?_
            refine gx_iload X dX3_goes_35 5 rfl ?_
            refine gM_l4 (v := (S.2 4 v5)) X (by omega) rfl dX3_goes_37 ?_
            have hr37 := InvM_a4 hT v5
            refine gx_aload_n X dX3_goes_38 rfl 0 rfl ?_
            refine gM_r2 X dX3_goes_39 ?_
            refine gx_iload X dX3_goes_42 5 rfl ?_
            refine gM_l2 (v := (S.2 2 v5)) X (by omega) rfl dX3_goes_44 ?_
            have hr44 := InvM_a2 hI v5
            have J54 : ∀ (m54 : Int), m54 = (if (S.2 2 v5) = 0 then b else (-b)) → GG l (rmK (1, 20)) K x (wM K q S) 54 [(0, .ref (q 0)), (1, .int (iI p)), (2, .int (iI m)), (3, .int (iI b)), (4, .int (iI v4)), (5, .int (iI v5))] [.int (iI m54), .int (iI (S.2 4 v5))] := by
              intro m54 e_m54
              refine gx_iadd X dX3_goes_54 ?_
              refine gx_callSI (As := [.int (iI ((S.2 4 v5) + m54))]) (rest := []) X (hD _) lk_M_131 (c_M_size ((S.2 4 v5) + m54) (by omega)) jn_nil rfl ⟨by decide, by decide⟩ (Nat.le_of_ble_eq_true rfl) dX3_goes_55 ?_
              have hq55_0 := M_size_sp ((S.2 4 v5) + m54)
              refine gx_iload_n X dX3_goes_58 rfl 2 rfl ?_
              refine gx_icmp_gt (tgt := 66) X dX3_goes_59 (by decide) (by omega) (fun hc59 => ?_) (fun hc59 => ?_)
              · refine gx_iconst (z := 0) X dX3_goes_66 rfl ?_
                refine gx_sub [0, 1, 2, 3, 4, 5] rfl ?_
                subst e_m54
                exact J67 _ (((if_neg hc17).trans ((if_pos hc28).trans (if_pos hc59))).symm) 
              · refine gx_iconst (z := 1) X dX3_goes_62 rfl ?_
                refine gx_goto (tgt := 67) X dX3_goes_63 (by decide) ?_
                refine gx_sub [0, 1, 2, 3, 4, 5] rfl ?_
                subst e_m54
                exact J67 _ (((if_neg hc17).trans ((if_pos hc28).trans (if_neg hc59))).symm) 
            refine gx_if_ne (tgt := 52) X dX3_goes_45 (by decide) (by omega) (fun hc45 => ?_) (fun hc45 => ?_)
            · refine gx_iload_n X dX3_goes_52 rfl 3 rfl ?_
              refine gx_ineg X dX3_goes_53 ?_
              refine gx_sub [0, 1, 2, 3, 4, 5] rfl ?_
              exact J54 (-b) ((if_neg hc45).symm) 
            · refine gx_iload_n X dX3_goes_48 rfl 3 rfl ?_
              refine gx_goto (tgt := 54) X dX3_goes_49 (by decide) ?_
              refine gx_sub [0, 1, 2, 3, 4, 5] rfl ?_
              exact J54 b ((if_pos hc45).symm) 
  refine gx_sub [2, 3, 4, 5, 1, 0] rfl ?_
  refine L6 (17) 1 0 (by omega) (by omega) (by omega) (by omega) (fun z6 e6 hx6 => ?_)
  refine gx_iload X dX3_goes_75 4 rfl ?_
  exact gx_iret hR (e6) rfl dX3_goes_77
def M_goingOf_l2 (S : Sta) (p : Int) (m : Int) : Nat → Int → (Int) ⊕ (Unit)
  | 0, v3 => .inr ()
  | fu + 1, v3 => if 60 < v3 then .inr () else if (M_goes S p m v3) = 0 then if (M_goes S p m (-v3)) = 0 then M_goingOf_l2 S p m fu (v3 + 1) else .inl (-v3) else .inl v3
theorem M_goingOf_l2_s (S : Sta) (p : Int) (m : Int) (fu : Nat) (v3 : Int) : M_goingOf_l2 S p m (fu + 1) v3 = (if 60 < v3 then .inr () else if (M_goes S p m v3) = 0 then if (M_goes S p m (-v3)) = 0 then M_goingOf_l2 S p m fu (v3 + 1) else .inl (-v3) else .inl v3) := rfl
def M_goingOf_r2  : Int := (-99)
def M_goingOf (S : Sta) (p : Int) (m : Int) : Int := Sum.elim id (fun z2 => M_goingOf_r2 ) (M_goingOf_l2 S p m (62) 0)
theorem M_goingOf_l2_rg (S : Sta) (p m : Int) : ∀ (n : Nat) (v3 : Int), 0 ≤ v3 → v3 ≤ 61 → (∃ z, M_goingOf_l2 S p m n v3 = .inl z ∧ -60 ≤ z ∧ z ≤ 60) ∨ M_goingOf_l2 S p m n v3 = .inr () := by
  intro n
  induction n with
  | zero => intro v3 _ _; exact Or.inr rfl
  | succ n ih =>
    intro v3 h0 h1
    rw [M_goingOf_l2_s]
    split
    · exact Or.inr rfl
    · split
      · split
        · exact ih _ (by omega) (by omega)
        · exact Or.inl ⟨_, rfl, by omega, by omega⟩
      · exact Or.inl ⟨_, rfl, by omega, by omega⟩
theorem M_goingOf_rg (S : Sta) (p m : Int) : -99 ≤ M_goingOf S p m ∧ M_goingOf S p m ≤ 60 := by
  rcases M_goingOf_l2_rg S p m 62 0 (by omega) (by omega) with ⟨z, h, h1, h2⟩ | h
  · have e : M_goingOf S p m = z := congrArg (Sum.elim id _) h
    omega
  · have e : M_goingOf S p m = -99 := congrArg (Sum.elim id _) h
    omega
set_option maxRecDepth 100000 in
theorem c_M_goingOf {l : Launch} {K : KK} {N : Int} (q : Nat → Nat) (S : Sta) (p : Int) (m : Int) (hI : InvW N S) (hT : InvT S) (hp2 : ok32 p) (hp3 : ok32 m) : CtI l yX3_goingOf cX3_goingOf 4 .int (2, 45) K [.ref (q 0), .int (iI p), .int (iI m)] (wM K q S) (M_goingOf S p m) (wM K q S) := by
  refine ctI_of (by decide) (Nat.le_of_ble_eq_true rfl) rfl ?_
  intro x X hD hR
  have hD : ∀ S9 : Sta, va_D (cx_A x) (wM K q S9) := fun S9 => va_D_same hD rfl
  have hs1 := InvM_s1 hI
  have hs2 := InvM_s2 hI
  have hs3 := InvM_s3 hI
  have hs4 := InvM_s4 hI
  refine gx_iconst (z := 0) X dX3_goingOf_0 rfl ?_
  refine gx_istore_n X dX3_goingOf_1 rfl (by decide) rfl ?_
  have L2 : ∀ (fu : Nat) (v3 : Int), (0 ≤ v3) → (v3 ≤ 61) → (61 - v3) < (fu : Int) → (∀ z2 : Unit, M_goingOf_l2 S p m fu v3 = .inr z2 → True → GG l (rmK (2, 45)) K x (wM K q S) 40 [(0, .ref (q 0)), (1, .int (iI p)), (2, .int (iI m))] []) → (∀ zz : Int, M_goingOf_l2 S p m fu v3 = .inl zz → M_goingOf S p m = zz) → GG l (rmK (2, 45)) K x (wM K q S) 2 [(0, .ref (q 0)), (1, .int (iI p)), (2, .int (iI m)), (3, .int (iI v3))] [] := by
    intro fu
    induction fu with
    | zero => intro v3 hi2_0 hi2_1 hm2 K2 KR2; exact absurd hm2 (by omega)
    | succ fu ih =>
      intro v3 hi2_0 hi2_1 hm2 K2 KR2
      refine gx_iload_n X dX3_goingOf_2 rfl 3 rfl ?_
      refine gx_bipush (z := 60) X dX3_goingOf_3 (by decide) ?_
      refine gx_icmp_gt (tgt := 40) X dX3_goingOf_5 (by decide) (by omega) (fun hc5 => ?_) (fun hc5 => ?_)
      · refine gx_sub [0, 1, 2] rfl ?_
        exact K2 () ((M_goingOf_l2_s S p m fu v3).trans (if_pos hc5)) trivial
      · refine gx_aload_n X dX3_goingOf_8 rfl 0 rfl ?_
        refine gx_iload_n X dX3_goingOf_9 rfl 1 rfl ?_
        refine gx_iload_n X dX3_goingOf_10 rfl 2 rfl ?_
        refine gx_iload_n X dX3_goingOf_11 rfl 3 rfl ?_
        refine gx_callVI (As := [.int (iI p), .int (iI m), .int (iI v3)]) (rest := []) X (hD _) lk_M_135 (ci := 3) rfl rfl 0 rfl (c_M_goes q S p m v3 hI hT (by omega) (by omega) (by omega)) jn_all rfl ⟨by decide, by decide⟩ (Nat.le_of_ble_eq_true rfl) dX3_goingOf_12 ?_
        have hq12_0 := M_goes_01 S p m v3
        refine gx_if_eq (tgt := 20) X dX3_goingOf_15 (by decide) (by omega) (fun hc15 => ?_) (fun hc15 => ?_)
        · refine gx_aload_n X dX3_goingOf_20 rfl 0 rfl ?_
          refine gx_iload_n X dX3_goingOf_21 rfl 1 rfl ?_
          refine gx_iload_n X dX3_goingOf_22 rfl 2 rfl ?_
          refine gx_iload_n X dX3_goingOf_23 rfl 3 rfl ?_
          refine gx_ineg X dX3_goingOf_24 ?_
          refine gx_callVI (As := [.int (iI p), .int (iI m), .int (iI (-v3))]) (rest := []) X (hD _) lk_M_135 (ci := 3) rfl rfl 0 rfl (c_M_goes q S p m (-v3) hI hT (by omega) (by omega) (by omega)) jn_all rfl ⟨by decide, by decide⟩ (Nat.le_of_ble_eq_true rfl) dX3_goingOf_25 ?_
          have hq25_0 := M_goes_01 S p m (-v3)
          refine gx_if_eq (tgt := 34) X dX3_goingOf_28 (by decide) (by omega) (fun hc28 => ?_) (fun hc28 => ?_)
          · refine gx_iinc X dX3_goingOf_34 3 rfl (by decide) rfl ?_
            refine gx_goto (tgt := 2) X dX3_goingOf_37 (by decide) ?_
            refine gx_sub [1, 2, 3, 0] rfl ?_
            exact ih (v3 + 1) (by omega) (by omega) (by omega) (fun z e hx => K2 z ((M_goingOf_l2_s S p m fu v3).trans (((if_neg hc5).trans ((if_pos hc15).trans (if_pos hc28))).trans e)) hx) (fun z e => KR2 z ((M_goingOf_l2_s S p m fu v3).trans (((if_neg hc5).trans ((if_pos hc15).trans (if_pos hc28))).trans e)))
          · refine gx_iload_n X dX3_goingOf_31 rfl 3 rfl ?_
            refine gx_ineg X dX3_goingOf_32 ?_
            exact gx_iret hR (KR2 (-v3) ((M_goingOf_l2_s S p m fu v3).trans ((if_neg hc5).trans ((if_pos hc15).trans (if_neg hc28))))) rfl dX3_goingOf_33
        · refine gx_iload_n X dX3_goingOf_18 rfl 3 rfl ?_
          exact gx_iret hR (KR2 v3 ((M_goingOf_l2_s S p m fu v3).trans ((if_neg hc5).trans (if_neg hc15)))) rfl dX3_goingOf_19
  refine gx_sub [1, 2, 3, 0] rfl ?_
  refine L2 (62) 0 (by omega) (by omega) (by omega) (fun z2 e2 hx2 => ?_) (fun z e => congrArg (Sum.elim id (fun z2 => M_goingOf_r2 )) e)
  refine gx_bipush (z := (-99)) X dX3_goingOf_40 (by decide) ?_
  exact gx_iret hR (congrArg (Sum.elim id (fun z2 => M_goingOf_r2 )) e2) rfl dX3_goingOf_42
def M_going (S : Sta) (p : Int) (m : Int) : Int := if (M_in p 0 3) = 0 then (-1) else if (M_in m 0 60) = 0 then (-2) else (M_goingOf S p m)
set_option maxRecDepth 100000 in
theorem c_M_going {l : Launch} {K : KK} {N : Int} (q : Nat → Nat) (S : Sta) (p : Int) (m : Int) (hI : InvW N S) (hT : InvT S) (hp2 : ok32 p) (hp3 : ok32 m) : CtI l yX3_going cX3_going 3 .int (3, 68) K [.ref (q 0), .int (iI p), .int (iI m)] (wM K q S) (M_going S p m) (wM K q S) := by
  refine ctI_of (by decide) (Nat.le_of_ble_eq_true rfl) rfl ?_
  intro x X hD hR
  have hD : ∀ S9 : Sta, va_D (cx_A x) (wM K q S9) := fun S9 => va_D_same hD rfl
  have hs1 := InvM_s1 hI
  have hs2 := InvM_s2 hI
  have hs3 := InvM_s3 hI
  have hs4 := InvM_s4 hI
  refine gx_aload_n X dX3_going_0 rfl 0 rfl ?_
  refine gx_iconst (z := 0) X dX3_going_1 rfl ?_
  refine gM_t0 X (hD _) (InvM_t hI) dX3_going_2 ?_
  refine gx_iload_n X dX3_going_5 rfl 1 rfl ?_
  refine gx_i2l X dX3_going_6 (by omega) ?_
  refine gx_lconst (v := lI 0) X dX3_going_7 rfl ?_
  refine gx_ldc2 (v := lI 3) X t_M_101 dX3_going_8 ?_
  refine gx_callSI (As := [.long (lI p), .long (lI 0), .long (lI 3)]) (rest := []) X (hD _) lk_M_88 (c_M_in p 0 3 (by omega) (by omega) (by omega)) jn_nil rfl ⟨by decide, by decide⟩ (Nat.le_of_ble_eq_true rfl) dX3_going_11 ?_
  have hq11_0 := M_in_sp p 0 3
  refine gx_if_ne (tgt := 19) X dX3_going_14 (by decide) (by omega) (fun hc14 => ?_) (fun hc14 => ?_)
  · refine gx_iload_n X dX3_going_19 rfl 2 rfl ?_
    refine gx_i2l X dX3_going_20 (by omega) ?_
    refine gx_lconst (v := lI 0) X dX3_going_21 rfl ?_
    refine gx_ldc2 (v := lI 60) X t_M_139 dX3_going_22 ?_
    refine gx_callSI (As := [.long (lI m), .long (lI 0), .long (lI 60)]) (rest := []) X (hD _) lk_M_88 (c_M_in m 0 60 (by omega) (by omega) (by omega)) jn_nil rfl ⟨by decide, by decide⟩ (Nat.le_of_ble_eq_true rfl) dX3_going_25 ?_
    have hq25_0 := M_in_sp m 0 60
    have J42 : ∀ (m42 : Int), m42 = (if (M_in m 0 60) = 0 then (-2) else (M_goingOf S p m)) → GG l (rmK (3, 68)) K x (wM K q S) 42 [(0, .ref (q 0)), (1, .int (iI p)), (2, .int (iI m))] [.int (iI m42)] := by
      intro m42 e_m42
      exact gx_iret hR ((if_neg hc14).trans (e_m42.symm)) rfl dX3_going_42
    refine gx_if_eq (tgt := 40) X dX3_going_28 (by decide) (by omega) (fun hc28 => ?_) (fun hc28 => ?_)
    · refine gx_bipush (z := (-2)) X dX3_going_40 (by decide) ?_
      refine gx_sub [0, 1, 2] rfl ?_
      exact J42 (-2) ((if_pos hc28).symm) 
    · refine gx_aload_n X dX3_going_31 rfl 0 rfl ?_
      refine gx_iload_n X dX3_going_32 rfl 1 rfl ?_
      refine gx_iload_n X dX3_going_33 rfl 2 rfl ?_
      refine gx_callVI (As := [.int (iI p), .int (iI m)]) (rest := []) X (hD _) lk_M_141 (ci := 3) rfl rfl 0 rfl (c_M_goingOf q S p m hI hT (by omega) (by omega)) jn_all rfl ⟨by decide, by decide⟩ (Nat.le_of_ble_eq_true rfl) dX3_going_34 ?_
      have hq34_0 := M_goingOf_rg S p m
      refine gx_goto (tgt := 42) X dX3_going_37 (by decide) ?_
      refine gx_sub [0, 1, 2] rfl ?_
      exact J42 (M_goingOf S p m) ((if_neg hc28).symm) 
  · refine gx_iconst (z := (-1)) X dX3_going_17 rfl ?_
    exact gx_iret hR (if_pos hc14) rfl dX3_going_18
def M_evens_l24 (S : Sta) (m : Int) : Nat → Int → Int → (Int) ⊕ (Int)
  | 0, v2, v3 => .inr v2
  | fu + 1, v2, v3 => if 4 ≤ v3 then .inr v2 else if (M_goingOf S v3 m) = (-99) then .inl (-99) else (fun (m65 : Int) => M_evens_l24 S m fu m65 (v3 + 1)) (if (M_size (M_goingOf S v3 m)) ≤ v2 then v2 else (M_size (M_goingOf S v3 m)))
theorem M_evens_l24_s (S : Sta) (m : Int) (fu : Nat) (v2 : Int) (v3 : Int) : M_evens_l24 S m (fu + 1) v2 v3 = (if 4 ≤ v3 then .inr v2 else if (M_goingOf S v3 m) = (-99) then .inl (-99) else (fun (m65 : Int) => M_evens_l24 S m fu m65 (v3 + 1)) (if (M_size (M_goingOf S v3 m)) ≤ v2 then v2 else (M_size (M_goingOf S v3 m)))) := rfl
def M_evens_r24 (z24 : Int) : Int := z24
def M_evens (S : Sta) (m : Int) : Int := if (M_in m 0 60) = 0 then (-2) else Sum.elim id (fun z24 => M_evens_r24 z24) (M_evens_l24 S m (5) 0 0)
set_option maxRecDepth 100000 in
theorem c_M_evens {l : Launch} {K : KK} {N : Int} (q : Nat → Nat) (S : Sta) (m : Int) (hI : InvW N S) (hT : InvT S) (hp2 : ok32 m) : CtI l yX3_evens cX3_evens 5 .int (3, 68) K [.ref (q 0), .int (iI m)] (wM K q S) (M_evens S m) (wM K q S) := by
  refine ctI_of (by decide) (Nat.le_of_ble_eq_true rfl) rfl ?_
  intro x X hD hR
  have hD : ∀ S9 : Sta, va_D (cx_A x) (wM K q S9) := fun S9 => va_D_same hD rfl
  have hs1 := InvM_s1 hI
  have hs2 := InvM_s2 hI
  have hs3 := InvM_s3 hI
  have hs4 := InvM_s4 hI
  refine gx_aload_n X dX3_evens_0 rfl 0 rfl ?_
  refine gx_iconst (z := 0) X dX3_evens_1 rfl ?_
  refine gM_t0 X (hD _) (InvM_t hI) dX3_evens_2 ?_
  refine gx_iload_n X dX3_evens_5 rfl 1 rfl ?_
  refine gx_i2l X dX3_evens_6 (by omega) ?_
  refine gx_lconst (v := lI 0) X dX3_evens_7 rfl ?_
  refine gx_ldc2 (v := lI 60) X t_M_139 dX3_evens_8 ?_
  refine gx_callSI (As := [.long (lI m), .long (lI 0), .long (lI 60)]) (rest := []) X (hD _) lk_M_88 (c_M_in m 0 60 (by omega) (by omega) (by omega)) jn_nil rfl ⟨by decide, by decide⟩ (Nat.le_of_ble_eq_true rfl) dX3_evens_11 ?_
  have hq11_0 := M_in_sp m 0 60
  refine gx_if_ne (tgt := 20) X dX3_evens_14 (by decide) (by omega) (fun hc14 => ?_) (fun hc14 => ?_)
  · refine gx_iconst (z := 0) X dX3_evens_20 rfl ?_
    refine gx_istore_n X dX3_evens_21 rfl (by decide) rfl ?_
    refine gx_iconst (z := 0) X dX3_evens_22 rfl ?_
    refine gx_istore_n X dX3_evens_23 rfl (by decide) rfl ?_
    have L24 : ∀ (fu : Nat) (v2 : Int) (v3 : Int), (0 ≤ v3) → (v3 ≤ 4) → (0 ≤ v2 ∧ v2 ≤ 1000) → (4 - v3) < (fu : Int) → (∀ z24 : Int, M_evens_l24 S m fu v2 v3 = .inr z24 → True → GG l (rmK (3, 68)) K x (wM K q S) 72 [(0, .ref (q 0)), (1, .int (iI m)), (2, .int (iI z24))] []) → (∀ zz : Int, M_evens_l24 S m fu v2 v3 = .inl zz → M_evens S m = zz) → GG l (rmK (3, 68)) K x (wM K q S) 24 [(0, .ref (q 0)), (1, .int (iI m)), (2, .int (iI v2)), (3, .int (iI v3))] [] := by
      intro fu
      induction fu with
      | zero => intro v2 v3 hi24_0 hi24_1 hi24_2 hm24 K24 KR24; exact absurd hm24 (by omega)
      | succ fu ih =>
        intro v2 v3 hi24_0 hi24_1 hi24_2 hm24 K24 KR24
        refine gx_iload_n X dX3_evens_24 rfl 3 rfl ?_
        refine gx_iconst (z := 4) X dX3_evens_25 rfl ?_
        refine gx_icmp_ge (tgt := 72) X dX3_evens_26 (by decide) (by omega) (fun hc26 => ?_) (fun hc26 => ?_)
        · refine gx_sub [0, 1, 2] rfl ?_
          exact K24 v2 ((M_evens_l24_s S m fu v2 v3).trans (if_pos hc26)) trivial
        · refine gx_aload_n X dX3_evens_29 rfl 0 rfl ?_
          refine gx_iload_n X dX3_evens_30 rfl 3 rfl ?_
          refine gx_iload_n X dX3_evens_31 rfl 1 rfl ?_
          refine gx_callVI (As := [.int (iI v3), .int (iI m)]) (rest := []) X (hD _) lk_M_141 (ci := 3) rfl rfl 0 rfl (c_M_goingOf q S v3 m hI hT (by omega) (by omega)) jn_all rfl ⟨by decide, by decide⟩ (Nat.le_of_ble_eq_true rfl) dX3_evens_32 ?_
          have hq32_0 := M_goingOf_rg S v3 m
          refine gx_istore X dX3_evens_35 (by decide) rfl ?_
          refine gx_iload X dX3_evens_37 0 rfl ?_
          refine gx_bipush (z := (-99)) X dX3_evens_39 (by decide) ?_
          refine gx_icmp_ne (tgt := 47) X dX3_evens_41 (by decide) (by omega) (fun hc41 => ?_) (fun hc41 => ?_)
          · refine gx_iload X dX3_evens_47 0 rfl ?_
            refine gx_callSI (As := [.int (iI (M_goingOf S v3 m))]) (rest := []) X (hD _) lk_M_131 (c_M_size (M_goingOf S v3 m) (by omega)) jn_nil rfl ⟨by decide, by decide⟩ (Nat.le_of_ble_eq_true rfl) dX3_evens_49 ?_
            have hq49_0 := M_size_sp (M_goingOf S v3 m)
            refine gx_iload_n X dX3_evens_52 rfl 3 rfl ?_
            have J65 : ∀ (m65 : Int), m65 = (if (M_size (M_goingOf S v3 m)) ≤ v2 then v2 else (M_size (M_goingOf S v3 m))) → GG l (rmK (3, 68)) K x (wM K q S) 65 [(0, .ref (q 0)), (1, .int (iI m)), (2, .int (iI v2)), (3, .int (iI v3)), (4, .int (iI (M_goingOf S v3 m)))] [.int (iI m65)] := by
              intro m65 e_m65
              refine gx_istore_n X dX3_evens_65 rfl (by decide) rfl ?_
              refine gx_iinc X dX3_evens_66 3 rfl (by decide) rfl ?_
              refine gx_goto (tgt := 24) X dX3_evens_69 (by decide) ?_
              refine gx_sub [2, 3, 1, 0] rfl ?_
              subst e_m65
              exact ih _ _ (by omega) (by omega) (by omega) (by omega) (fun z e hx => K24 z ((M_evens_l24_s S m fu v2 v3).trans (((if_neg hc26).trans (if_neg hc41)).trans e)) hx) (fun z e => KR24 z ((M_evens_l24_s S m fu v2 v3).trans (((if_neg hc26).trans (if_neg hc41)).trans e)))
            refine gx_icmp_le (tgt := 64) X dX3_evens_53 (by decide) (by omega) (fun hc53 => ?_) (fun hc53 => ?_)
            · refine gx_iload_n X dX3_evens_64 rfl 3 rfl ?_
              refine gx_sub [1, 2, 3, 4, 0] rfl ?_
              exact J65 v2 ((if_pos hc53).symm) 
            · refine gx_iload X dX3_evens_56 0 rfl ?_
              refine gx_callSI (As := [.int (iI (M_goingOf S v3 m))]) (rest := []) X (hD _) lk_M_131 (c_M_size (M_goingOf S v3 m) (by omega)) jn_nil rfl ⟨by decide, by decide⟩ (Nat.le_of_ble_eq_true rfl) dX3_evens_58 ?_
              have hq58_0 := M_size_sp (M_goingOf S v3 m)
              refine gx_goto (tgt := 65) X dX3_evens_61 (by decide) ?_
              refine gx_sub [1, 2, 3, 4, 0] rfl ?_
              exact J65 (M_size (M_goingOf S v3 m)) ((if_neg hc53).symm) 
          · refine gx_bipush (z := (-99)) X dX3_evens_44 (by decide) ?_
            exact gx_iret hR (KR24 (-99) ((M_evens_l24_s S m fu v2 v3).trans ((if_neg hc26).trans (if_pos hc41)))) rfl dX3_evens_46
    refine gx_sub [2, 3, 1, 0] rfl ?_
    refine L24 (5) 0 0 (by omega) (by omega) (by omega) (by omega) (fun z24 e24 hx24 => ?_) (fun z e => (if_neg hc14).trans (congrArg (Sum.elim id (fun z24 => M_evens_r24 z24)) e))
    refine gx_iload_n X dX3_evens_72 rfl 2 rfl ?_
    exact gx_iret hR ((if_neg hc14).trans (congrArg (Sum.elim id (fun z24 => M_evens_r24 z24)) e24)) rfl dX3_evens_73
  · refine gx_bipush (z := (-2)) X dX3_evens_17 (by decide) ?_
    exact gx_iret hR (if_pos hc14) rfl dX3_evens_19
def M_paint (S : Sta) (r : Int) (c : Int) (v : Int) : Int × Sta := if (M_noCard S c) = 0 then if (M_in r 0 29) = 0 then ((-2), S) else if v = (-99) then ((S.2 16 ((16 * r) + c)), (mA S 16 ((16 * r) + c) v)) else if (M_in v 0 7) = 0 then ((-2), S) else ((S.2 16 ((16 * r) + c)), (mA S 16 ((16 * r) + c) v)) else ((-1), S)
set_option maxRecDepth 100000 in
theorem c_M_paint {l : Launch} {K : KK} {N : Int} (q : Nat → Nat) (S : Sta) (r : Int) (c : Int) (v : Int) (hI : InvW N S) (hp1 : ok32 r) (hp2 : ok32 c) (hp3 : ok32 v) : CtI l yX3_paint cX3_paint 5 .int (2, 46) K [.ref (q 0), .int (iI r), .int (iI c), .int (iI v)] (wM K q S) (M_paint S r c v).1 (wM K q ((M_paint S r c v).2)) := by
  refine ctI_of (by decide) (Nat.le_of_ble_eq_true rfl) rfl ?_
  intro x X hD hR
  have hD : ∀ S9 : Sta, va_D (cx_A x) (wM K q S9) := fun S9 => va_D_same hD rfl
  have hs1 := InvM_s1 hI
  have hs2 := InvM_s2 hI
  have hs3 := InvM_s3 hI
  have hs4 := InvM_s4 hI
  refine gx_aload_n X dX3_paint_0 rfl 0 rfl ?_
  refine gx_iconst (z := 0) X dX3_paint_1 rfl ?_
  refine gM_t0 X (hD _) (InvM_t hI) dX3_paint_2 ?_
  refine gx_aload_n X dX3_paint_5 rfl 0 rfl ?_
  refine gx_iload_n X dX3_paint_6 rfl 2 rfl ?_
  refine gx_callVI (As := [.int (iI c)]) (rest := []) X (hD _) lk_M_97 (ci := 3) rfl rfl 0 rfl (c_M_noCard q S c hI (by omega)) jn_all rfl ⟨by decide, by decide⟩ (Nat.le_of_ble_eq_true rfl) dX3_paint_7 ?_
  have hq7_0 := M_noCard_sp S c
  refine gx_if_eq (tgt := 15) X dX3_paint_10 (by decide) (by omega) (fun hc10 => ?_) (fun hc10 => ?_)
  · refine gx_iload_n X dX3_paint_15 rfl 1 rfl ?_
    refine gx_i2l X dX3_paint_16 (by omega) ?_
    refine gx_lconst (v := lI 0) X dX3_paint_17 rfl ?_
    refine gx_ldc2 (v := lI 29) X t_M_144 dX3_paint_18 ?_
    refine gx_callSI (As := [.long (lI r), .long (lI 0), .long (lI 29)]) (rest := []) X (hD _) lk_M_88 (c_M_in r 0 29 (by omega) (by omega) (by omega)) jn_nil rfl ⟨by decide, by decide⟩ (Nat.le_of_ble_eq_true rfl) dX3_paint_21 ?_
    have hq21_0 := M_in_sp r 0 29
    refine gx_if_eq (tgt := 45) X dX3_paint_24 (by decide) (by omega) (fun hc24 => ?_) (fun hc24 => ?_)
    · refine gx_bipush (z := (-2)) X dX3_paint_45 (by decide) ?_
      exact gx_iret hR (congrArg Prod.fst ((show M_paint S r c v = ((-2), S) from (if_pos hc10).trans (if_pos hc24)))) (ret2 (fun z => (wM K q z)) ((show M_paint S r c v = ((-2), S) from (if_pos hc10).trans (if_pos hc24)))) dX3_paint_47
    · refine gx_iload_n X dX3_paint_27 rfl 3 rfl ?_
      refine gx_bipush (z := (-99)) X dX3_paint_28 (by decide) ?_
      refine gx_icmp_eq (tgt := 48) X dX3_paint_30 (by decide) (by omega) (fun hc30 => ?_) (fun hc30 => ?_)
      · refine gx_aload_n X dX3_paint_48 rfl 0 rfl ?_
        refine gM_r16 X dX3_paint_49 ?_
        refine gx_bipush (z := 16) X dX3_paint_52 (by decide) ?_
        refine gx_iload_n X dX3_paint_54 rfl 1 rfl ?_
        refine gx_imul X dX3_paint_55 ?_
        refine gx_iload_n X dX3_paint_56 rfl 2 rfl ?_
        refine gx_iadd X dX3_paint_57 ?_
        refine gM_l16 (v := (S.2 16 ((16 * r) + c))) X (by omega) rfl dX3_paint_58 ?_
        have hr58 := InvM_a16 hI ((16 * r) + c)
        refine gx_istore X dX3_paint_59 (by decide) rfl ?_
        refine gx_aload_n X dX3_paint_61 rfl 1 rfl ?_
        refine gM_r16 X dX3_paint_62 ?_
        refine gx_bipush (z := 16) X dX3_paint_65 (by decide) ?_
        refine gx_iload_n X dX3_paint_67 rfl 2 rfl ?_
        refine gx_imul X dX3_paint_68 ?_
        refine gx_iload_n X dX3_paint_69 rfl 3 rfl ?_
        refine gx_iadd X dX3_paint_70 ?_
        refine gx_iload_n X dX3_paint_71 rfl 4 rfl ?_
        refine gM_s16 X (hD _) (by omega) dX3_paint_72 ?_
        refine gx_iload X dX3_paint_73 0 rfl ?_
        exact gx_iret hR (congrArg Prod.fst ((show M_paint S r c v = ((S.2 16 ((16 * r) + c)), (mA S 16 ((16 * r) + c) v)) from (if_pos hc10).trans ((if_neg hc24).trans (if_pos hc30))))) (ret2 (fun z => (wM K q z)) ((show M_paint S r c v = ((S.2 16 ((16 * r) + c)), (mA S 16 ((16 * r) + c) v)) from (if_pos hc10).trans ((if_neg hc24).trans (if_pos hc30))))) dX3_paint_75
      · refine gx_iload_n X dX3_paint_33 rfl 3 rfl ?_
        refine gx_i2l X dX3_paint_34 (by omega) ?_
        refine gx_lconst (v := lI 0) X dX3_paint_35 rfl ?_
        refine gx_ldc2 (v := lI 7) X t_M_103 dX3_paint_36 ?_
        refine gx_callSI (As := [.long (lI v), .long (lI 0), .long (lI 7)]) (rest := []) X (hD _) lk_M_88 (c_M_in v 0 7 (by omega) (by omega) (by omega)) jn_nil rfl ⟨by decide, by decide⟩ (Nat.le_of_ble_eq_true rfl) dX3_paint_39 ?_
        have hq39_0 := M_in_sp v 0 7
        refine gx_if_ne (tgt := 48) X dX3_paint_42 (by decide) (by omega) (fun hc42 => ?_) (fun hc42 => ?_)
        · refine gx_aload_n X dX3_paint_48 rfl 0 rfl ?_
          refine gM_r16 X dX3_paint_49 ?_
          refine gx_bipush (z := 16) X dX3_paint_52 (by decide) ?_
          refine gx_iload_n X dX3_paint_54 rfl 1 rfl ?_
          refine gx_imul X dX3_paint_55 ?_
          refine gx_iload_n X dX3_paint_56 rfl 2 rfl ?_
          refine gx_iadd X dX3_paint_57 ?_
          refine gM_l16 (v := (S.2 16 ((16 * r) + c))) X (by omega) rfl dX3_paint_58 ?_
          have hr58 := InvM_a16 hI ((16 * r) + c)
          refine gx_istore X dX3_paint_59 (by decide) rfl ?_
          refine gx_aload_n X dX3_paint_61 rfl 1 rfl ?_
          refine gM_r16 X dX3_paint_62 ?_
          refine gx_bipush (z := 16) X dX3_paint_65 (by decide) ?_
          refine gx_iload_n X dX3_paint_67 rfl 2 rfl ?_
          refine gx_imul X dX3_paint_68 ?_
          refine gx_iload_n X dX3_paint_69 rfl 3 rfl ?_
          refine gx_iadd X dX3_paint_70 ?_
          refine gx_iload_n X dX3_paint_71 rfl 4 rfl ?_
          refine gM_s16 X (hD _) (by omega) dX3_paint_72 ?_
          refine gx_iload X dX3_paint_73 0 rfl ?_
          exact gx_iret hR (congrArg Prod.fst ((show M_paint S r c v = ((S.2 16 ((16 * r) + c)), (mA S 16 ((16 * r) + c) v)) from (if_pos hc10).trans ((if_neg hc24).trans ((if_neg hc30).trans (if_neg hc42)))))) (ret2 (fun z => (wM K q z)) ((show M_paint S r c v = ((S.2 16 ((16 * r) + c)), (mA S 16 ((16 * r) + c) v)) from (if_pos hc10).trans ((if_neg hc24).trans ((if_neg hc30).trans (if_neg hc42)))))) dX3_paint_75
        · refine gx_bipush (z := (-2)) X dX3_paint_45 (by decide) ?_
          exact gx_iret hR (congrArg Prod.fst ((show M_paint S r c v = ((-2), S) from (if_pos hc10).trans ((if_neg hc24).trans ((if_neg hc30).trans (if_pos hc42)))))) (ret2 (fun z => (wM K q z)) ((show M_paint S r c v = ((-2), S) from (if_pos hc10).trans ((if_neg hc24).trans ((if_neg hc30).trans (if_pos hc42)))))) dX3_paint_47
  · refine gx_iconst (z := (-1)) X dX3_paint_13 rfl ?_
    exact gx_iret hR (congrArg Prod.fst ((show M_paint S r c v = ((-1), S) from if_neg hc10))) (ret2 (fun z => (wM K q z)) ((show M_paint S r c v = ((-1), S) from if_neg hc10))) dX3_paint_14
def M_rule_m81 (m63 : Int) (S81 : Sta) : Int × Sta := (m63, S81)
def M_rule_m63 (S : Sta) (w : Int) (v : Int) (m63 : Int) : Int × Sta := M_rule_m81 m63 (if w = 0 then (mI S 3 v) else (mI S 4 v))
def M_rule_m39 (S : Sta) (w : Int) (v : Int) (m26 : Int) (m39 : Int) : Int × Sta := if (M_in v m26 m39) = 0 then ((-2), S) else M_rule_m63 S w v (if w = 0 then (S.1 3) else (S.1 4))
def M_rule_m26 (S : Sta) (w : Int) (v : Int) (m26 : Int) : Int × Sta := M_rule_m39 S w v m26 (if w = 0 then 30 else 9)
def M_rule (S : Sta) (w : Int) (v : Int) : Int × Sta := if (M_in w 0 1) = 0 then ((-2), S) else M_rule_m26 S w v (if w = 0 then 1 else 0)
set_option maxRecDepth 100000 in
theorem c_M_rule {l : Launch} {K : KK} {N : Int} (q : Nat → Nat) (S : Sta) (w : Int) (v : Int) (hI : InvW N S) (hp1 : ok32 w) (hp2 : ok32 v) : CtI l yX3_rule cX3_rule 4 .int (1, 25) K [.ref (q 0), .int (iI w), .int (iI v)] (wM K q S) (M_rule S w v).1 (wM K q ((M_rule S w v).2)) := by
  refine ctI_of (by decide) (Nat.le_of_ble_eq_true rfl) rfl ?_
  intro x X hD hR
  have hD : ∀ S9 : Sta, va_D (cx_A x) (wM K q S9) := fun S9 => va_D_same hD rfl
  have hs1 := InvM_s1 hI
  have hs2 := InvM_s2 hI
  have hs3 := InvM_s3 hI
  have hs4 := InvM_s4 hI
  refine gx_aload_n X dX3_rule_0 rfl 0 rfl ?_
  refine gx_iconst (z := 0) X dX3_rule_1 rfl ?_
  refine gM_t0 X (hD _) (InvM_t hI) dX3_rule_2 ?_
  refine gx_iload_n X dX3_rule_5 rfl 1 rfl ?_
  refine gx_i2l X dX3_rule_6 (by omega) ?_
  refine gx_lconst (v := lI 0) X dX3_rule_7 rfl ?_
  refine gx_lconst (v := lI 1) X dX3_rule_8 rfl ?_
  refine gx_callSI (As := [.long (lI w), .long (lI 0), .long (lI 1)]) (rest := []) X (hD _) lk_M_88 (c_M_in w 0 1 (by omega) (by omega) (by omega)) jn_nil rfl ⟨by decide, by decide⟩ (Nat.le_of_ble_eq_true rfl) dX3_rule_9 ?_
  have hq9_0 := M_in_sp w 0 1
  refine gx_if_eq (tgt := 45) X dX3_rule_12 (by decide) (by omega) (fun hc12 => ?_) (fun hc12 => ?_)
  · refine gx_bipush (z := (-2)) X dX3_rule_45 (by decide) ?_
    exact gx_iret hR (congrArg Prod.fst ((show M_rule S w v = ((-2), S) from if_pos hc12))) (ret2 (fun z => (wM K q z)) ((show M_rule S w v = ((-2), S) from if_pos hc12))) dX3_rule_47
  · refine gx_iload_n X dX3_rule_15 rfl 2 rfl ?_
    refine gx_i2l X dX3_rule_16 (by omega) ?_
    refine gx_iload_n X dX3_rule_17 rfl 1 rfl ?_
    have J26 : ∀ (m26 : Int), m26 = (if w = 0 then 1 else 0) → GG l (rmK (1, 25)) K x (wM K q S) 26 [(0, .ref (q 0)), (1, .int (iI w)), (2, .int (iI v))] [.long (lI m26), .long (lI v)] := by
      intro m26 e_m26
      refine gx_iload_n X dX3_rule_26 rfl 1 rfl ?_
      have J39 : ∀ (m39 : Int), m39 = (if w = 0 then 30 else 9) → GG l (rmK (1, 25)) K x (wM K q S) 39 [(0, .ref (q 0)), (1, .int (iI w)), (2, .int (iI v))] [.long (lI m39), .long (lI m26), .long (lI v)] := by
        intro m39 e_m39
        refine gx_callSI (As := [.long (lI v), .long (lI m26), .long (lI m39)]) (rest := []) X (hD _) lk_M_88 (c_M_in v m26 m39 (by omega) (by omega) (by omega)) jn_nil rfl ⟨by decide, by decide⟩ (Nat.le_of_ble_eq_true rfl) dX3_rule_39 ?_
        have hq39_0 := M_in_sp v m26 m39
        refine gx_if_ne (tgt := 48) X dX3_rule_42 (by decide) (by omega) (fun hc42 => ?_) (fun hc42 => ?_)
        · refine gx_iload_n X dX3_rule_48 rfl 1 rfl ?_
          have J63 : ∀ (m63 : Int), m63 = (if w = 0 then (S.1 3) else (S.1 4)) → GG l (rmK (1, 25)) K x (wM K q S) 63 [(0, .ref (q 0)), (1, .int (iI w)), (2, .int (iI v))] [.int (iI m63)] := by
            intro m63 e_m63
            refine gx_istore_n X dX3_rule_63 rfl (by decide) rfl ?_
            refine gx_iload_n X dX3_rule_64 rfl 2 rfl ?_
            have J81 : ∀ (S81 : Sta), S81 = (if w = 0 then (mI S 3 v) else (mI S 4 v)) → GG l (rmK (1, 25)) K x (wM K q S81) 81 [(0, .ref (q 0)), (1, .int (iI w)), (2, .int (iI v)), (3, .int (iI m63))] [] := by
              intro S81 e_S81
              refine gx_iload_n X dX3_rule_81 rfl 3 rfl ?_
              exact gx_iret hR (congrArg Prod.fst ((show M_rule S w v = (m63, S81) from (if_neg hc12).trans ((congrArg (fun z0 => M_rule_m26 S w v z0) e_m26.symm).trans ((congrArg (fun z0 => M_rule_m39 S w v m26 z0) e_m39.symm).trans ((if_neg hc42).trans ((congrArg (fun z0 => M_rule_m63 S w v z0) e_m63.symm).trans (congrArg (fun z0 => M_rule_m81 m63 z0) e_S81.symm)))))))) (ret2 (fun z => (wM K q z)) ((show M_rule S w v = (m63, S81) from (if_neg hc12).trans ((congrArg (fun z0 => M_rule_m26 S w v z0) e_m26.symm).trans ((congrArg (fun z0 => M_rule_m39 S w v m26 z0) e_m39.symm).trans ((if_neg hc42).trans ((congrArg (fun z0 => M_rule_m63 S w v z0) e_m63.symm).trans (congrArg (fun z0 => M_rule_m81 m63 z0) e_S81.symm)))))))) dX3_rule_82
            refine gx_if_ne (tgt := 76) X dX3_rule_65 (by decide) (by omega) (fun hc65 => ?_) (fun hc65 => ?_)
            · refine gx_aload_n X dX3_rule_76 rfl 1 rfl ?_
              refine gx_iload_n X dX3_rule_77 rfl 3 rfl ?_
              refine gM_p4 X (hD _) dX3_rule_78 ?_
              refine gx_sub [1, 2, 3, 0] rfl ?_
              exact J81 (mI S 4 v) ((if_neg hc65).symm) 
            · refine gx_aload_n X dX3_rule_68 rfl 1 rfl ?_
              refine gx_iload_n X dX3_rule_69 rfl 3 rfl ?_
              refine gM_p3 X (hD _) dX3_rule_70 ?_
              refine gx_goto (tgt := 81) X dX3_rule_73 (by decide) ?_
              refine gx_sub [1, 2, 3, 0] rfl ?_
              exact J81 (mI S 3 v) ((if_pos hc65).symm) 
          refine gx_if_ne (tgt := 59) X dX3_rule_49 (by decide) (by omega) (fun hc49 => ?_) (fun hc49 => ?_)
          · refine gx_aload_n X dX3_rule_59 rfl 0 rfl ?_
            refine gM_g4 (v := (S.1 4)) X rfl dX3_rule_60 ?_
            refine gx_sub [0, 1, 2] rfl ?_
            exact J63 (S.1 4) ((if_neg hc49).symm) 
          · refine gx_aload_n X dX3_rule_52 rfl 0 rfl ?_
            refine gM_g3 (v := (S.1 3)) X rfl dX3_rule_53 ?_
            refine gx_goto (tgt := 63) X dX3_rule_56 (by decide) ?_
            refine gx_sub [0, 1, 2] rfl ?_
            exact J63 (S.1 3) ((if_pos hc49).symm) 
        · refine gx_bipush (z := (-2)) X dX3_rule_45 (by decide) ?_
          exact gx_iret hR (congrArg Prod.fst ((show M_rule S w v = ((-2), S) from (if_neg hc12).trans ((congrArg (fun z0 => M_rule_m26 S w v z0) e_m26.symm).trans ((congrArg (fun z0 => M_rule_m39 S w v m26 z0) e_m39.symm).trans (if_pos hc42)))))) (ret2 (fun z => (wM K q z)) ((show M_rule S w v = ((-2), S) from (if_neg hc12).trans ((congrArg (fun z0 => M_rule_m26 S w v z0) e_m26.symm).trans ((congrArg (fun z0 => M_rule_m39 S w v m26 z0) e_m39.symm).trans (if_pos hc42)))))) dX3_rule_47
      refine gx_if_ne (tgt := 36) X dX3_rule_27 (by decide) (by omega) (fun hc27 => ?_) (fun hc27 => ?_)
      · refine gx_ldc2 (v := lI 9) X t_M_148 dX3_rule_36 ?_
        refine gx_sub [0, 1, 2] rfl ?_
        exact J39 9 ((if_neg hc27).symm) 
      · refine gx_ldc2 (v := lI 30) X t_M_146 dX3_rule_30 ?_
        refine gx_goto (tgt := 39) X dX3_rule_33 (by decide) ?_
        refine gx_sub [0, 1, 2] rfl ?_
        exact J39 30 ((if_pos hc27).symm) 
    refine gx_if_ne (tgt := 25) X dX3_rule_18 (by decide) (by omega) (fun hc18 => ?_) (fun hc18 => ?_)
    · refine gx_lconst (v := lI 0) X dX3_rule_25 rfl ?_
      refine gx_sub [0, 1, 2] rfl ?_
      exact J26 0 ((if_neg hc18).symm) 
    · refine gx_lconst (v := lI 1) X dX3_rule_21 rfl ?_
      refine gx_goto (tgt := 26) X dX3_rule_22 (by decide) ?_
      refine gx_sub [0, 1, 2] rfl ?_
      exact J26 1 ((if_pos hc18).symm) 
def M_unlike_l19 (S : Sta) (v2 : Int) : Nat → Int → Int → Int
  | 0, v1', v3 => v1'
  | fu + 1, v1', v3 => if (S.1 1) ≤ v3 then v1' else (fun (m48 : Int) => M_unlike_l19 S v2 fu (v1' + m48) (v3 + 1)) (if (M_fits S v2 v3 (M_colourOf S v2 v3)) = 0 then 1 else 0)
theorem M_unlike_l19_s (S : Sta) (v2 : Int) (fu : Nat) (v1' : Int) (v3 : Int) : M_unlike_l19 S v2 (fu + 1) v1' v3 = (if (S.1 1) ≤ v3 then v1' else (fun (m48 : Int) => M_unlike_l19 S v2 fu (v1' + m48) (v3 + 1)) (if (M_fits S v2 v3 (M_colourOf S v2 v3)) = 0 then 1 else 0)) := rfl
def M_unlike_l9 (S : Sta) : Nat → Int → Int → Int
  | 0, v1, v2 => v1
  | fu + 1, v1, v2 => if (M_seenRows S) ≤ v2 then v1 else (fun (z19 : Int) => M_unlike_l9 S fu z19 (v2 + 1)) (M_unlike_l19 S v2 (17) v1 0)
theorem M_unlike_l9_s (S : Sta) (fu : Nat) (v1 : Int) (v2 : Int) : M_unlike_l9 S (fu + 1) v1 v2 = (if (M_seenRows S) ≤ v2 then v1 else (fun (z19 : Int) => M_unlike_l9 S fu z19 (v2 + 1)) (M_unlike_l19 S v2 (17) v1 0)) := rfl
def M_unlike (S : Sta) : Int := (M_unlike_l9 S (31) 0 0)
set_option maxRecDepth 100000 in
theorem c_M_unlike {l : Launch} {K : KK} {N : Int} (q : Nat → Nat) (S : Sta) (hI : InvW N S) : CtI l yX3_unlike cX3_unlike 4 .int (1, 23) K [.ref (q 0)] (wM K q S) (M_unlike S) (wM K q S) := by
  refine ctI_of (by decide) (Nat.le_of_ble_eq_true rfl) rfl ?_
  intro x X hD hR
  have hD : ∀ S9 : Sta, va_D (cx_A x) (wM K q S9) := fun S9 => va_D_same hD rfl
  have hs1 := InvM_s1 hI
  have hs2 := InvM_s2 hI
  have hs3 := InvM_s3 hI
  have hs4 := InvM_s4 hI
  have hw := M_seenRows_sp S
  refine gx_aload_n X dX3_unlike_0 rfl 0 rfl ?_
  refine gx_iconst (z := 0) X dX3_unlike_1 rfl ?_
  refine gM_t0 X (hD _) (InvM_t hI) dX3_unlike_2 ?_
  refine gx_iconst (z := 0) X dX3_unlike_5 rfl ?_
  refine gx_istore_n X dX3_unlike_6 rfl (by decide) rfl ?_
  refine gx_iconst (z := 0) X dX3_unlike_7 rfl ?_
  refine gx_istore_n X dX3_unlike_8 rfl (by decide) rfl ?_
  have L9 : ∀ (fu : Nat) (v1 : Int) (v2 : Int), (0 ≤ v2) → (v2 ≤ (M_seenRows S)) → ((M_seenRows S) - v2) < (fu : Int) → (∀ z9 : Int, M_unlike_l9 S fu v1 v2 = z9 → True → GG l (rmK (1, 23)) K x (wM K q S) 62 [(0, .ref (q 0)), (1, .int (iI z9))] []) → GG l (rmK (1, 23)) K x (wM K q S) 9 [(0, .ref (q 0)), (1, .int (iI v1)), (2, .int (iI v2))] [] := by
    intro fu
    induction fu with
    | zero => intro v1 v2 hi9_0 hi9_1 hm9 K9; exact absurd hm9 (by omega)
    | succ fu ih =>
      intro v1 v2 hi9_0 hi9_1 hm9 K9
      refine gx_iload_n X dX3_unlike_9 rfl 2 rfl ?_
      refine gx_aload_n X dX3_unlike_10 rfl 0 rfl ?_
      refine gx_callVI (As := []) (rest := [.int (iI v2)]) X (hD _) lk_M_150 (ci := 3) rfl rfl 0 rfl (c_M_seenRows q S  hI) jn_all rfl ⟨by decide, by decide⟩ (Nat.le_of_ble_eq_true rfl) dX3_unlike_11 ?_
      have hq11_0 := M_seenRows_sp S 
      refine gx_icmp_ge (tgt := 62) X dX3_unlike_14 (by decide) (by omega) (fun hc14 => ?_) (fun hc14 => ?_)
      · refine gx_sub [0, 1] rfl ?_
        exact K9 v1 ((M_unlike_l9_s S fu v1 v2).trans (if_pos hc14)) trivial
      · refine gx_iconst (z := 0) X dX3_unlike_17 rfl ?_
        refine gx_istore_n X dX3_unlike_18 rfl (by decide) rfl ?_
        have L19 : ∀ (fu : Nat) (v1' : Int) (v3 : Int), (0 ≤ v3) → (v3 ≤ (S.1 1)) → ((S.1 1) - v3) < (fu : Int) → (∀ z19 : Int, M_unlike_l19 S v2 fu v1' v3 = z19 → True → GG l (rmK (1, 23)) K x (wM K q S) 56 [(0, .ref (q 0)), (1, .int (iI z19)), (2, .int (iI v2))] []) → GG l (rmK (1, 23)) K x (wM K q S) 19 [(0, .ref (q 0)), (1, .int (iI v1')), (2, .int (iI v2)), (3, .int (iI v3))] [] := by
          intro fu
          induction fu with
          | zero => intro v1' v3 hi19_0 hi19_1 hm19 K19; exact absurd hm19 (by omega)
          | succ fu ih =>
            intro v1' v3 hi19_0 hi19_1 hm19 K19
            refine gx_iload_n X dX3_unlike_19 rfl 3 rfl ?_
            refine gx_aload_n X dX3_unlike_20 rfl 0 rfl ?_
            refine gM_g1 (v := (S.1 1)) X rfl dX3_unlike_21 ?_
            refine gx_icmp_ge (tgt := 56) X dX3_unlike_24 (by decide) (by omega) (fun hc24 => ?_) (fun hc24 => ?_)
            · refine gx_sub [0, 1, 2] rfl ?_
              exact K19 v1' ((M_unlike_l19_s S v2 fu v1' v3).trans (if_pos hc24)) trivial
            · refine gx_iload_n X dX3_unlike_27 rfl 1 rfl ?_
              refine gx_aload_n X dX3_unlike_28 rfl 0 rfl ?_
              refine gx_iload_n X dX3_unlike_29 rfl 2 rfl ?_
              refine gx_iload_n X dX3_unlike_30 rfl 3 rfl ?_
              refine gx_aload_n X dX3_unlike_31 rfl 0 rfl ?_
              refine gx_iload_n X dX3_unlike_32 rfl 2 rfl ?_
              refine gx_iload_n X dX3_unlike_33 rfl 3 rfl ?_
              refine gx_callVI (As := [.int (iI v2), .int (iI v3)]) (rest := [.int (iI v3), .int (iI v2), .ref (q 0), .int (iI v1')]) X (hD _) lk_M_124 (ci := 3) rfl rfl 0 rfl (c_M_colourOf q S v2 v3 hI (by omega) (by omega)) jn_all rfl ⟨by decide, by decide⟩ (Nat.le_of_ble_eq_true rfl) dX3_unlike_34 ?_
              have hp34_0 := M_colourOf_rg S v2 v3 hI (by omega) (by omega)
              refine gx_callVI (As := [.int (iI v2), .int (iI v3), .int (iI (M_colourOf S v2 v3))]) (rest := [.int (iI v1')]) X (hD _) lk_M_154 (ci := 3) rfl rfl 0 rfl (c_M_fits q S v2 v3 (M_colourOf S v2 v3) hI (by omega) (by omega) (by omega)) jn_all rfl ⟨by decide, by decide⟩ (Nat.le_of_ble_eq_true rfl) dX3_unlike_37 ?_
              have hq37_0 := M_fits_01 S v2 v3 (M_colourOf S v2 v3)
              have J48 : ∀ (m48 : Int), m48 = (if (M_fits S v2 v3 (M_colourOf S v2 v3)) = 0 then 1 else 0) → GG l (rmK (1, 23)) K x (wM K q S) 48 [(0, .ref (q 0)), (1, .int (iI v1')), (2, .int (iI v2)), (3, .int (iI v3))] [.int (iI m48), .int (iI v1')] := by
                intro m48 e_m48
                refine gx_iadd X dX3_unlike_48 ?_
                refine gx_istore_n X dX3_unlike_49 rfl (by decide) rfl ?_
                refine gx_iinc X dX3_unlike_50 3 rfl (by decide) rfl ?_
                refine gx_goto (tgt := 19) X dX3_unlike_53 (by decide) ?_
                refine gx_sub [2, 1, 3, 0] rfl ?_
                subst e_m48
                exact ih _ _ (by omega) (by omega) (by omega) (fun z e hx => K19 z ((M_unlike_l19_s S v2 fu v1' v3).trans ((if_neg hc24).trans e)) hx)
              refine gx_if_eq (tgt := 47) X dX3_unlike_40 (by decide) (by omega) (fun hc40 => ?_) (fun hc40 => ?_)
              · refine gx_iconst (z := 1) X dX3_unlike_47 rfl ?_
                refine gx_sub [0, 1, 2, 3] rfl ?_
                exact J48 1 ((if_pos hc40).symm) 
              · refine gx_iconst (z := 0) X dX3_unlike_43 rfl ?_
                refine gx_goto (tgt := 48) X dX3_unlike_44 (by decide) ?_
                refine gx_sub [0, 1, 2, 3] rfl ?_
                exact J48 0 ((if_neg hc40).symm) 
        refine gx_sub [1, 2, 3, 0] rfl ?_
        refine L19 (17) v1 0 (by omega) (by omega) (by omega) (fun z19 e19 hx19 => ?_)
        refine gx_iinc X dX3_unlike_56 2 rfl (by decide) rfl ?_
        refine gx_goto (tgt := 9) X dX3_unlike_59 (by decide) ?_
        refine gx_sub [1, 2, 0] rfl ?_
        subst e19
        exact ih _ _ (by omega) (by omega) (by omega) (fun z e hx => K9 z ((M_unlike_l9_s S fu v1 v2).trans ((if_neg hc14).trans e)) hx)
  refine gx_sub [2, 1, 0] rfl ?_
  refine L9 (31) 0 0 (by omega) (by omega) (by omega) (fun z9 e9 hx9 => ?_)
  refine gx_iload_n X dX3_unlike_62 rfl 1 rfl ?_
  exact gx_iret hR (e9) rfl dX3_unlike_63
def M_lies (S : Sta) (c : Int) (t : Int) (p : Int) : Int := (S.2 1 ((4 * c) + (((p + 8) - t) % 4)))
theorem M_lies_rg {N : Int} (S : Sta) (c t p : Int) (hI : InvW N S) (_ : 0 ≤ c ∧ c < 16) (_ : 0 ≤ t ∧ t ≤ 3) (_ : 0 ≤ p ∧ p ≤ 3) : 0 ≤ M_lies S c t p ∧ M_lies S c t p ≤ 3 := InvM_a1 hI _
set_option maxRecDepth 100000 in
theorem c_M_lies {l : Launch} {K : KK} {N : Int} (q : Nat → Nat) (S : Sta) (c : Int) (t : Int) (p : Int) (hI : InvW N S) (hp1 : 0 ≤ c ∧ c < 16) (hp2 : 0 ≤ t ∧ t ≤ 3) (hp3 : 0 ≤ p ∧ p ≤ 3) : CtI l yX3_lies cX3_lies 4 .int (0, 0) K [.ref (q 0), .int (iI c), .int (iI t), .int (iI p)] (wM K q S) (M_lies S c t p) (wM K q S) := by
  refine ctI_of (by decide) (Nat.le_of_ble_eq_true rfl) rfl ?_
  intro x X hD hR
  have hD : ∀ S9 : Sta, va_D (cx_A x) (wM K q S9) := fun S9 => va_D_same hD rfl
  have hs1 := InvM_s1 hI
  have hs2 := InvM_s2 hI
  have hs3 := InvM_s3 hI
  have hs4 := InvM_s4 hI
  refine gx_aload_n X dX3_lies_0 rfl 0 rfl ?_
  refine gM_r1 X dX3_lies_1 ?_
  refine gx_iconst (z := 4) X dX3_lies_4 rfl ?_
  refine gx_iload_n X dX3_lies_5 rfl 1 rfl ?_
  refine gx_imul X dX3_lies_6 ?_
  refine gx_iload_n X dX3_lies_7 rfl 3 rfl ?_
  refine gx_bipush (z := 8) X dX3_lies_8 (by decide) ?_
  refine gx_iadd X dX3_lies_10 ?_
  refine gx_iload_n X dX3_lies_11 rfl 2 rfl ?_
  refine gx_isub X dX3_lies_12 ?_
  refine gx_iconst (z := 4) X dX3_lies_13 rfl ?_
  refine gx_irem X dX3_lies_14 (by omega) ?_
  refine gx_iadd X dX3_lies_15 ?_
  refine gM_l1 (v := (S.2 1 ((4 * c) + (((p + 8) - t) % 4)))) X (by omega) rfl dX3_lies_16 ?_
  have hr16 := InvM_a1 hI ((4 * c) + (((p + 8) - t) % 4))
  exact gx_iret hR (rfl) rfl dX3_lies_17
def M_spot (r : Int) (t : Int) (h : Int) (n : Int) (u : Int) : Int := (((((((((r * 4) + t) * 4) + h) * 10) + n) * 61) + u) + 30)
theorem M_spot_sp (r t h n u : Int) : M_spot r t h n u = 9760 * r + 2440 * t + 610 * h + 61 * n + u + 30 := by
  unfold M_spot
  omega
set_option maxRecDepth 100000 in
theorem c_M_spot {l : Launch} {K : KK} (r : Int) (t : Int) (h : Int) (n : Int) (u : Int)  : CtI l yX3_spot cX3_spot 5 .int (0, 0) K [.int (iI r), .int (iI t), .int (iI h), .int (iI n), .int (iI u)] [] (M_spot r t h n u) [] := by
  refine ctI_of (by decide) (Nat.le_of_ble_eq_true rfl) rfl ?_
  intro x X hD hR
  refine gx_iload_n X dX3_spot_0 rfl 0 rfl ?_
  refine gx_iconst (z := 4) X dX3_spot_1 rfl ?_
  refine gx_imul X dX3_spot_2 ?_
  refine gx_iload_n X dX3_spot_3 rfl 1 rfl ?_
  refine gx_iadd X dX3_spot_4 ?_
  refine gx_iconst (z := 4) X dX3_spot_5 rfl ?_
  refine gx_imul X dX3_spot_6 ?_
  refine gx_iload_n X dX3_spot_7 rfl 2 rfl ?_
  refine gx_iadd X dX3_spot_8 ?_
  refine gx_bipush (z := 10) X dX3_spot_9 (by decide) ?_
  refine gx_imul X dX3_spot_11 ?_
  refine gx_iload_n X dX3_spot_12 rfl 3 rfl ?_
  refine gx_iadd X dX3_spot_13 ?_
  refine gx_bipush (z := 61) X dX3_spot_14 (by decide) ?_
  refine gx_imul X dX3_spot_16 ?_
  refine gx_iload X dX3_spot_17 4 rfl ?_
  refine gx_iadd X dX3_spot_19 ?_
  refine gx_bipush (z := 30) X dX3_spot_20 (by decide) ?_
  refine gx_iadd X dX3_spot_22 ?_
  exact gx_iret hR (rfl) rfl dX3_spot_23
