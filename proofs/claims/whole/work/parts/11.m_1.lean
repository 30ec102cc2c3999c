def M_in (v : Int) (a : Int) (b : Int) : Int := if (zcmp v a) < 0 then 0 else if 0 < (zcmp v b) then 0 else 1
theorem M_in_01 (v : Int) (a : Int) (b : Int) : M_in v a b = 0 ∨ M_in v a b = 1 := by
  unfold M_in
  repeat (first | (exact Or.inl rfl) | (exact Or.inr rfl) | split)
theorem M_in_sp (v a b : Int) : (M_in v a b = 1 ∧ a ≤ v ∧ v ≤ b) ∨ (M_in v a b = 0 ∧ ¬ (a ≤ v ∧ v ≤ b)) := by
  have h1 := zcmp_lt v a
  have h2 := zcmp_gt v b
  unfold M_in
  split
  · right; exact ⟨rfl, by omega⟩
  · split
    · right; exact ⟨rfl, by omega⟩
    · left; exact ⟨rfl, by omega⟩
set_option maxRecDepth 100000 in
theorem c_M_in {l : Launch} {K : KK} (v : Int) (a : Int) (b : Int) (hp0 : ok32 v) (hp1 : ok32 a) (hp2 : ok32 b) : CtI l yX3_in cX3_in 6 .boolean (0, 0) K [.long (lI v), .long (lI a), .long (lI b)] [] (M_in v a b) [] := by
  refine ctI_of (by decide) (Nat.le_of_ble_eq_true rfl) (narrow_bool (M_in_01 v a b)) ?_
  intro x X hD hR
  refine gx_lload_n X dX3_in_0 rfl 0 rfl ?_
  refine gx_lload_n X dX3_in_1 rfl 1 rfl ?_
  refine gx_lcmpi X dX3_in_2 (by omega) ?_
  have ho2 := zcmp_ok v a
  have J18 : ∀ (m18 : Int), m18 = (if (zcmp v a) < 0 then 0 else if 0 < (zcmp v b) then 0 else 1) → GG l (rmK (0, 0)) K x [] 18 [(0, .long (lI v)), (2, .long (lI a)), (4, .long (lI b))] [.int (iI m18)] := by
    intro m18 e_m18
    exact gx_iret hR (e_m18.symm) rfl dX3_in_18
  refine gx_if_lt (tgt := 17) X dX3_in_3 (by decide) (by omega) (fun hc3 => ?_) (fun hc3 => ?_)
  · refine gx_iconst (z := 0) X dX3_in_17 rfl ?_
    refine gx_sub [0, 1, 2] rfl ?_
    exact J18 0 ((if_pos hc3).symm) 
  · refine gx_lload_n X dX3_in_6 rfl 0 rfl ?_
    refine gx_lload X dX3_in_7 2 rfl ?_
    refine gx_lcmpi X dX3_in_9 (by omega) ?_
    have ho9 := zcmp_ok v b
    refine gx_if_gt (tgt := 17) X dX3_in_10 (by decide) (by omega) (fun hc10 => ?_) (fun hc10 => ?_)
    · refine gx_iconst (z := 0) X dX3_in_17 rfl ?_
      refine gx_sub [0, 1, 2] rfl ?_
      exact J18 0 (((if_neg hc3).trans (if_pos hc10)).symm) 
    · refine gx_iconst (z := 1) X dX3_in_13 rfl ?_
      refine gx_goto (tgt := 18) X dX3_in_14 (by decide) ?_
      refine gx_sub [0, 1, 2] rfl ?_
      exact J18 1 (((if_neg hc3).trans (if_neg hc10)).symm) 
def M_size (v : Int) : Int := if 0 ≤ v then v else (-v)
theorem M_size_sp (v : Int) : (0 ≤ v ∧ M_size v = v) ∨ (v < 0 ∧ M_size v = -v) := by
  unfold M_size
  split <;> omega
set_option maxRecDepth 100000 in
theorem c_M_size {l : Launch} {K : KK} (v : Int) (hp0 : -2147483647 ≤ v ∧ v ≤ 2147483647) : CtI l yX3_size cX3_size 1 .int (0, 0) K [.int (iI v)] [] (M_size v) [] := by
  refine ctI_of (by decide) (Nat.le_of_ble_eq_true rfl) rfl ?_
  intro x X hD hR
  refine gx_iload_n X dX3_size_0 rfl 0 rfl ?_
  have J10 : ∀ (m10 : Int), m10 = (if 0 ≤ v then v else (-v)) → GG l (rmK (0, 0)) K x [] 10 [(0, .int (iI v))] [.int (iI m10)] := by
    intro m10 e_m10
    exact gx_iret hR (e_m10.symm) rfl dX3_size_10
  refine gx_if_ge (tgt := 9) X dX3_size_1 (by decide) (by omega) (fun hc1 => ?_) (fun hc1 => ?_)
  · refine gx_iload_n X dX3_size_9 rfl 0 rfl ?_
    refine gx_sub [0] rfl ?_
    exact J10 v ((if_pos hc1).symm) 
  · refine gx_iload_n X dX3_size_4 rfl 0 rfl ?_
    refine gx_ineg X dX3_size_5 ?_
    refine gx_goto (tgt := 10) X dX3_size_6 (by decide) ?_
    refine gx_sub [0] rfl ?_
    exact J10 (-v) ((if_neg hc1).symm) 
def M_noCard (S : Sta) (c : Int) : Int := if (M_in c 0 ((S.1 1) - 1)) = 0 then 1 else 0
theorem M_noCard_01 (S : Sta) (c : Int) : M_noCard S c = 0 ∨ M_noCard S c = 1 := by
  unfold M_noCard
  repeat (first | (exact Or.inl rfl) | (exact Or.inr rfl) | split)
theorem M_noCard_sp (S : Sta) (c : Int) : (M_noCard S c = 0 ∧ 0 ≤ c ∧ c < S.1 1) ∨ (M_noCard S c = 1 ∧ ¬ (0 ≤ c ∧ c < S.1 1)) := by
  have h := M_in_sp c 0 (S.1 1 - 1)
  unfold M_noCard
  split <;> omega
set_option maxRecDepth 100000 in
theorem c_M_noCard {l : Launch} {K : KK} {N : Int} (q : Nat → Nat) (S : Sta) (c : Int) (hI : InvW N S) (hp1 : ok32 c) : CtI l yX3_noCard cX3_noCard 2 .boolean (1, 25) K [.ref (q 0), .int (iI c)] (wM K q S) (M_noCard S c) (wM K q S) := by
  refine ctI_of (by decide) (Nat.le_of_ble_eq_true rfl) (narrow_bool (M_noCard_01 S c)) ?_
  intro x X hD hR
  have hD : ∀ S9 : Sta, va_D (cx_A x) (wM K q S9) := fun S9 => va_D_same hD rfl
  have hs1 := InvM_s1 hI
  have hs2 := InvM_s2 hI
  have hs3 := InvM_s3 hI
  have hs4 := InvM_s4 hI
  refine gx_iload_n X dX3_noCard_0 rfl 1 rfl ?_
  refine gx_i2l X dX3_noCard_1 (by omega) ?_
  refine gx_lconst (v := lI 0) X dX3_noCard_2 rfl ?_
  refine gx_aload_n X dX3_noCard_3 rfl 0 rfl ?_
  refine gM_g1 (v := (S.1 1)) X rfl dX3_noCard_4 ?_
  refine gx_iconst (z := 1) X dX3_noCard_7 rfl ?_
  refine gx_isub X dX3_noCard_8 ?_
  refine gx_i2l X dX3_noCard_9 (by omega) ?_
  refine gx_callSI (As := [.long (lI c), .long (lI 0), .long (lI ((S.1 1) - 1))]) (rest := []) X (hD _) lk_M_88 (c_M_in c 0 ((S.1 1) - 1) (by omega) (by omega) (by omega)) jn_nil rfl ⟨by decide, by decide⟩ (Nat.le_of_ble_eq_true rfl) dX3_noCard_10 ?_
  have hq10_0 := M_in_sp c 0 ((S.1 1) - 1)
  have J21 : ∀ (m21 : Int), m21 = (if (M_in c 0 ((S.1 1) - 1)) = 0 then 1 else 0) → GG l (rmK (1, 25)) K x (wM K q S) 21 [(0, .ref (q 0)), (1, .int (iI c))] [.int (iI m21)] := by
    intro m21 e_m21
    exact gx_iret hR (e_m21.symm) rfl dX3_noCard_21
  refine gx_if_ne (tgt := 20) X dX3_noCard_13 (by decide) (by omega) (fun hc13 => ?_) (fun hc13 => ?_)
  · refine gx_iconst (z := 0) X dX3_noCard_20 rfl ?_
    refine gx_sub [0, 1] rfl ?_
    exact J21 0 ((if_neg hc13).symm) 
  · refine gx_iconst (z := 1) X dX3_noCard_16 rfl ?_
    refine gx_goto (tgt := 21) X dX3_noCard_17 (by decide) ?_
    refine gx_sub [0, 1] rfl ?_
    exact J21 1 ((if_pos hc13).symm) 
def M_noPick (S : Sta) (c : Int) : Int := if (M_in c 0 ((S.1 2) - 1)) = 0 then 1 else 0
theorem M_noPick_01 (S : Sta) (c : Int) : M_noPick S c = 0 ∨ M_noPick S c = 1 := by
  unfold M_noPick
  repeat (first | (exact Or.inl rfl) | (exact Or.inr rfl) | split)
theorem M_noPick_sp (S : Sta) (c : Int) : (M_noPick S c = 0 ∧ 0 ≤ c ∧ c < S.1 2) ∨ (M_noPick S c = 1 ∧ ¬ (0 ≤ c ∧ c < S.1 2)) := by
  have h := M_in_sp c 0 (S.1 2 - 1)
  unfold M_noPick
  split <;> omega
set_option maxRecDepth 100000 in
theorem c_M_noPick {l : Launch} {K : KK} {N : Int} (q : Nat → Nat) (S : Sta) (c : Int) (hI : InvW N S) (hp1 : ok32 c) : CtI l yX3_noPick cX3_noPick 2 .boolean (1, 25) K [.ref (q 0), .int (iI c)] (wM K q S) (M_noPick S c) (wM K q S) := by
  refine ctI_of (by decide) (Nat.le_of_ble_eq_true rfl) (narrow_bool (M_noPick_01 S c)) ?_
  intro x X hD hR
  have hD : ∀ S9 : Sta, va_D (cx_A x) (wM K q S9) := fun S9 => va_D_same hD rfl
  have hs1 := InvM_s1 hI
  have hs2 := InvM_s2 hI
  have hs3 := InvM_s3 hI
  have hs4 := InvM_s4 hI
  refine gx_iload_n X dX3_noPick_0 rfl 1 rfl ?_
  refine gx_i2l X dX3_noPick_1 (by omega) ?_
  refine gx_lconst (v := lI 0) X dX3_noPick_2 rfl ?_
  refine gx_aload_n X dX3_noPick_3 rfl 0 rfl ?_
  refine gM_g2 (v := (S.1 2)) X rfl dX3_noPick_4 ?_
  refine gx_iconst (z := 1) X dX3_noPick_7 rfl ?_
  refine gx_isub X dX3_noPick_8 ?_
  refine gx_i2l X dX3_noPick_9 (by omega) ?_
  refine gx_callSI (As := [.long (lI c), .long (lI 0), .long (lI ((S.1 2) - 1))]) (rest := []) X (hD _) lk_M_88 (c_M_in c 0 ((S.1 2) - 1) (by omega) (by omega) (by omega)) jn_nil rfl ⟨by decide, by decide⟩ (Nat.le_of_ble_eq_true rfl) dX3_noPick_10 ?_
  have hq10_0 := M_in_sp c 0 ((S.1 2) - 1)
  have J21 : ∀ (m21 : Int), m21 = (if (M_in c 0 ((S.1 2) - 1)) = 0 then 1 else 0) → GG l (rmK (1, 25)) K x (wM K q S) 21 [(0, .ref (q 0)), (1, .int (iI c))] [.int (iI m21)] := by
    intro m21 e_m21
    exact gx_iret hR (e_m21.symm) rfl dX3_noPick_21
  refine gx_if_ne (tgt := 20) X dX3_noPick_13 (by decide) (by omega) (fun hc13 => ?_) (fun hc13 => ?_)
  · refine gx_iconst (z := 0) X dX3_noPick_20 rfl ?_
    refine gx_sub [0, 1] rfl ?_
    exact J21 0 ((if_neg hc13).symm) 
  · refine gx_iconst (z := 1) X dX3_noPick_16 rfl ?_
    refine gx_goto (tgt := 21) X dX3_noPick_17 (by decide) ?_
    refine gx_sub [0, 1] rfl ?_
    exact J21 1 ((if_pos hc13).symm) 
def M_begin_l22  : Nat → Int → Sta → Sta
  | 0, v2, S22 => S22
  | fu + 1, v2, S22 => if 64 ≤ v2 then S22 else M_begin_l22  fu (v2 + 1) (mA (mA S22 0 v2 (v2 % 4)) 1 v2 (v2 % 4))
theorem M_begin_l22_s  (fu : Nat) (v2 : Int) (S22 : Sta) : M_begin_l22  (fu + 1) v2 S22 = (if 64 ≤ v2 then S22 else M_begin_l22  fu (v2 + 1) (mA (mA S22 0 v2 (v2 % 4)) 1 v2 (v2 % 4))) := rfl
def M_begin_l54  : Nat → Int → Sta → Sta
  | 0, v2, S54 => S54
  | fu + 1, v2, S54 => if 16 ≤ v2 then S54 else M_begin_l54  fu (v2 + 1) (mA (mA (mA (mA (mA S54 2 v2 0) 3 v2 0) 4 v2 0) 5 v2 0) 6 v2 0)
theorem M_begin_l54_s  (fu : Nat) (v2 : Int) (S54 : Sta) : M_begin_l54  (fu + 1) v2 S54 = (if 16 ≤ v2 then S54 else M_begin_l54  fu (v2 + 1) (mA (mA (mA (mA (mA S54 2 v2 0) 3 v2 0) 4 v2 0) 5 v2 0) 6 v2 0)) := rfl
def M_begin_l103  : Nat → Int → Sta → Sta
  | 0, v2, S103 => S103
  | fu + 1, v2, S103 => if 480 ≤ v2 then S103 else M_begin_l103  fu (v2 + 1) (mA S103 16 v2 (-99))
theorem M_begin_l103_s  (fu : Nat) (v2 : Int) (S103 : Sta) : M_begin_l103  (fu + 1) v2 S103 = (if 480 ≤ v2 then S103 else M_begin_l103  fu (v2 + 1) (mA S103 16 v2 (-99))) := rfl
def M_begin_r54 (z54 : Sta) : Sta := (M_begin_l103  (481) 0 z54)
def M_begin_r22 (z22 : Sta) : Sta := (fun z54 => M_begin_r54 z54) (M_begin_l54  (17) 0 z22)
def M_begin (S : Sta) (n : Int) : Sta := (fun z22 => M_begin_r22 z22) (M_begin_l22  (65) 0 (mI (mI (mI (mI S 1 n) 2 0) 3 1) 4 3))
set_option maxRecDepth 100000 in
theorem c_M_begin {l : Launch} {K : KK} (q : Nat → Nat) (S : Sta) (n : Int) (hp0 : ok32 n) : CtV l yX3_begin cX3_begin 3 (0, 0) K [.ref (q 0), .int (iI n)] (wM K q S) (wM K q (M_begin S n)) := by
  refine ctV_of (by decide) (Nat.le_of_ble_eq_true rfl) ?_
  intro x X hD hR
  have hD : ∀ S9 : Sta, va_D (cx_A x) (wM K q S9) := fun S9 => va_D_same hD rfl
  refine gx_aload_n X dX3_begin_0 rfl 0 rfl ?_
  refine gx_iload_n X dX3_begin_1 rfl 1 rfl ?_
  refine gM_p1 X (hD _) dX3_begin_2 ?_
  refine gx_aload_n X dX3_begin_5 rfl 0 rfl ?_
  refine gx_iconst (z := 0) X dX3_begin_6 rfl ?_
  refine gM_p2 X (hD _) dX3_begin_7 ?_
  refine gx_aload_n X dX3_begin_10 rfl 0 rfl ?_
  refine gx_iconst (z := 1) X dX3_begin_11 rfl ?_
  refine gM_p3 X (hD _) dX3_begin_12 ?_
  refine gx_aload_n X dX3_begin_15 rfl 0 rfl ?_
  refine gx_iconst (z := 3) X dX3_begin_16 rfl ?_
  refine gM_p4 X (hD _) dX3_begin_17 ?_
  refine gx_iconst (z := 0) X dX3_begin_20 rfl ?_
  refine gx_istore_n X dX3_begin_21 rfl (by decide) rfl ?_
  have L22 : ∀ (fu : Nat) (v2 : Int) (S22 : Sta), (0 ≤ v2) → (v2 ≤ 64) → (64 - v2) < (fu : Int) → (∀ z22 : Sta, M_begin_l22  fu v2 S22 = z22 → True → GG l (rmK (0, 0)) K x (wM K q z22) 52 [(0, .ref (q 0)), (1, .int (iI n))] []) → GG l (rmK (0, 0)) K x (wM K q S22) 22 [(0, .ref (q 0)), (1, .int (iI n)), (2, .int (iI v2))] [] := by
    intro fu
    induction fu with
    | zero => intro v2 S22 hi22_0 hi22_1 hm22 K22; exact absurd hm22 (by omega)
    | succ fu ih =>
      intro v2 S22 hi22_0 hi22_1 hm22 K22
      refine gx_iload_n X dX3_begin_22 rfl 2 rfl ?_
      refine gx_bipush (z := 64) X dX3_begin_23 (by decide) ?_
      refine gx_icmp_ge (tgt := 52) X dX3_begin_25 (by decide) (by omega) (fun hc25 => ?_) (fun hc25 => ?_)
      · refine gx_sub [0, 1] rfl ?_
        exact K22 S22 ((M_begin_l22_s  fu v2 S22).trans (if_pos hc25)) trivial
      · refine gx_aload_n X dX3_begin_28 rfl 0 rfl ?_
        refine gM_r0 X dX3_begin_29 ?_
        refine gx_iload_n X dX3_begin_32 rfl 2 rfl ?_
        refine gx_iload_n X dX3_begin_33 rfl 2 rfl ?_
        refine gx_iconst (z := 4) X dX3_begin_34 rfl ?_
        refine gx_irem X dX3_begin_35 (by omega) ?_
        refine gM_s0 X (hD _) (by omega) dX3_begin_36 ?_
        refine gx_aload_n X dX3_begin_37 rfl 0 rfl ?_
        refine gM_r1 X dX3_begin_38 ?_
        refine gx_iload_n X dX3_begin_41 rfl 2 rfl ?_
        refine gx_iload_n X dX3_begin_42 rfl 2 rfl ?_
        refine gx_iconst (z := 4) X dX3_begin_43 rfl ?_
        refine gx_irem X dX3_begin_44 (by omega) ?_
        refine gM_s1 X (hD _) (by omega) dX3_begin_45 ?_
        refine gx_iinc X dX3_begin_46 2 rfl (by decide) rfl ?_
        refine gx_goto (tgt := 22) X dX3_begin_49 (by decide) ?_
        refine gx_sub [1, 2, 0] rfl ?_
        exact ih (v2 + 1) (mA (mA S22 0 v2 (v2 % 4)) 1 v2 (v2 % 4)) (by omega) (by omega) (by omega) (fun z e hx => K22 z ((M_begin_l22_s  fu v2 S22).trans ((if_neg hc25).trans e)) hx)
  refine gx_sub [1, 2, 0] rfl ?_
  refine L22 (65) 0 (mI (mI (mI (mI S 1 n) 2 0) 3 1) 4 3) (by omega) (by omega) (by omega) (fun z22 e22 hx22 => ?_)
  refine gx_iconst (z := 0) X dX3_begin_52 rfl ?_
  refine gx_istore_n X dX3_begin_53 rfl (by decide) rfl ?_
  have L54 : ∀ (fu : Nat) (v2 : Int) (S54 : Sta), (0 ≤ v2) → (v2 ≤ 16) → (16 - v2) < (fu : Int) → (∀ z54 : Sta, M_begin_l54  fu v2 S54 = z54 → True → GG l (rmK (0, 0)) K x (wM K q z54) 101 [(0, .ref (q 0)), (1, .int (iI n))] []) → GG l (rmK (0, 0)) K x (wM K q S54) 54 [(0, .ref (q 0)), (1, .int (iI n)), (2, .int (iI v2))] [] := by
    intro fu
    induction fu with
    | zero => intro v2 S54 hi54_0 hi54_1 hm54 K54; exact absurd hm54 (by omega)
    | succ fu ih =>
      intro v2 S54 hi54_0 hi54_1 hm54 K54
      refine gx_iload_n X dX3_begin_54 rfl 2 rfl ?_
      refine gx_bipush (z := 16) X dX3_begin_55 (by decide) ?_
      refine gx_icmp_ge (tgt := 101) X dX3_begin_57 (by decide) (by omega) (fun hc57 => ?_) (fun hc57 => ?_)
      · refine gx_sub [0, 1] rfl ?_
        exact K54 S54 ((M_begin_l54_s  fu v2 S54).trans (if_pos hc57)) trivial
      · refine gx_aload_n X dX3_begin_60 rfl 0 rfl ?_
        refine gM_r2 X dX3_begin_61 ?_
        refine gx_iload_n X dX3_begin_64 rfl 2 rfl ?_
        refine gx_iconst (z := 0) X dX3_begin_65 rfl ?_
        refine gM_s2 X (hD _) (by omega) dX3_begin_66 ?_
        refine gx_aload_n X dX3_begin_67 rfl 0 rfl ?_
        refine gM_r3 X dX3_begin_68 ?_
        refine gx_iload_n X dX3_begin_71 rfl 2 rfl ?_
        refine gx_iconst (z := 0) X dX3_begin_72 rfl ?_
        refine gM_s3 X (hD _) (by omega) dX3_begin_73 ?_
        refine gx_aload_n X dX3_begin_74 rfl 0 rfl ?_
        refine gM_r4 X dX3_begin_75 ?_
        refine gx_iload_n X dX3_begin_78 rfl 2 rfl ?_
        refine gx_iconst (z := 0) X dX3_begin_79 rfl ?_
        refine gM_s4 X (hD _) (by omega) dX3_begin_80 ?_
        refine gx_aload_n X dX3_begin_81 rfl 0 rfl ?_
        refine gM_r5 X dX3_begin_82 ?_
        refine gx_iload_n X dX3_begin_85 rfl 2 rfl ?_
        refine gx_iconst (z := 0) X dX3_begin_86 rfl ?_
        refine gM_s5 X (hD _) (by omega) dX3_begin_87 ?_
        refine gx_aload_n X dX3_begin_88 rfl 0 rfl ?_
        refine gM_r6 X dX3_begin_89 ?_
        refine gx_iload_n X dX3_begin_92 rfl 2 rfl ?_
        refine gx_iconst (z := 0) X dX3_begin_93 rfl ?_
        refine gM_s6 X (hD _) (by omega) dX3_begin_94 ?_
        refine gx_iinc X dX3_begin_95 2 rfl (by decide) rfl ?_
        refine gx_goto (tgt := 54) X dX3_begin_98 (by decide) ?_
        refine gx_sub [1, 2, 0] rfl ?_
        exact ih (v2 + 1) (mA (mA (mA (mA (mA S54 2 v2 0) 3 v2 0) 4 v2 0) 5 v2 0) 6 v2 0) (by omega) (by omega) (by omega) (fun z e hx => K54 z ((M_begin_l54_s  fu v2 S54).trans ((if_neg hc57).trans e)) hx)
  refine gx_sub [1, 2, 0] rfl ?_
  refine L54 (17) 0 z22 (by omega) (by omega) (by omega) (fun z54 e54 hx54 => ?_)
  refine gx_iconst (z := 0) X dX3_begin_101 rfl ?_
  refine gx_istore_n X dX3_begin_102 rfl (by decide) rfl ?_
  have L103 : ∀ (fu : Nat) (v2 : Int) (S103 : Sta), (0 ≤ v2) → (v2 ≤ 480) → (480 - v2) < (fu : Int) → (∀ z103 : Sta, M_begin_l103  fu v2 S103 = z103 → True → GG l (rmK (0, 0)) K x (wM K q z103) 124 [(0, .ref (q 0)), (1, .int (iI n))] []) → GG l (rmK (0, 0)) K x (wM K q S103) 103 [(0, .ref (q 0)), (1, .int (iI n)), (2, .int (iI v2))] [] := by
    intro fu
    induction fu with
    | zero => intro v2 S103 hi103_0 hi103_1 hm103 K103; exact absurd hm103 (by omega)
    | succ fu ih =>
      intro v2 S103 hi103_0 hi103_1 hm103 K103
      refine gx_iload_n X dX3_begin_103 rfl 2 rfl ?_
      refine gx_sipush (z := 480) X dX3_begin_104 (by decide) ?_
      refine gx_icmp_ge (tgt := 124) X dX3_begin_107 (by decide) (by omega) (fun hc107 => ?_) (fun hc107 => ?_)
      · refine gx_sub [0, 1] rfl ?_
        exact K103 S103 ((M_begin_l103_s  fu v2 S103).trans (if_pos hc107)) trivial
      · refine gx_aload_n X dX3_begin_110 rfl 0 rfl ?_
        refine gM_r16 X dX3_begin_111 ?_
        refine gx_iload_n X dX3_begin_114 rfl 2 rfl ?_
        refine gx_bipush (z := (-99)) X dX3_begin_115 (by decide) ?_
        refine gM_s16 X (hD _) (by omega) dX3_begin_117 ?_
        refine gx_iinc X dX3_begin_118 2 rfl (by decide) rfl ?_
        refine gx_goto (tgt := 103) X dX3_begin_121 (by decide) ?_
        refine gx_sub [1, 2, 0] rfl ?_
        exact ih (v2 + 1) (mA S103 16 v2 (-99)) (by omega) (by omega) (by omega) (fun z e hx => K103 z ((M_begin_l103_s  fu v2 S103).trans ((if_neg hc107).trans e)) hx)
  refine gx_sub [1, 2, 0] rfl ?_
  refine L103 (481) 0 z54 (by omega) (by omega) (by omega) (fun z103 e103 hx103 => ?_)
  exact gx_vret hR (congrArg (fun z : Sta => (wM K q z)) ((show M_begin S n = z103 from (congrArg (fun z22 => M_begin_r22 z22) e22).trans ((congrArg (fun z54 => M_begin_r54 z54) e54).trans (e103))))) dX3_begin_124
def M_cards (S : Sta) (n : Int) : Int × Sta := if (M_in n 1 16) = 0 then ((-2), S) else ((S.1 1), (M_begin S n))
set_option maxRecDepth 100000 in
theorem c_M_cards {l : Launch} {K : KK} {N : Int} (q : Nat → Nat) (S : Sta) (n : Int) (hI : InvW N S) (hp1 : ok32 n) : CtI l yX3_cards cX3_cards 3 .int (1, 25) K [.ref (q 0), .int (iI n)] (wM K q S) (M_cards S n).1 (wM K q ((M_cards S n).2)) := by
  refine ctI_of (by decide) (Nat.le_of_ble_eq_true rfl) rfl ?_
  intro x X hD hR
  have hD : ∀ S9 : Sta, va_D (cx_A x) (wM K q S9) := fun S9 => va_D_same hD rfl
  have hs1 := InvM_s1 hI
  have hs2 := InvM_s2 hI
  have hs3 := InvM_s3 hI
  have hs4 := InvM_s4 hI
  refine gx_aload_n X dX3_cards_0 rfl 0 rfl ?_
  refine gx_iconst (z := 0) X dX3_cards_1 rfl ?_
  refine gM_t0 X (hD _) (InvM_t hI) dX3_cards_2 ?_
  refine gx_iload_n X dX3_cards_5 rfl 1 rfl ?_
  refine gx_i2l X dX3_cards_6 (by omega) ?_
  refine gx_lconst (v := lI 1) X dX3_cards_7 rfl ?_
  refine gx_ldc2 (v := lI 16) X t_M_95 dX3_cards_8 ?_
  refine gx_callSI (As := [.long (lI n), .long (lI 1), .long (lI 16)]) (rest := []) X (hD _) lk_M_88 (c_M_in n 1 16 (by omega) (by omega) (by omega)) jn_nil rfl ⟨by decide, by decide⟩ (Nat.le_of_ble_eq_true rfl) dX3_cards_11 ?_
  have hq11_0 := M_in_sp n 1 16
  refine gx_if_ne (tgt := 20) X dX3_cards_14 (by decide) (by omega) (fun hc14 => ?_) (fun hc14 => ?_)
  · refine gx_aload_n X dX3_cards_20 rfl 0 rfl ?_
    refine gM_g1 (v := (S.1 1)) X rfl dX3_cards_21 ?_
    refine gx_istore_n X dX3_cards_24 rfl (by decide) rfl ?_
    refine gx_aload_n X dX3_cards_25 rfl 1 rfl ?_
    refine gx_iload_n X dX3_cards_26 rfl 2 rfl ?_
    refine gx_callVV (As := [.int (iI n)]) (rest := []) X (hD _) lk_M_81 (ci := 3) rfl rfl 0 rfl (c_M_begin q S n (by omega)) jn_all rfl ⟨by decide, by decide⟩ (Nat.le_of_ble_eq_true rfl) dX3_cards_27 ?_
    refine gx_iload_n X dX3_cards_30 rfl 0 rfl ?_
    exact gx_iret hR (congrArg Prod.fst ((show M_cards S n = ((S.1 1), (M_begin S n)) from if_neg hc14))) (ret2 (fun z => (wM K q z)) ((show M_cards S n = ((S.1 1), (M_begin S n)) from if_neg hc14))) dX3_cards_31
  · refine gx_bipush (z := (-2)) X dX3_cards_17 (by decide) ?_
    exact gx_iret hR (congrArg Prod.fst ((show M_cards S n = ((-2), S) from if_pos hc14))) (ret2 (fun z => (wM K q z)) ((show M_cards S n = ((-2), S) from if_pos hc14))) dX3_cards_19
def M_thread (S : Sta) (c : Int) (t : Int) (v : Int) : Int × Sta := if (M_noCard S c) = 0 then if (M_in t 0 3) = 0 then ((-1), S) else if (M_in v 0 7) = 0 then ((-2), S) else if (S.1 2) ≤ 0 then ((S.2 0 ((4 * c) + t)), (mA S 0 ((4 * c) + t) v)) else ((-3), S) else ((-1), S)
set_option maxRecDepth 100000 in
theorem c_M_thread {l : Launch} {K : KK} {N : Int} (q : Nat → Nat) (S : Sta) (c : Int) (t : Int) (v : Int) (hI : InvW N S) (hp1 : ok32 c) (hp2 : ok32 t) (hp3 : ok32 v) : CtI l yX3_thread cX3_thread 5 .int (2, 46) K [.ref (q 0), .int (iI c), .int (iI t), .int (iI v)] (wM K q S) (M_thread S c t v).1 (wM K q ((M_thread S c t v).2)) := by
  refine ctI_of (by decide) (Nat.le_of_ble_eq_true rfl) rfl ?_
  intro x X hD hR
  have hD : ∀ S9 : Sta, va_D (cx_A x) (wM K q S9) := fun S9 => va_D_same hD rfl
  have hs1 := InvM_s1 hI
  have hs2 := InvM_s2 hI
  have hs3 := InvM_s3 hI
  have hs4 := InvM_s4 hI
  refine gx_aload_n X dX3_thread_0 rfl 0 rfl ?_
  refine gx_iconst (z := 0) X dX3_thread_1 rfl ?_
  refine gM_t0 X (hD _) (InvM_t hI) dX3_thread_2 ?_
  refine gx_aload_n X dX3_thread_5 rfl 0 rfl ?_
  refine gx_iload_n X dX3_thread_6 rfl 1 rfl ?_
  refine gx_callVI (As := [.int (iI c)]) (rest := []) X (hD _) lk_M_97 (ci := 3) rfl rfl 0 rfl (c_M_noCard q S c hI (by omega)) jn_all rfl ⟨by decide, by decide⟩ (Nat.le_of_ble_eq_true rfl) dX3_thread_7 ?_
  have hq7_0 := M_noCard_sp S c
  refine gx_if_ne (tgt := 25) X dX3_thread_10 (by decide) (by omega) (fun hc10 => ?_) (fun hc10 => ?_)
  · refine gx_iconst (z := (-1)) X dX3_thread_25 rfl ?_
    exact gx_iret hR (congrArg Prod.fst ((show M_thread S c t v = ((-1), S) from if_neg hc10))) (ret2 (fun z => (wM K q z)) ((show M_thread S c t v = ((-1), S) from if_neg hc10))) dX3_thread_26
  · refine gx_iload_n X dX3_thread_13 rfl 2 rfl ?_
    refine gx_i2l X dX3_thread_14 (by omega) ?_
    refine gx_lconst (v := lI 0) X dX3_thread_15 rfl ?_
    refine gx_ldc2 (v := lI 3) X t_M_101 dX3_thread_16 ?_
    refine gx_callSI (As := [.long (lI t), .long (lI 0), .long (lI 3)]) (rest := []) X (hD _) lk_M_88 (c_M_in t 0 3 (by omega) (by omega) (by omega)) jn_nil rfl ⟨by decide, by decide⟩ (Nat.le_of_ble_eq_true rfl) dX3_thread_19 ?_
    have hq19_0 := M_in_sp t 0 3
    refine gx_if_ne (tgt := 27) X dX3_thread_22 (by decide) (by omega) (fun hc22 => ?_) (fun hc22 => ?_)
    · refine gx_iload_n X dX3_thread_27 rfl 3 rfl ?_
      refine gx_i2l X dX3_thread_28 (by omega) ?_
      refine gx_lconst (v := lI 0) X dX3_thread_29 rfl ?_
      refine gx_ldc2 (v := lI 7) X t_M_103 dX3_thread_30 ?_
      refine gx_callSI (As := [.long (lI v), .long (lI 0), .long (lI 7)]) (rest := []) X (hD _) lk_M_88 (c_M_in v 0 7 (by omega) (by omega) (by omega)) jn_nil rfl ⟨by decide, by decide⟩ (Nat.le_of_ble_eq_true rfl) dX3_thread_33 ?_
      have hq33_0 := M_in_sp v 0 7
      refine gx_if_ne (tgt := 42) X dX3_thread_36 (by decide) (by omega) (fun hc36 => ?_) (fun hc36 => ?_)
      · refine gx_aload_n X dX3_thread_42 rfl 0 rfl ?_
        refine gM_g2 (v := (S.1 2)) X rfl dX3_thread_43 ?_
        refine gx_if_le (tgt := 52) X dX3_thread_46 (by decide) (by omega) (fun hc46 => ?_) (fun hc46 => ?_)
        · refine gx_aload_n X dX3_thread_52 rfl 0 rfl ?_
          refine gM_r0 X dX3_thread_53 ?_
          refine gx_iconst (z := 4) X dX3_thread_56 rfl ?_
          refine gx_iload_n X dX3_thread_57 rfl 1 rfl ?_
          refine gx_imul X dX3_thread_58 ?_
          refine gx_iload_n X dX3_thread_59 rfl 2 rfl ?_
          refine gx_iadd X dX3_thread_60 ?_
          refine gM_l0 (v := (S.2 0 ((4 * c) + t))) X (by omega) rfl dX3_thread_61 ?_
          have hr61 := InvM_a0 hI ((4 * c) + t)
          refine gx_istore X dX3_thread_62 (by decide) rfl ?_
          refine gx_aload_n X dX3_thread_64 rfl 1 rfl ?_
          refine gM_r0 X dX3_thread_65 ?_
          refine gx_iconst (z := 4) X dX3_thread_68 rfl ?_
          refine gx_iload_n X dX3_thread_69 rfl 2 rfl ?_
          refine gx_imul X dX3_thread_70 ?_
          refine gx_iload_n X dX3_thread_71 rfl 3 rfl ?_
          refine gx_iadd X dX3_thread_72 ?_
          refine gx_iload_n X dX3_thread_73 rfl 4 rfl ?_
          refine gM_s0 X (hD _) (by omega) dX3_thread_74 ?_
          refine gx_iload X dX3_thread_75 0 rfl ?_
          exact gx_iret hR (congrArg Prod.fst ((show M_thread S c t v = ((S.2 0 ((4 * c) + t)), (mA S 0 ((4 * c) + t) v)) from (if_pos hc10).trans ((if_neg hc22).trans ((if_neg hc36).trans (if_pos hc46)))))) (ret2 (fun z => (wM K q z)) ((show M_thread S c t v = ((S.2 0 ((4 * c) + t)), (mA S 0 ((4 * c) + t) v)) from (if_pos hc10).trans ((if_neg hc22).trans ((if_neg hc36).trans (if_pos hc46)))))) dX3_thread_77
        · refine gx_bipush (z := (-3)) X dX3_thread_49 (by decide) ?_
          exact gx_iret hR (congrArg Prod.fst ((show M_thread S c t v = ((-3), S) from (if_pos hc10).trans ((if_neg hc22).trans ((if_neg hc36).trans (if_neg hc46)))))) (ret2 (fun z => (wM K q z)) ((show M_thread S c t v = ((-3), S) from (if_pos hc10).trans ((if_neg hc22).trans ((if_neg hc36).trans (if_neg hc46)))))) dX3_thread_51
      · refine gx_bipush (z := (-2)) X dX3_thread_39 (by decide) ?_
        exact gx_iret hR (congrArg Prod.fst ((show M_thread S c t v = ((-2), S) from (if_pos hc10).trans ((if_neg hc22).trans (if_pos hc36))))) (ret2 (fun z => (wM K q z)) ((show M_thread S c t v = ((-2), S) from (if_pos hc10).trans ((if_neg hc22).trans (if_pos hc36))))) dX3_thread_41
    · refine gx_iconst (z := (-1)) X dX3_thread_25 rfl ?_
      exact gx_iret hR (congrArg Prod.fst ((show M_thread S c t v = ((-1), S) from (if_pos hc10).trans (if_pos hc22)))) (ret2 (fun z => (wM K q z)) ((show M_thread S c t v = ((-1), S) from (if_pos hc10).trans (if_pos hc22)))) dX3_thread_26
def M_way (S : Sta) (c : Int) (v : Int) : Int × Sta := if (M_noCard S c) = 0 then if (M_in v 0 1) = 0 then ((-2), S) else if (S.1 2) ≤ 0 then ((S.2 2 c), (mA S 2 c v)) else ((-3), S) else ((-1), S)
set_option maxRecDepth 100000 in
theorem c_M_way {l : Launch} {K : KK} {N : Int} (q : Nat → Nat) (S : Sta) (c : Int) (v : Int) (hI : InvW N S) (hp1 : ok32 c) (hp2 : ok32 v) : CtI l yX3_way cX3_way 4 .int (2, 46) K [.ref (q 0), .int (iI c), .int (iI v)] (wM K q S) (M_way S c v).1 (wM K q ((M_way S c v).2)) := by
  refine ctI_of (by decide) (Nat.le_of_ble_eq_true rfl) rfl ?_
  intro x X hD hR
  have hD : ∀ S9 : Sta, va_D (cx_A x) (wM K q S9) := fun S9 => va_D_same hD rfl
  have hs1 := InvM_s1 hI
  have hs2 := InvM_s2 hI
  have hs3 := InvM_s3 hI
  have hs4 := InvM_s4 hI
  refine gx_aload_n X dX3_way_0 rfl 0 rfl ?_
  refine gx_iconst (z := 0) X dX3_way_1 rfl ?_
  refine gM_t0 X (hD _) (InvM_t hI) dX3_way_2 ?_
  refine gx_aload_n X dX3_way_5 rfl 0 rfl ?_
  refine gx_iload_n X dX3_way_6 rfl 1 rfl ?_
  refine gx_callVI (As := [.int (iI c)]) (rest := []) X (hD _) lk_M_97 (ci := 3) rfl rfl 0 rfl (c_M_noCard q S c hI (by omega)) jn_all rfl ⟨by decide, by decide⟩ (Nat.le_of_ble_eq_true rfl) dX3_way_7 ?_
  have hq7_0 := M_noCard_sp S c
  refine gx_if_eq (tgt := 15) X dX3_way_10 (by decide) (by omega) (fun hc10 => ?_) (fun hc10 => ?_)
  · refine gx_iload_n X dX3_way_15 rfl 2 rfl ?_
    refine gx_i2l X dX3_way_16 (by omega) ?_
    refine gx_lconst (v := lI 0) X dX3_way_17 rfl ?_
    refine gx_lconst (v := lI 1) X dX3_way_18 rfl ?_
    refine gx_callSI (As := [.long (lI v), .long (lI 0), .long (lI 1)]) (rest := []) X (hD _) lk_M_88 (c_M_in v 0 1 (by omega) (by omega) (by omega)) jn_nil rfl ⟨by decide, by decide⟩ (Nat.le_of_ble_eq_true rfl) dX3_way_19 ?_
    have hq19_0 := M_in_sp v 0 1
    refine gx_if_ne (tgt := 28) X dX3_way_22 (by decide) (by omega) (fun hc22 => ?_) (fun hc22 => ?_)
    · refine gx_aload_n X dX3_way_28 rfl 0 rfl ?_
      refine gM_g2 (v := (S.1 2)) X rfl dX3_way_29 ?_
      refine gx_if_le (tgt := 38) X dX3_way_32 (by decide) (by omega) (fun hc32 => ?_) (fun hc32 => ?_)
      · refine gx_aload_n X dX3_way_38 rfl 0 rfl ?_
        refine gM_r2 X dX3_way_39 ?_
        refine gx_iload_n X dX3_way_42 rfl 1 rfl ?_
        refine gM_l2 (v := (S.2 2 c)) X (by omega) rfl dX3_way_43 ?_
        have hr43 := InvM_a2 hI c
        refine gx_istore_n X dX3_way_44 rfl (by decide) rfl ?_
        refine gx_aload_n X dX3_way_45 rfl 1 rfl ?_
        refine gM_r2 X dX3_way_46 ?_
        refine gx_iload_n X dX3_way_49 rfl 2 rfl ?_
        refine gx_iload_n X dX3_way_50 rfl 3 rfl ?_
        refine gM_s2 X (hD _) (by omega) dX3_way_51 ?_
        refine gx_iload_n X dX3_way_52 rfl 0 rfl ?_
        exact gx_iret hR (congrArg Prod.fst ((show M_way S c v = ((S.2 2 c), (mA S 2 c v)) from (if_pos hc10).trans ((if_neg hc22).trans (if_pos hc32))))) (ret2 (fun z => (wM K q z)) ((show M_way S c v = ((S.2 2 c), (mA S 2 c v)) from (if_pos hc10).trans ((if_neg hc22).trans (if_pos hc32))))) dX3_way_53
      · refine gx_bipush (z := (-3)) X dX3_way_35 (by decide) ?_
        exact gx_iret hR (congrArg Prod.fst ((show M_way S c v = ((-3), S) from (if_pos hc10).trans ((if_neg hc22).trans (if_neg hc32))))) (ret2 (fun z => (wM K q z)) ((show M_way S c v = ((-3), S) from (if_pos hc10).trans ((if_neg hc22).trans (if_neg hc32))))) dX3_way_37
    · refine gx_bipush (z := (-2)) X dX3_way_25 (by decide) ?_
      exact gx_iret hR (congrArg Prod.fst ((show M_way S c v = ((-2), S) from (if_pos hc10).trans (if_pos hc22)))) (ret2 (fun z => (wM K q z)) ((show M_way S c v = ((-2), S) from (if_pos hc10).trans (if_pos hc22)))) dX3_way_27
  · refine gx_iconst (z := (-1)) X dX3_way_13 rfl ?_
    exact gx_iret hR (congrArg Prod.fst ((show M_way S c v = ((-1), S) from if_neg hc10))) (ret2 (fun z => (wM K q z)) ((show M_way S c v = ((-1), S) from if_neg hc10))) dX3_way_14
def M_flip (S : Sta) (c : Int) : Int × Sta := if (M_noCard S c) = 0 then ((1 - (S.2 2 c)), (mA (mA (mA (mA (mA (mA S 1 (4 * c) (S.2 1 ((4 * c) + 1))) 1 ((4 * c) + 1) (S.2 1 (4 * c))) 1 ((4 * c) + 2) ((mA (mA S 1 (4 * c) (S.2 1 ((4 * c) + 1))) 1 ((4 * c) + 1) (S.2 1 (4 * c))).2 1 ((4 * c) + 3))) 1 ((4 * c) + 3) ((mA (mA S 1 (4 * c) (S.2 1 ((4 * c) + 1))) 1 ((4 * c) + 1) (S.2 1 (4 * c))).2 1 ((4 * c) + 2))) 2 c (1 - (S.2 2 c))) 6 c ((S.2 6 c) + 1))) else ((-1), S)
set_option maxRecDepth 100000 in
theorem c_M_flip {l : Launch} {K : KK} {N : Int} (q : Nat → Nat) (S : Sta) (c : Int) (hI : InvW N S) (hp1 : ok32 c) : CtI l yX3_flip cX3_flip 4 .int (2, 46) K [.ref (q 0), .int (iI c)] (wM K q S) (M_flip S c).1 (wM K q ((M_flip S c).2)) := by
  refine ctI_of (by decide) (Nat.le_of_ble_eq_true rfl) rfl ?_
  intro x X hD hR
  have hD : ∀ S9 : Sta, va_D (cx_A x) (wM K q S9) := fun S9 => va_D_same hD rfl
  have hs1 := InvM_s1 hI
  have hs2 := InvM_s2 hI
  have hs3 := InvM_s3 hI
  have hs4 := InvM_s4 hI
  refine gx_aload_n X dX3_flip_0 rfl 0 rfl ?_
  refine gx_iconst (z := 0) X dX3_flip_1 rfl ?_
  refine gM_t0 X (hD _) (InvM_t hI) dX3_flip_2 ?_
  refine gx_aload_n X dX3_flip_5 rfl 0 rfl ?_
  refine gx_iload_n X dX3_flip_6 rfl 1 rfl ?_
  refine gx_callVI (As := [.int (iI c)]) (rest := []) X (hD _) lk_M_97 (ci := 3) rfl rfl 0 rfl (c_M_noCard q S c hI (by omega)) jn_all rfl ⟨by decide, by decide⟩ (Nat.le_of_ble_eq_true rfl) dX3_flip_7 ?_
  have hq7_0 := M_noCard_sp S c
  refine gx_if_eq (tgt := 15) X dX3_flip_10 (by decide) (by omega) (fun hc10 => ?_) (fun hc10 => ?_)
  · refine gx_iconst (z := 4) X dX3_flip_15 rfl ?_
    refine gx_iload_n X dX3_flip_16 rfl 1 rfl ?_
    refine gx_imul X dX3_flip_17 ?_
    refine gx_istore_n X dX3_flip_18 rfl (by decide) rfl ?_
    refine gx_aload_n X dX3_flip_19 rfl 1 rfl ?_
    refine gM_r1 X dX3_flip_20 ?_
    refine gx_iload_n X dX3_flip_23 rfl 0 rfl ?_
    refine gM_l1 (v := (S.2 1 (4 * c))) X (by omega) rfl dX3_flip_24 ?_
    have hr24 := InvM_a1 hI (4 * c)
    refine gx_istore_n X dX3_flip_25 rfl (by decide) rfl ?_
    refine gx_aload_n X dX3_flip_26 rfl 2 rfl ?_
    refine gM_r1 X dX3_flip_27 ?_
    refine gx_iload_n X dX3_flip_30 rfl 1 rfl ?_
    refine gx_aload_n X dX3_flip_31 rfl 2 rfl ?_
    refine gM_r1 X dX3_flip_32 ?_
    refine gx_iload_n X dX3_flip_35 rfl 1 rfl ?_
    refine gx_iconst (z := 1) X dX3_flip_36 rfl ?_
    refine gx_iadd X dX3_flip_37 ?_
    refine gM_l1 (v := (S.2 1 ((4 * c) + 1))) X (by omega) rfl dX3_flip_38 ?_
    have hr38 := InvM_a1 hI ((4 * c) + 1)
    refine gM_s1 X (hD _) (by omega) dX3_flip_39 ?_
    refine gx_aload_n X dX3_flip_40 rfl 2 rfl ?_
    refine gM_r1 X dX3_flip_41 ?_
    refine gx_iload_n X dX3_flip_44 rfl 1 rfl ?_
    refine gx_iconst (z := 1) X dX3_flip_45 rfl ?_
    refine gx_iadd X dX3_flip_46 ?_
    refine gx_iload_n X dX3_flip_47 rfl 0 rfl ?_
    refine gM_s1 X (hD _) (by omega) dX3_flip_48 ?_
    refine gx_aload_n X dX3_flip_49 rfl 2 rfl ?_
    refine gM_r1 X dX3_flip_50 ?_
    refine gx_iload_n X dX3_flip_53 rfl 1 rfl ?_
    refine gx_iconst (z := 2) X dX3_flip_54 rfl ?_
    refine gx_iadd X dX3_flip_55 ?_
    refine gM_l1 (v := ((mA (mA S 1 (4 * c) (S.2 1 ((4 * c) + 1))) 1 ((4 * c) + 1) (S.2 1 (4 * c))).2 1 ((4 * c) + 2))) X (by omega) rfl dX3_flip_56 ?_
    refine gx_istore_n X dX3_flip_57 rfl (by decide) rfl ?_
    refine gx_aload_n X dX3_flip_58 rfl 2 rfl ?_
    refine gM_r1 X dX3_flip_59 ?_
    refine gx_iload_n X dX3_flip_62 rfl 1 rfl ?_
    refine gx_iconst (z := 2) X dX3_flip_63 rfl ?_
    refine gx_iadd X dX3_flip_64 ?_
    refine gx_aload_n X dX3_flip_65 rfl 2 rfl ?_
    refine gM_r1 X dX3_flip_66 ?_
    refine gx_iload_n X dX3_flip_69 rfl 1 rfl ?_
    refine gx_iconst (z := 3) X dX3_flip_70 rfl ?_
    refine gx_iadd X dX3_flip_71 ?_
    refine gM_l1 (v := ((mA (mA S 1 (4 * c) (S.2 1 ((4 * c) + 1))) 1 ((4 * c) + 1) (S.2 1 (4 * c))).2 1 ((4 * c) + 3))) X (by omega) rfl dX3_flip_72 ?_
    refine gM_s1 X (hD _) (by omega) dX3_flip_73 ?_
    refine gx_aload_n X dX3_flip_74 rfl 2 rfl ?_
    refine gM_r1 X dX3_flip_75 ?_
    refine gx_iload_n X dX3_flip_78 rfl 1 rfl ?_
    refine gx_iconst (z := 3) X dX3_flip_79 rfl ?_
    refine gx_iadd X dX3_flip_80 ?_
    refine gx_iload_n X dX3_flip_81 rfl 0 rfl ?_
    refine gM_s1 X (hD _) (by omega) dX3_flip_82 ?_
    refine gx_aload_n X dX3_flip_83 rfl 2 rfl ?_
    refine gM_r2 X dX3_flip_84 ?_
    refine gx_iload_n X dX3_flip_87 rfl 3 rfl ?_
    refine gx_iconst (z := 1) X dX3_flip_88 rfl ?_
    refine gx_aload_n X dX3_flip_89 rfl 2 rfl ?_
    refine gM_r2 X dX3_flip_90 ?_
    refine gx_iload_n X dX3_flip_93 rfl 3 rfl ?_
    refine gM_l2 (v := (S.2 2 c)) X (by omega) rfl dX3_flip_94 ?_
    have hr94 := InvM_a2 hI c
    refine gx_isub X dX3_flip_95 ?_
    refine gM_s2 X (hD _) (by omega) dX3_flip_96 ?_
    refine gx_aload_n X dX3_flip_97 rfl 2 rfl ?_
    refine gM_r6 X dX3_flip_98 ?_
    refine gx_iload_n X dX3_flip_101 rfl 3 rfl ?_
    refine gx_dup2 X dX3_flip_102 rfl rfl ?_
    refine gM_l6 (v := (S.2 6 c)) X (by omega) rfl dX3_flip_103 ?_
    have hr103 := InvM_a6 hI c
    refine gx_iconst (z := 1) X dX3_flip_104 rfl ?_
    refine gx_iadd X dX3_flip_105 ?_
    refine gM_s6 X (hD _) (by omega) dX3_flip_106 ?_
    refine gx_aload_n X dX3_flip_107 rfl 2 rfl ?_
    refine gM_r2 X dX3_flip_108 ?_
    refine gx_iload_n X dX3_flip_111 rfl 3 rfl ?_
    refine gM_l2 (v := (1 - (S.2 2 c))) X (by omega) (iu_same _ _ _) dX3_flip_112 ?_
    exact gx_iret hR (congrArg Prod.fst ((show M_flip S c = ((1 - (S.2 2 c)), (mA (mA (mA (mA (mA (mA S 1 (4 * c) (S.2 1 ((4 * c) + 1))) 1 ((4 * c) + 1) (S.2 1 (4 * c))) 1 ((4 * c) + 2) ((mA (mA S 1 (4 * c) (S.2 1 ((4 * c) + 1))) 1 ((4 * c) + 1) (S.2 1 (4 * c))).2 1 ((4 * c) + 3))) 1 ((4 * c) + 3) ((mA (mA S 1 (4 * c) (S.2 1 ((4 * c) + 1))) 1 ((4 * c) + 1) (S.2 1 (4 * c))).2 1 ((4 * c) + 2))) 2 c (1 - (S.2 2 c))) 6 c ((S.2 6 c) + 1))) from if_pos hc10))) (ret2 (fun z => (wM K q z)) ((show M_flip S c = ((1 - (S.2 2 c)), (mA (mA (mA (mA (mA (mA S 1 (4 * c) (S.2 1 ((4 * c) + 1))) 1 ((4 * c) + 1) (S.2 1 (4 * c))) 1 ((4 * c) + 2) ((mA (mA S 1 (4 * c) (S.2 1 ((4 * c) + 1))) 1 ((4 * c) + 1) (S.2 1 (4 * c))).2 1 ((4 * c) + 3))) 1 ((4 * c) + 3) ((mA (mA S 1 (4 * c) (S.2 1 ((4 * c) + 1))) 1 ((4 * c) + 1) (S.2 1 (4 * c))).2 1 ((4 * c) + 2))) 2 c (1 - (S.2 2 c))) 6 c ((S.2 6 c) + 1))) from if_pos hc10))) dX3_flip_113
  · refine gx_iconst (z := (-1)) X dX3_flip_13 rfl ?_
    exact gx_iret hR (congrArg Prod.fst ((show M_flip S c = ((-1), S) from if_neg hc10))) (ret2 (fun z => (wM K q z)) ((show M_flip S c = ((-1), S) from if_neg hc10))) dX3_flip_14
def M_pack (S : Sta) (c : Int) (p : Int) : Int × Sta := if (M_noCard S c) = 0 then if (M_in p 0 3) = 0 then ((-1), S) else ((S.2 3 c), (mA S 3 c p)) else ((-1), S)
set_option maxRecDepth 100000 in
theorem c_M_pack {l : Launch} {K : KK} {N : Int} (q : Nat → Nat) (S : Sta) (c : Int) (p : Int) (hI : InvW N S) (hp1 : ok32 c) (hp2 : ok32 p) : CtI l yX3_pack cX3_pack 4 .int (2, 46) K [.ref (q 0), .int (iI c), .int (iI p)] (wM K q S) (M_pack S c p).1 (wM K q ((M_pack S c p).2)) := by
  refine ctI_of (by decide) (Nat.le_of_ble_eq_true rfl) rfl ?_
  intro x X hD hR
  have hD : ∀ S9 : Sta, va_D (cx_A x) (wM K q S9) := fun S9 => va_D_same hD rfl
  have hs1 := InvM_s1 hI
  have hs2 := InvM_s2 hI
  have hs3 := InvM_s3 hI
  have hs4 := InvM_s4 hI
  refine gx_aload_n X dX3_pack_0 rfl 0 rfl ?_
  refine gx_iconst (z := 0) X dX3_pack_1 rfl ?_
  refine gM_t0 X (hD _) (InvM_t hI) dX3_pack_2 ?_
  refine gx_aload_n X dX3_pack_5 rfl 0 rfl ?_
  refine gx_iload_n X dX3_pack_6 rfl 1 rfl ?_
  refine gx_callVI (As := [.int (iI c)]) (rest := []) X (hD _) lk_M_97 (ci := 3) rfl rfl 0 rfl (c_M_noCard q S c hI (by omega)) jn_all rfl ⟨by decide, by decide⟩ (Nat.le_of_ble_eq_true rfl) dX3_pack_7 ?_
  have hq7_0 := M_noCard_sp S c
  refine gx_if_ne (tgt := 25) X dX3_pack_10 (by decide) (by omega) (fun hc10 => ?_) (fun hc10 => ?_)
  · refine gx_iconst (z := (-1)) X dX3_pack_25 rfl ?_
    exact gx_iret hR (congrArg Prod.fst ((show M_pack S c p = ((-1), S) from if_neg hc10))) (ret2 (fun z => (wM K q z)) ((show M_pack S c p = ((-1), S) from if_neg hc10))) dX3_pack_26
  · refine gx_iload_n X dX3_pack_13 rfl 2 rfl ?_
    refine gx_i2l X dX3_pack_14 (by omega) ?_
    refine gx_lconst (v := lI 0) X dX3_pack_15 rfl ?_
    refine gx_ldc2 (v := lI 3) X t_M_101 dX3_pack_16 ?_
    refine gx_callSI (As := [.long (lI p), .long (lI 0), .long (lI 3)]) (rest := []) X (hD _) lk_M_88 (c_M_in p 0 3 (by omega) (by omega) (by omega)) jn_nil rfl ⟨by decide, by decide⟩ (Nat.le_of_ble_eq_true rfl) dX3_pack_19 ?_
    have hq19_0 := M_in_sp p 0 3
    refine gx_if_ne (tgt := 27) X dX3_pack_22 (by decide) (by omega) (fun hc22 => ?_) (fun hc22 => ?_)
    · refine gx_aload_n X dX3_pack_27 rfl 0 rfl ?_
      refine gM_r3 X dX3_pack_28 ?_
      refine gx_iload_n X dX3_pack_31 rfl 1 rfl ?_
      refine gM_l3 (v := (S.2 3 c)) X (by omega) rfl dX3_pack_32 ?_
      have hr32 := InvM_a3 hI c
      refine gx_istore_n X dX3_pack_33 rfl (by decide) rfl ?_
      refine gx_aload_n X dX3_pack_34 rfl 1 rfl ?_
      refine gM_r3 X dX3_pack_35 ?_
      refine gx_iload_n X dX3_pack_38 rfl 2 rfl ?_
      refine gx_iload_n X dX3_pack_39 rfl 3 rfl ?_
      refine gM_s3 X (hD _) (by omega) dX3_pack_40 ?_
      refine gx_iload_n X dX3_pack_41 rfl 0 rfl ?_
      exact gx_iret hR (congrArg Prod.fst ((show M_pack S c p = ((S.2 3 c), (mA S 3 c p)) from (if_pos hc10).trans (if_neg hc22)))) (ret2 (fun z => (wM K q z)) ((show M_pack S c p = ((S.2 3 c), (mA S 3 c p)) from (if_pos hc10).trans (if_neg hc22)))) dX3_pack_42
    · refine gx_iconst (z := (-1)) X dX3_pack_25 rfl ?_
      exact gx_iret hR (congrArg Prod.fst ((show M_pack S c p = ((-1), S) from (if_pos hc10).trans (if_pos hc22)))) (ret2 (fun z => (wM K q z)) ((show M_pack S c p = ((-1), S) from (if_pos hc10).trans (if_pos hc22)))) dX3_pack_26
def M_about (S : Sta) (c : Int) (w : Int) : Int := if (M_noCard S c) = 0 then if w = 0 then (S.2 2 c) else if w = 1 then (S.2 3 c) else if w = 2 then ((S.2 4 c) + 100) else if w = 3 then (S.2 5 c) else if w = 4 then (S.2 6 c) else (-2) else (-1)
set_option maxRecDepth 100000 in
theorem c_M_about {l : Launch} {K : KK} {N : Int} (q : Nat → Nat) (S : Sta) (c : Int) (w : Int) (hI : InvW N S) (hp1 : ok32 c) (hp2 : ok32 w) : CtI l yX3_about cX3_about 3 .int (2, 46) K [.ref (q 0), .int (iI c), .int (iI w)] (wM K q S) (M_about S c w) (wM K q S) := by
  refine ctI_of (by decide) (Nat.le_of_ble_eq_true rfl) rfl ?_
  intro x X hD hR
  have hD : ∀ S9 : Sta, va_D (cx_A x) (wM K q S9) := fun S9 => va_D_same hD rfl
  have hs1 := InvM_s1 hI
  have hs2 := InvM_s2 hI
  have hs3 := InvM_s3 hI
  have hs4 := InvM_s4 hI
  refine gx_aload_n X dX3_about_0 rfl 0 rfl ?_
  refine gx_iconst (z := 0) X dX3_about_1 rfl ?_
  refine gM_t0 X (hD _) (InvM_t hI) dX3_about_2 ?_
  refine gx_aload_n X dX3_about_5 rfl 0 rfl ?_
  refine gx_iload_n X dX3_about_6 rfl 1 rfl ?_
  refine gx_callVI (As := [.int (iI c)]) (rest := []) X (hD _) lk_M_97 (ci := 3) rfl rfl 0 rfl (c_M_noCard q S c hI (by omega)) jn_all rfl ⟨by decide, by decide⟩ (Nat.le_of_ble_eq_true rfl) dX3_about_7 ?_
  have hq7_0 := M_noCard_sp S c
  refine gx_if_eq (tgt := 15) X dX3_about_10 (by decide) (by omega) (fun hc10 => ?_) (fun hc10 => ?_)
  · refine gx_iload_n X dX3_about_15 rfl 2 rfl ?_
    have hsw16 : ok32 w := by omega
    by_cases hc16_0 : w = 0
    · refine gx_switchIn (tgt := 52) X dX3_about_16 (k := 0) hc16_0 (by decide) (by decide) rfl (by decide) ?_
      refine gx_aload_n X dX3_about_52 rfl 0 rfl ?_
      refine gM_r2 X dX3_about_53 ?_
      refine gx_iload_n X dX3_about_56 rfl 1 rfl ?_
      refine gM_l2 (v := (S.2 2 c)) X (by omega) rfl dX3_about_57 ?_
      have hr57 := InvM_a2 hI c
      exact gx_iret hR ((if_pos hc10).trans (if_pos hc16_0)) rfl dX3_about_58
    by_cases hc16_1 : w = 1
    · refine gx_switchIn (tgt := 59) X dX3_about_16 (k := 1) hc16_1 (by decide) (by decide) rfl (by decide) ?_
      refine gx_aload_n X dX3_about_59 rfl 0 rfl ?_
      refine gM_r3 X dX3_about_60 ?_
      refine gx_iload_n X dX3_about_63 rfl 1 rfl ?_
      refine gM_l3 (v := (S.2 3 c)) X (by omega) rfl dX3_about_64 ?_
      have hr64 := InvM_a3 hI c
      exact gx_iret hR ((if_pos hc10).trans ((if_neg hc16_0).trans (if_pos hc16_1))) rfl dX3_about_65
    by_cases hc16_2 : w = 2
    · refine gx_switchIn (tgt := 66) X dX3_about_16 (k := 2) hc16_2 (by decide) (by decide) rfl (by decide) ?_
      refine gx_aload_n X dX3_about_66 rfl 0 rfl ?_
      refine gM_r4 X dX3_about_67 ?_
      refine gx_iload_n X dX3_about_70 rfl 1 rfl ?_
      refine gM_l4 (v := (S.2 4 c)) X (by omega) rfl dX3_about_71 ?_
      refine gx_bipush (z := 100) X dX3_about_72 (by decide) ?_
      refine gx_iadd X dX3_about_74 ?_
      exact gx_iret hR ((if_pos hc10).trans ((if_neg hc16_0).trans ((if_neg hc16_1).trans (if_pos hc16_2)))) rfl dX3_about_75
    by_cases hc16_3 : w = 3
    · refine gx_switchIn (tgt := 76) X dX3_about_16 (k := 3) hc16_3 (by decide) (by decide) rfl (by decide) ?_
      refine gx_aload_n X dX3_about_76 rfl 0 rfl ?_
      refine gM_r5 X dX3_about_77 ?_
      refine gx_iload_n X dX3_about_80 rfl 1 rfl ?_
      refine gM_l5 (v := (S.2 5 c)) X (by omega) rfl dX3_about_81 ?_
      exact gx_iret hR ((if_pos hc10).trans ((if_neg hc16_0).trans ((if_neg hc16_1).trans ((if_neg hc16_2).trans (if_pos hc16_3))))) rfl dX3_about_82
    by_cases hc16_4 : w = 4
    · refine gx_switchIn (tgt := 83) X dX3_about_16 (k := 4) hc16_4 (by decide) (by decide) rfl (by decide) ?_
      refine gx_aload_n X dX3_about_83 rfl 0 rfl ?_
      refine gM_r6 X dX3_about_84 ?_
      refine gx_iload_n X dX3_about_87 rfl 1 rfl ?_
      refine gM_l6 (v := (S.2 6 c)) X (by omega) rfl dX3_about_88 ?_
      have hr88 := InvM_a6 hI c
      exact gx_iret hR ((if_pos hc10).trans ((if_neg hc16_0).trans ((if_neg hc16_1).trans ((if_neg hc16_2).trans ((if_neg hc16_3).trans (if_pos hc16_4)))))) rfl dX3_about_89
    refine gx_switchOut (tgt := 90) X dX3_about_16 hsw16 (by omega) (by decide) ?_
    refine gx_bipush (z := (-2)) X dX3_about_90 (by decide) ?_
    exact gx_iret hR ((if_pos hc10).trans ((if_neg hc16_0).trans ((if_neg hc16_1).trans ((if_neg hc16_2).trans ((if_neg hc16_3).trans (if_neg hc16_4)))))) rfl dX3_about_92
  · refine gx_iconst (z := (-1)) X dX3_about_13 rfl ?_
    exact gx_iret hR (if_neg hc10) rfl dX3_about_14
def M_at (S : Sta) (c : Int) (p : Int) : Int := if (M_noCard S c) = 0 then if (M_in p 0 3) = 0 then (-2) else (S.2 1 ((4 * c) + p)) else (-1)
set_option maxRecDepth 100000 in
theorem c_M_at {l : Launch} {K : KK} {N : Int} (q : Nat → Nat) (S : Sta) (c : Int) (p : Int) (hI : InvW N S) (hp1 : ok32 c) (hp2 : ok32 p) : CtI l yX3_at cX3_at 3 .int (2, 46) K [.ref (q 0), .int (iI c), .int (iI p)] (wM K q S) (M_at S c p) (wM K q S) := by
  refine ctI_of (by decide) (Nat.le_of_ble_eq_true rfl) rfl ?_
  intro x X hD hR
  have hD : ∀ S9 : Sta, va_D (cx_A x) (wM K q S9) := fun S9 => va_D_same hD rfl
  have hs1 := InvM_s1 hI
  have hs2 := InvM_s2 hI
  have hs3 := InvM_s3 hI
  have hs4 := InvM_s4 hI
  refine gx_aload_n X dX3_at_0 rfl 0 rfl ?_
  refine gx_iconst (z := 0) X dX3_at_1 rfl ?_
  refine gM_t0 X (hD _) (InvM_t hI) dX3_at_2 ?_
  refine gx_aload_n X dX3_at_5 rfl 0 rfl ?_
  refine gx_iload_n X dX3_at_6 rfl 1 rfl ?_
  refine gx_callVI (As := [.int (iI c)]) (rest := []) X (hD _) lk_M_97 (ci := 3) rfl rfl 0 rfl (c_M_noCard q S c hI (by omega)) jn_all rfl ⟨by decide, by decide⟩ (Nat.le_of_ble_eq_true rfl) dX3_at_7 ?_
  have hq7_0 := M_noCard_sp S c
  refine gx_if_eq (tgt := 15) X dX3_at_10 (by decide) (by omega) (fun hc10 => ?_) (fun hc10 => ?_)
  · refine gx_iload_n X dX3_at_15 rfl 2 rfl ?_
    refine gx_i2l X dX3_at_16 (by omega) ?_
    refine gx_lconst (v := lI 0) X dX3_at_17 rfl ?_
    refine gx_ldc2 (v := lI 3) X t_M_101 dX3_at_18 ?_
    refine gx_callSI (As := [.long (lI p), .long (lI 0), .long (lI 3)]) (rest := []) X (hD _) lk_M_88 (c_M_in p 0 3 (by omega) (by omega) (by omega)) jn_nil rfl ⟨by decide, by decide⟩ (Nat.le_of_ble_eq_true rfl) dX3_at_21 ?_
    have hq21_0 := M_in_sp p 0 3
    have J42 : ∀ (m42 : Int), m42 = (if (M_in p 0 3) = 0 then (-2) else (S.2 1 ((4 * c) + p))) → GG l (rmK (2, 46)) K x (wM K q S) 42 [(0, .ref (q 0)), (1, .int (iI c)), (2, .int (iI p))] [.int (iI m42)] := by
      intro m42 e_m42
      exact gx_iret hR ((if_pos hc10).trans (e_m42.symm)) rfl dX3_at_42
    refine gx_if_eq (tgt := 40) X dX3_at_24 (by decide) (by omega) (fun hc24 => ?_) (fun hc24 => ?_)
    · refine gx_bipush (z := (-2)) X dX3_at_40 (by decide) ?_
      refine gx_sub [0, 1, 2] rfl ?_
      exact J42 (-2) ((if_pos hc24).symm) 
    · refine gx_aload_n X dX3_at_27 rfl 0 rfl ?_
      refine gM_r1 X dX3_at_28 ?_
      refine gx_iconst (z := 4) X dX3_at_31 rfl ?_
      refine gx_iload_n X dX3_at_32 rfl 1 rfl ?_
      refine gx_imul X dX3_at_33 ?_
      refine gx_iload_n X dX3_at_34 rfl 2 rfl ?_
      refine gx_iadd X dX3_at_35 ?_
      refine gM_l1 (v := (S.2 1 ((4 * c) + p))) X (by omega) rfl dX3_at_36 ?_
      have hr36 := InvM_a1 hI ((4 * c) + p)
      refine gx_goto (tgt := 42) X dX3_at_37 (by decide) ?_
      refine gx_sub [0, 1, 2] rfl ?_
      exact J42 (S.2 1 ((4 * c) + p)) ((if_neg hc24).symm) 
  · refine gx_iconst (z := (-1)) X dX3_at_13 rfl ?_
    exact gx_iret hR (if_neg hc10) rfl dX3_at_14
