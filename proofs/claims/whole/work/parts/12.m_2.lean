def M_keep_l12 (S : Sta) (c : Int) : Nat → Int → Sta → Sta
  | 0, v3, S12 => S12
  | fu + 1, v3, S12 => if 4 ≤ v3 then S12 else M_keep_l12 S c fu (v3 + 1) (mA S12 7 ((4 * ((16 * (S.1 2)) + c)) + v3) (S12.2 1 ((4 * c) + v3)))
theorem M_keep_l12_s (S : Sta) (c : Int) (fu : Nat) (v3 : Int) (S12 : Sta) : M_keep_l12 S c (fu + 1) v3 S12 = (if 4 ≤ v3 then S12 else M_keep_l12 S c fu (v3 + 1) (mA S12 7 ((4 * ((16 * (S.1 2)) + c)) + v3) (S12.2 1 ((4 * c) + v3)))) := rfl
def M_keep_r12 (S : Sta) (c : Int) (z12 : Sta) : Sta := (mA (mA (mA (mA z12 8 ((16 * (S.1 2)) + c) (z12.2 2 c)) 9 ((16 * (S.1 2)) + c) (z12.2 4 c)) 10 ((16 * (S.1 2)) + c) (z12.2 5 c)) 11 ((16 * (S.1 2)) + c) (z12.2 6 c))
def M_keep (S : Sta) (c : Int) : Sta := (fun z12 => M_keep_r12 S c z12) (M_keep_l12 S c (5) 0 S)
theorem M_keep_l12_fr (S0 : Sta) (c : Int) : ∀ (n : Nat) (i : Int) (S : Sta), (M_keep_l12 S0 c n i S).1 = S.1 ∧ ∀ k : Nat, k ≠ 7 → (M_keep_l12 S0 c n i S).2 k = S.2 k := by
  intro n
  induction n with
  | zero => intro i S; exact ⟨rfl, fun _ _ => rfl⟩
  | succ n ih =>
    intro i S
    rw [M_keep_l12_s]
    split
    · exact ⟨rfl, fun _ _ => rfl⟩
    · exact ⟨(ih _ _).1, fun k hk => ((ih _ _).2 k hk).trans (if_neg hk)⟩
theorem M_keep_sc (S : Sta) (c : Int) : (M_keep S c).1 = S.1 := (M_keep_l12_fr S c 5 0 S).1
theorem M_keep_ar (S : Sta) (c : Int) (k : Nat) (hk : k < 7 ∨ 11 < k) : (M_keep S c).2 k = S.2 k := by
  refine Eq.trans ?_ ((M_keep_l12_fr S c 5 0 S).2 k (by omega))
  unfold M_keep M_keep_r12
  rw [mA_ne _ _ trivial (by omega), mA_ne _ _ trivial (by omega), mA_ne _ _ trivial (by omega), mA_ne _ _ trivial (by omega)]
theorem M_keep_l12_inv {N : Int} (S0 : Sta) (c : Int) : ∀ (n : Nat) (i : Int) (S : Sta), InvW N S → InvW N (M_keep_l12 S0 c n i S) := by
  intro n
  induction n with
  | zero => intro i S h; exact h
  | succ n ih =>
    intro i S h
    rw [M_keep_l12_s]
    split
    · exact h
    · exact ih _ _ (h.mA (h.2 1 _))
theorem M_keep_inv {N : Int} (S : Sta) (c : Int) (h : InvW N S) : InvW N (M_keep S c) := by
  have h1 := M_keep_l12_inv S c 5 0 S h
  have h2 := InvW.mA (k := 8) (z := 16 * S.1 2 + c) h1 (show rgM N 8 ((M_keep_l12 S c 5 0 S).2 2 c) from h1.2 2 c)
  have h3 := InvW.mA (k := 9) (z := 16 * S.1 2 + c) h2 (show rgM N 9 ((M_keep_l12 S c 5 0 S).2 4 c) from trivial)
  have h4 := InvW.mA (k := 10) (z := 16 * S.1 2 + c) h3 (show rgM N 10 ((M_keep_l12 S c 5 0 S).2 5 c) from trivial)
  exact InvW.mA (k := 11) (z := 16 * S.1 2 + c) h4 (show rgM N 11 ((M_keep_l12 S c 5 0 S).2 6 c) from h1.2 6 c)
set_option maxRecDepth 100000 in
theorem c_M_keep {l : Launch} {K : KK} {N : Int} (q : Nat → Nat) (S : Sta) (c : Int) (hI : InvW N S) (hp1 : 0 ≤ c ∧ c < 16) (hp2 : S.1 2 < 60) : CtV l yX3_keep cX3_keep 4 (0, 0) K [.ref (q 0), .int (iI c)] (wM K q S) (wM K q (M_keep S c)) := by
  refine ctV_of (by decide) (Nat.le_of_ble_eq_true rfl) ?_
  intro x X hD hR
  have hD : ∀ S9 : Sta, va_D (cx_A x) (wM K q S9) := fun S9 => va_D_same hD rfl
  have hs1 := InvM_s1 hI
  have hs2 := InvM_s2 hI
  have hs3 := InvM_s3 hI
  have hs4 := InvM_s4 hI
  refine gx_bipush (z := 16) X dX3_keep_0 (by decide) ?_
  refine gx_aload_n X dX3_keep_2 rfl 0 rfl ?_
  refine gM_g2 (v := (S.1 2)) X rfl dX3_keep_3 ?_
  refine gx_imul X dX3_keep_6 ?_
  refine gx_iload_n X dX3_keep_7 rfl 1 rfl ?_
  refine gx_iadd X dX3_keep_8 ?_
  refine gx_istore_n X dX3_keep_9 rfl (by decide) rfl ?_
  refine gx_iconst (z := 0) X dX3_keep_10 rfl ?_
  refine gx_istore_n X dX3_keep_11 rfl (by decide) rfl ?_
  have L12 : ∀ (fu : Nat) (v3 : Int) (S12 : Sta), (0 ≤ v3) → (v3 ≤ 4) → (S12.1 = S.1) → (4 - v3) < (fu : Int) → (∀ z12 : Sta, M_keep_l12 S c fu v3 S12 = z12 → (z12.1 = S.1) → GG l (rmK (0, 0)) K x (wM K q z12) 43 [(0, .ref (q 0)), (1, .int (iI c)), (2, .int (iI ((16 * (S.1 2)) + c)))] []) → GG l (rmK (0, 0)) K x (wM K q S12) 12 [(0, .ref (q 0)), (1, .int (iI c)), (2, .int (iI ((16 * (S.1 2)) + c))), (3, .int (iI v3))] [] := by
    intro fu
    induction fu with
    | zero => intro v3 S12 hi12_0 hi12_1 hi12_2 hm12 K12; exact absurd hm12 (by omega)
    | succ fu ih =>
      intro v3 S12 hi12_0 hi12_1 hi12_2 hm12 K12
      refine gx_iload_n X dX3_keep_12 rfl 3 rfl ?_
      refine gx_iconst (z := 4) X dX3_keep_13 rfl ?_
      refine gx_icmp_ge (tgt := 43) X dX3_keep_14 (by decide) (by omega) (fun hc14 => ?_) (fun hc14 => ?_)
      · refine gx_sub [0, 1, 2] rfl ?_
        exact K12 S12 ((M_keep_l12_s S c fu v3 S12).trans (if_pos hc14)) ((hi12_2 ))
      · refine gx_aload_n X dX3_keep_17 rfl 0 rfl ?_
        refine gM_r7 X dX3_keep_18 ?_
        refine gx_iconst (z := 4) X dX3_keep_21 rfl ?_
        refine gx_iload_n X dX3_keep_22 rfl 2 rfl ?_
        refine gx_imul X dX3_keep_23 ?_
        refine gx_iload_n X dX3_keep_24 rfl 3 rfl ?_
        refine gx_iadd X dX3_keep_25 ?_
        refine gx_aload_n X dX3_keep_26 rfl 0 rfl ?_
        refine gM_r1 X dX3_keep_27 ?_
        refine gx_iconst (z := 4) X dX3_keep_30 rfl ?_
        refine gx_iload_n X dX3_keep_31 rfl 1 rfl ?_
        refine gx_imul X dX3_keep_32 ?_
        refine gx_iload_n X dX3_keep_33 rfl 3 rfl ?_
        refine gx_iadd X dX3_keep_34 ?_
        refine gM_l1 (v := (S12.2 1 ((4 * c) + v3))) X (by omega) rfl dX3_keep_35 ?_
        refine gM_s7 X (hD _) (by omega) dX3_keep_36 ?_
        refine gx_iinc X dX3_keep_37 3 rfl (by decide) rfl ?_
        refine gx_goto (tgt := 12) X dX3_keep_40 (by decide) ?_
        refine gx_sub [1, 2, 3, 0] rfl ?_
        exact ih (v3 + 1) (mA S12 7 ((4 * ((16 * (S.1 2)) + c)) + v3) (S12.2 1 ((4 * c) + v3))) (by omega) (by omega) (hi12_2 ) (by omega) (fun z e hx => K12 z ((M_keep_l12_s S c fu v3 S12).trans ((if_neg hc14).trans e)) hx)
  refine gx_sub [2, 3, 1, 0] rfl ?_
  refine L12 (5) 0 S (by omega) (by omega) rfl (by omega) (fun z12 e12 hx12 => ?_)
  refine gx_aload_n X dX3_keep_43 rfl 0 rfl ?_
  refine gM_r8 X dX3_keep_44 ?_
  refine gx_iload_n X dX3_keep_47 rfl 2 rfl ?_
  refine gx_aload_n X dX3_keep_48 rfl 0 rfl ?_
  refine gM_r2 X dX3_keep_49 ?_
  refine gx_iload_n X dX3_keep_52 rfl 1 rfl ?_
  refine gM_l2 (v := (z12.2 2 c)) X (by omega) rfl dX3_keep_53 ?_
  refine gM_s8 X (hD _) (by omega) dX3_keep_54 ?_
  refine gx_aload_n X dX3_keep_55 rfl 0 rfl ?_
  refine gM_r9 X dX3_keep_56 ?_
  refine gx_iload_n X dX3_keep_59 rfl 2 rfl ?_
  refine gx_aload_n X dX3_keep_60 rfl 0 rfl ?_
  refine gM_r4 X dX3_keep_61 ?_
  refine gx_iload_n X dX3_keep_64 rfl 1 rfl ?_
  refine gM_l4 (v := (z12.2 4 c)) X (by omega) rfl dX3_keep_65 ?_
  refine gM_s9 X (hD _) (by omega) dX3_keep_66 ?_
  refine gx_aload_n X dX3_keep_67 rfl 0 rfl ?_
  refine gM_r10 X dX3_keep_68 ?_
  refine gx_iload_n X dX3_keep_71 rfl 2 rfl ?_
  refine gx_aload_n X dX3_keep_72 rfl 0 rfl ?_
  refine gM_r5 X dX3_keep_73 ?_
  refine gx_iload_n X dX3_keep_76 rfl 1 rfl ?_
  refine gM_l5 (v := (z12.2 5 c)) X (by omega) rfl dX3_keep_77 ?_
  refine gM_s10 X (hD _) (by omega) dX3_keep_78 ?_
  refine gx_aload_n X dX3_keep_79 rfl 0 rfl ?_
  refine gM_r11 X dX3_keep_80 ?_
  refine gx_iload_n X dX3_keep_83 rfl 2 rfl ?_
  refine gx_aload_n X dX3_keep_84 rfl 0 rfl ?_
  refine gM_r6 X dX3_keep_85 ?_
  refine gx_iload_n X dX3_keep_88 rfl 1 rfl ?_
  refine gM_l6 (v := (z12.2 6 c)) X (by omega) rfl dX3_keep_89 ?_
  refine gM_s11 X (hD _) (by omega) dX3_keep_90 ?_
  exact gx_vret hR (congrArg (fun z : Sta => (wM K q z)) ((show M_keep S c = (mA (mA (mA (mA z12 8 ((16 * (S.1 2)) + c) (z12.2 2 c)) 9 ((16 * (S.1 2)) + c) (z12.2 4 c)) 10 ((16 * (S.1 2)) + c) (z12.2 5 c)) 11 ((16 * (S.1 2)) + c) (z12.2 6 c)) from congrArg (fun z12 => M_keep_r12 S c z12) e12))) dX3_keep_91
def M_move_l2 (c : Int) (b : Int) : Nat → Int → Sta → Sta
  | 0, v3, S2 => S2
  | fu + 1, v3, S2 => if b ≤ v3 then S2 else M_move_l2 c b fu (v3 + 1) (mA (mA (mA (mA S2 1 ((4 * c) + 3) (S2.2 1 ((4 * c) + 2))) 1 ((4 * c) + 2) ((mA S2 1 ((4 * c) + 3) (S2.2 1 ((4 * c) + 2))).2 1 ((4 * c) + 1))) 1 ((4 * c) + 1) ((mA (mA S2 1 ((4 * c) + 3) (S2.2 1 ((4 * c) + 2))) 1 ((4 * c) + 2) ((mA S2 1 ((4 * c) + 3) (S2.2 1 ((4 * c) + 2))).2 1 ((4 * c) + 1))).2 1 (4 * c))) 1 (4 * c) (S2.2 1 ((4 * c) + 3)))
theorem M_move_l2_s (c : Int) (b : Int) (fu : Nat) (v3 : Int) (S2 : Sta) : M_move_l2 c b (fu + 1) v3 S2 = (if b ≤ v3 then S2 else M_move_l2 c b fu (v3 + 1) (mA (mA (mA (mA S2 1 ((4 * c) + 3) (S2.2 1 ((4 * c) + 2))) 1 ((4 * c) + 2) ((mA S2 1 ((4 * c) + 3) (S2.2 1 ((4 * c) + 2))).2 1 ((4 * c) + 1))) 1 ((4 * c) + 1) ((mA (mA S2 1 ((4 * c) + 3) (S2.2 1 ((4 * c) + 2))) 1 ((4 * c) + 2) ((mA S2 1 ((4 * c) + 3) (S2.2 1 ((4 * c) + 2))).2 1 ((4 * c) + 1))).2 1 (4 * c))) 1 (4 * c) (S2.2 1 ((4 * c) + 3)))) := rfl
def M_move (S : Sta) (c : Int) (b : Int) : Sta := (M_move_l2 c b (4) 0 S)
theorem M_move_l2_fr (c b : Int) : ∀ (n : Nat) (i : Int) (S : Sta), (M_move_l2 c b n i S).1 = S.1 ∧ ∀ k : Nat, k ≠ 1 → (M_move_l2 c b n i S).2 k = S.2 k := by
  intro n
  induction n with
  | zero => intro i S; exact ⟨rfl, fun _ _ => rfl⟩
  | succ n ih =>
    intro i S
    rw [M_move_l2_s]
    split
    · exact ⟨rfl, fun _ _ => rfl⟩
    · refine ⟨(ih _ _).1, fun k hk => ((ih _ _).2 k hk).trans ?_⟩
      rw [mA_ne _ _ trivial hk, mA_ne _ _ trivial hk, mA_ne _ _ trivial hk, mA_ne _ _ trivial hk]
theorem M_move_sc (S : Sta) (c b : Int) : (M_move S c b).1 = S.1 := (M_move_l2_fr c b 4 0 S).1
theorem M_move_ar (S : Sta) (c b : Int) (k : Nat) (hk : k ≠ 1) : (M_move S c b).2 k = S.2 k := (M_move_l2_fr c b 4 0 S).2 k hk
theorem M_move_l2_inv {N : Int} (c b : Int) : ∀ (n : Nat) (i : Int) (S : Sta), InvW N S → InvW N (M_move_l2 c b n i S) := by
  intro n
  induction n with
  | zero => intro i S h; exact h
  | succ n ih =>
    intro i S h
    rw [M_move_l2_s]
    split
    · exact h
    · have h1 := h.mA (k := 1) (z := 4 * c + 3) (h.2 1 (4 * c + 2))
      have h2 := h1.mA (k := 1) (z := 4 * c + 2) (h1.2 1 (4 * c + 1))
      have h3 := h2.mA (k := 1) (z := 4 * c + 1) (h2.2 1 (4 * c))
      exact ih _ _ (h3.mA (h.2 1 _))
theorem M_move_inv {N : Int} (S : Sta) (c b : Int) (h : InvW N S) : InvW N (M_move S c b) := M_move_l2_inv c b 4 0 S h
set_option maxRecDepth 100000 in
theorem c_M_move {l : Launch} {K : KK} (q : Nat → Nat) (S : Sta) (c : Int) (b : Int) (hp0 : 0 ≤ c ∧ c < 16) (hp1 : 0 ≤ b ∧ b ≤ 3) : CtV l yX3_move cX3_move 6 (0, 0) K [.ref (q 0), .int (iI c), .int (iI b)] (wM K q S) (wM K q (M_move S c b)) := by
  refine ctV_of (by decide) (Nat.le_of_ble_eq_true rfl) ?_
  intro x X hD hR
  have hD : ∀ S9 : Sta, va_D (cx_A x) (wM K q S9) := fun S9 => va_D_same hD rfl
  refine gx_iconst (z := 0) X dX3_move_0 rfl ?_
  refine gx_istore_n X dX3_move_1 rfl (by decide) rfl ?_
  have L2 : ∀ (fu : Nat) (v3 : Int) (S2 : Sta), (0 ≤ v3) → (v3 ≤ b) → (b - v3) < (fu : Int) → (∀ z2 : Sta, M_move_l2 c b fu v3 S2 = z2 → True → GG l (rmK (0, 0)) K x (wM K q z2) 90 [(0, .ref (q 0)), (1, .int (iI c)), (2, .int (iI b))] []) → GG l (rmK (0, 0)) K x (wM K q S2) 2 [(0, .ref (q 0)), (1, .int (iI c)), (2, .int (iI b)), (3, .int (iI v3))] [] := by
    intro fu
    induction fu with
    | zero => intro v3 S2 hi2_0 hi2_1 hm2 K2; exact absurd hm2 (by omega)
    | succ fu ih =>
      intro v3 S2 hi2_0 hi2_1 hm2 K2
      refine gx_iload_n X dX3_move_2 rfl 3 rfl ?_
      refine gx_iload_n X dX3_move_3 rfl 2 rfl ?_
      refine gx_icmp_ge (tgt := 90) X dX3_move_4 (by decide) (by omega) (fun hc4 => ?_) (fun hc4 => ?_)
      · refine gx_sub [0, 1, 2] rfl ?_
        exact K2 S2 ((M_move_l2_s c b fu v3 S2).trans (if_pos hc4)) trivial
      · refine gx_iconst (z := 4) X dX3_move_7 rfl ?_
        refine gx_iload_n X dX3_move_8 rfl 1 rfl ?_
        refine gx_imul X dX3_move_9 ?_
        refine gx_istore X dX3_move_10 (by decide) rfl ?_
        refine gx_aload_n X dX3_move_12 rfl 1 rfl ?_
        refine gM_r1 X dX3_move_13 ?_
        refine gx_iload X dX3_move_16 0 rfl ?_
        refine gx_iconst (z := 3) X dX3_move_18 rfl ?_
        refine gx_iadd X dX3_move_19 ?_
        refine gM_l1 (v := (S2.2 1 ((4 * c) + 3))) X (by omega) rfl dX3_move_20 ?_
        refine gx_istore X dX3_move_21 (by decide) rfl ?_
        refine gx_aload_n X dX3_move_23 rfl 2 rfl ?_
        refine gM_r1 X dX3_move_24 ?_
        refine gx_iload X dX3_move_27 1 rfl ?_
        refine gx_iconst (z := 3) X dX3_move_29 rfl ?_
        refine gx_iadd X dX3_move_30 ?_
        refine gx_aload_n X dX3_move_31 rfl 2 rfl ?_
        refine gM_r1 X dX3_move_32 ?_
        refine gx_iload X dX3_move_35 1 rfl ?_
        refine gx_iconst (z := 2) X dX3_move_37 rfl ?_
        refine gx_iadd X dX3_move_38 ?_
        refine gM_l1 (v := (S2.2 1 ((4 * c) + 2))) X (by omega) rfl dX3_move_39 ?_
        refine gM_s1 X (hD _) (by omega) dX3_move_40 ?_
        refine gx_aload_n X dX3_move_41 rfl 2 rfl ?_
        refine gM_r1 X dX3_move_42 ?_
        refine gx_iload X dX3_move_45 1 rfl ?_
        refine gx_iconst (z := 2) X dX3_move_47 rfl ?_
        refine gx_iadd X dX3_move_48 ?_
        refine gx_aload_n X dX3_move_49 rfl 2 rfl ?_
        refine gM_r1 X dX3_move_50 ?_
        refine gx_iload X dX3_move_53 1 rfl ?_
        refine gx_iconst (z := 1) X dX3_move_55 rfl ?_
        refine gx_iadd X dX3_move_56 ?_
        refine gM_l1 (v := ((mA S2 1 ((4 * c) + 3) (S2.2 1 ((4 * c) + 2))).2 1 ((4 * c) + 1))) X (by omega) rfl dX3_move_57 ?_
        refine gM_s1 X (hD _) (by omega) dX3_move_58 ?_
        refine gx_aload_n X dX3_move_59 rfl 2 rfl ?_
        refine gM_r1 X dX3_move_60 ?_
        refine gx_iload X dX3_move_63 1 rfl ?_
        refine gx_iconst (z := 1) X dX3_move_65 rfl ?_
        refine gx_iadd X dX3_move_66 ?_
        refine gx_aload_n X dX3_move_67 rfl 2 rfl ?_
        refine gM_r1 X dX3_move_68 ?_
        refine gx_iload X dX3_move_71 1 rfl ?_
        refine gM_l1 (v := ((mA (mA S2 1 ((4 * c) + 3) (S2.2 1 ((4 * c) + 2))) 1 ((4 * c) + 2) ((mA S2 1 ((4 * c) + 3) (S2.2 1 ((4 * c) + 2))).2 1 ((4 * c) + 1))).2 1 (4 * c))) X (by omega) rfl dX3_move_73 ?_
        refine gM_s1 X (hD _) (by omega) dX3_move_74 ?_
        refine gx_aload_n X dX3_move_75 rfl 2 rfl ?_
        refine gM_r1 X dX3_move_76 ?_
        refine gx_iload X dX3_move_79 1 rfl ?_
        refine gx_iload X dX3_move_81 0 rfl ?_
        refine gM_s1 X (hD _) (by omega) dX3_move_83 ?_
        refine gx_iinc X dX3_move_84 5 rfl (by decide) rfl ?_
        refine gx_goto (tgt := 2) X dX3_move_87 (by decide) ?_
        refine gx_sub [3, 4, 5, 0] rfl ?_
        exact ih (v3 + 1) (mA (mA (mA (mA S2 1 ((4 * c) + 3) (S2.2 1 ((4 * c) + 2))) 1 ((4 * c) + 2) ((mA S2 1 ((4 * c) + 3) (S2.2 1 ((4 * c) + 2))).2 1 ((4 * c) + 1))) 1 ((4 * c) + 1) ((mA (mA S2 1 ((4 * c) + 3) (S2.2 1 ((4 * c) + 2))) 1 ((4 * c) + 2) ((mA S2 1 ((4 * c) + 3) (S2.2 1 ((4 * c) + 2))).2 1 ((4 * c) + 1))).2 1 (4 * c))) 1 (4 * c) (S2.2 1 ((4 * c) + 3))) (by omega) (by omega) (by omega) (fun z e hx => K2 z ((M_move_l2_s c b fu v3 S2).trans ((if_neg hc4).trans e)) hx)
  refine gx_sub [1, 2, 3, 0] rfl ?_
  refine L2 (4) 0 S (by omega) (by omega) (by omega) (fun z2 e2 hx2 => ?_)
  exact gx_vret hR (congrArg (fun z : Sta => (wM K q z)) ((show M_move S c b = z2 from e2))) dX3_move_90
def M_make (S : Sta) (c : Int) (t : Int) : Sta := if t = 2 then (mA (mA (mA (mA (mA (M_keep S c) 12 ((16 * (S.1 2)) + c) t) 5 c ((S.2 5 c) + 1)) 13 ((16 * (S.1 2)) + c) ((if (S.1 2) = 0 then (S.2 1 (4 * c)) else (S.2 13 (((16 * (S.1 2)) + c) - 16))) : Int)) 14 ((16 * (S.1 2)) + c) ((if (S.1 2) = 0 then (S.2 1 ((4 * c) + 2)) else (S.2 14 (((16 * (S.1 2)) + c) - 16))) : Int)) 15 ((16 * (S.1 2)) + c) ((if (S.1 2) = 0 then 0 else (S.2 15 (((16 * (S.1 2)) + c) - 16))) : Int)) else (mA (mA (mA (mA (mA (M_move (mA (M_keep S c) 12 ((16 * (S.1 2)) + c) t) c ((if t = 0 then 1 else 3) : Int)) 5 c 0) 15 ((16 * (S.1 2)) + c) ((if t = (S.2 2 c) then 0 else 1) : Int)) 4 c ((S.2 4 c) + ((if ((if t = (S.2 2 c) then 0 else 1) : Int) = 0 then 1 else (-1)) : Int))) 13 ((16 * (S.1 2)) + c) ((M_move (mA (M_keep S c) 12 ((16 * (S.1 2)) + c) t) c ((if t = 0 then 1 else 3) : Int)).2 1 ((4 * c) + t))) 14 ((16 * (S.1 2)) + c) ((M_move (mA (M_keep S c) 12 ((16 * (S.1 2)) + c) t) c ((if t = 0 then 1 else 3) : Int)).2 1 (((4 * c) + t) + 2)))
theorem M_make_sc (S : Sta) (c t : Int) : (M_make S c t).1 = S.1 := by
  unfold M_make
  split
  · exact M_keep_sc S c
  · exact (M_move_sc _ _ _).trans (M_keep_sc S c)
theorem M_make_ar (S : Sta) (c t : Int) (k : Nat) (hk : k ∉ [1, 4, 5, 7, 8, 9, 10, 11, 12, 13, 14, 15]) : (M_make S c t).2 k = S.2 k := by
  have e1 := M_keep_ar S c k (by simp only [List.mem_cons, List.not_mem_nil, or_false, not_or] at hk; omega)
  unfold M_make
  split
  · exact (mA_nin hk (by decide)).trans ((mA_nin hk (by decide)).trans ((mA_nin hk (by decide)).trans ((mA_nin hk (by decide)).trans ((mA_nin hk (by decide)).trans e1))))
  · exact (mA_nin hk (by decide)).trans ((mA_nin hk (by decide)).trans ((mA_nin hk (by decide)).trans ((mA_nin hk (by decide)).trans ((mA_nin hk (by decide)).trans ((M_move_ar _ _ _ k (by simp only [List.mem_cons, List.not_mem_nil, or_false, not_or] at hk; omega)).trans ((mA_nin hk (by decide)).trans e1))))))
theorem M_make_inv {N : Int} (S : Sta) (c t : Int) (h : InvW N S) (_ : 0 ≤ c ∧ c < 16) (_ : S.1 2 < 60) (ht : 0 ≤ t ∧ t ≤ 2) : InvW N (M_make S c t) := by
  have h1 := InvW.mA (k := 12) (z := 16 * S.1 2 + c) (M_keep_inv S c h) (show rgM N 12 t from ht)
  unfold M_make
  split
  · have h2 := InvW.mA (k := 5) (z := c) (v := S.2 5 c + 1) h1 trivial
    have h3 := InvW.mA (k := 13) (z := 16 * S.1 2 + c) (v := if S.1 2 = 0 then S.2 1 (4 * c) else S.2 13 (16 * S.1 2 + c - 16)) h2 (by split; exact h.2 1 _; exact h.2 13 _)
    have h4 := InvW.mA (k := 14) (z := 16 * S.1 2 + c) (v := if S.1 2 = 0 then S.2 1 (4 * c + 2) else S.2 14 (16 * S.1 2 + c - 16)) h3 (by split; exact h.2 1 _; exact h.2 14 _)
    exact InvW.mA (k := 15) (z := 16 * S.1 2 + c) (v := if S.1 2 = 0 then 0 else S.2 15 (16 * S.1 2 + c - 16)) h4 (by split; exact (by decide : (0 : Int) ≤ 0 ∧ (0 : Int) ≤ 1); exact h.2 15 _)
  · have hm := M_move_inv _ c (if t = 0 then 1 else 3) h1
    have h2 := InvW.mA (k := 5) (z := c) (v := 0) hm trivial
    have h3 := InvW.mA (k := 15) (z := 16 * S.1 2 + c) (v := if t = S.2 2 c then 0 else 1) h2 (by split; exact (by decide : (0 : Int) ≤ 0 ∧ (0 : Int) ≤ 1); exact (by decide : (0 : Int) ≤ 1 ∧ (1 : Int) ≤ 1))
    have h4 := InvW.mA (k := 4) (z := c) (v := S.2 4 c + (if (if t = S.2 2 c then (0 : Int) else 1) = 0 then 1 else (-1))) h3 trivial
    have h5 := InvW.mA (k := 13) (z := 16 * S.1 2 + c) h4 (show rgM N 13 _ from hm.2 1 (4 * c + t))
    exact InvW.mA (k := 14) (z := 16 * S.1 2 + c) h5 (show rgM N 14 _ from hm.2 1 (4 * c + t + 2))
set_option maxRecDepth 100000 in
theorem c_M_make {l : Launch} {K : KK} {N : Int} (q : Nat → Nat) (S : Sta) (c : Int) (t : Int) (hI : InvW N S) (hp1 : 0 ≤ c ∧ c < 16) (hp2 : S.1 2 < 60) (hp3 : 0 ≤ t ∧ t ≤ 2) : CtV l yX3_make cX3_make 4 (1, 25) K [.ref (q 0), .int (iI c), .int (iI t)] (wM K q S) (wM K q (M_make S c t)) := by
  refine ctV_of (by decide) (Nat.le_of_ble_eq_true rfl) ?_
  intro x X hD hR
  have hD : ∀ S9 : Sta, va_D (cx_A x) (wM K q S9) := fun S9 => va_D_same hD rfl
  have hs1 := InvM_s1 hI
  have hs2 := InvM_s2 hI
  have hs3 := InvM_s3 hI
  have hs4 := InvM_s4 hI
  refine gx_aload_n X dX3_make_0 rfl 0 rfl ?_
  refine gx_iload_n X dX3_make_1 rfl 1 rfl ?_
  refine gx_callVV (As := [.int (iI c)]) (rest := []) X (hD _) lk_M_105 (ci := 3) rfl rfl 0 rfl (c_M_keep q S c hI (by omega) (by omega)) jn_all rfl ⟨by decide, by decide⟩ (Nat.le_of_ble_eq_true rfl) dX3_make_2 ?_
  refine gx_bipush (z := 16) X dX3_make_5 (by decide) ?_
  refine gx_aload_n X dX3_make_7 rfl 0 rfl ?_
  refine gM_g2 (v := (S.1 2)) X (congrFun (M_keep_sc S c) 2) dX3_make_8 ?_
  refine gx_imul X dX3_make_11 ?_
  refine gx_iload_n X dX3_make_12 rfl 1 rfl ?_
  refine gx_iadd X dX3_make_13 ?_
  refine gx_istore_n X dX3_make_14 rfl (by decide) rfl ?_
  refine gx_aload_n X dX3_make_15 rfl 1 rfl ?_
  refine gM_r12 X dX3_make_16 ?_
  refine gx_iload_n X dX3_make_19 rfl 0 rfl ?_
  refine gx_iload_n X dX3_make_20 rfl 3 rfl ?_
  refine gM_s12 X (hD _) (by omega) dX3_make_21 ?_
  refine gx_iload_n X dX3_make_22 rfl 3 rfl ?_
  refine gx_iconst (z := 2) X dX3_make_23 rfl ?_
  have J233 : ∀ (S233 : Sta), S233 = (if t = 2 then (mA (mA (mA (mA (mA (M_keep S c) 12 ((16 * (S.1 2)) + c) t) 5 c ((S.2 5 c) + 1)) 13 ((16 * (S.1 2)) + c) ((if (S.1 2) = 0 then (S.2 1 (4 * c)) else (S.2 13 (((16 * (S.1 2)) + c) - 16))) : Int)) 14 ((16 * (S.1 2)) + c) ((if (S.1 2) = 0 then (S.2 1 ((4 * c) + 2)) else (S.2 14 (((16 * (S.1 2)) + c) - 16))) : Int)) 15 ((16 * (S.1 2)) + c) ((if (S.1 2) = 0 then 0 else (S.2 15 (((16 * (S.1 2)) + c) - 16))) : Int)) else (mA (mA (mA (mA (mA (M_move (mA (M_keep S c) 12 ((16 * (S.1 2)) + c) t) c ((if t = 0 then 1 else 3) : Int)) 5 c 0) 15 ((16 * (S.1 2)) + c) ((if t = (S.2 2 c) then 0 else 1) : Int)) 4 c ((S.2 4 c) + ((if ((if t = (S.2 2 c) then 0 else 1) : Int) = 0 then 1 else (-1)) : Int))) 13 ((16 * (S.1 2)) + c) ((M_move (mA (M_keep S c) 12 ((16 * (S.1 2)) + c) t) c ((if t = 0 then 1 else 3) : Int)).2 1 ((4 * c) + t))) 14 ((16 * (S.1 2)) + c) ((M_move (mA (M_keep S c) 12 ((16 * (S.1 2)) + c) t) c ((if t = 0 then 1 else 3) : Int)).2 1 (((4 * c) + t) + 2)))) → GG l (rmK (1, 25)) K x (wM K q S233) 233 [(0, .ref (q 0)), (1, .int (iI c)), (2, .int (iI t)), (3, .int (iI ((16 * (S.1 2)) + c)))] [] := by
    intro S233 e_S233
    exact gx_vret hR (congrArg (fun z : Sta => (wM K q z)) ((show M_make S c t = S233 from e_S233.symm))) dX3_make_233
  refine gx_icmp_ne (tgt := 134) X dX3_make_24 (by decide) (by omega) (fun hc24 => ?_) (fun hc24 => ?_)
  · refine gx_aload_n X dX3_make_134 rfl 1 rfl ?_
    refine gx_iload_n X dX3_make_135 rfl 2 rfl ?_
    refine gx_iload_n X dX3_make_136 rfl 3 rfl ?_
    have J145 : ∀ (m145 : Int), m145 = (if t = 0 then 1 else 3) → GG l (rmK (1, 25)) K x (wM K q (mA (M_keep S c) 12 ((16 * (S.1 2)) + c) t)) 145 [(0, .ref (q 0)), (1, .int (iI c)), (2, .int (iI t)), (3, .int (iI ((16 * (S.1 2)) + c)))] [.int (iI m145), .int (iI c), .ref (q 0)] := by
      intro m145 e_m145
      refine gx_callVV (As := [.int (iI c), .int (iI m145)]) (rest := []) X (hD _) lk_M_108 (ci := 3) rfl rfl 0 rfl (c_M_move q (mA (M_keep S c) 12 ((16 * (S.1 2)) + c) t) c m145 (by omega) (by omega)) jn_all rfl ⟨by decide, by decide⟩ (Nat.le_of_ble_eq_true rfl) dX3_make_145 ?_
      refine gx_aload_n X dX3_make_148 rfl 0 rfl ?_
      refine gM_r5 X dX3_make_149 ?_
      refine gx_iload_n X dX3_make_152 rfl 1 rfl ?_
      refine gx_iconst (z := 0) X dX3_make_153 rfl ?_
      refine gM_s5 X (hD _) (by omega) dX3_make_154 ?_
      refine gx_aload_n X dX3_make_155 rfl 0 rfl ?_
      refine gM_r15 X dX3_make_156 ?_
      refine gx_iload_n X dX3_make_159 rfl 3 rfl ?_
      refine gx_iload_n X dX3_make_160 rfl 2 rfl ?_
      refine gx_aload_n X dX3_make_161 rfl 0 rfl ?_
      refine gM_r2 X dX3_make_162 ?_
      refine gx_iload_n X dX3_make_165 rfl 1 rfl ?_
      refine gM_l2 (v := (S.2 2 c)) X (by omega) ((congrFun (M_move_ar (mA (M_keep S c) 12 ((16 * (S.1 2)) + c) t) c m145 2 (by decide)) c).trans (congrFun (M_keep_ar S c 2 (by decide)) c)) dX3_make_166 ?_
      have hr166 := InvM_a2 hI c
      have J175 : ∀ (m175 : Int), m175 = (if t = (S.2 2 c) then 0 else 1) → GG l (rmK (1, 25)) K x (wM K q (mA (M_move (mA (M_keep S c) 12 ((16 * (S.1 2)) + c) t) c m145) 5 c 0)) 175 [(0, .ref (q 0)), (1, .int (iI c)), (2, .int (iI t)), (3, .int (iI ((16 * (S.1 2)) + c)))] [.int (iI m175), .int (iI ((16 * (S.1 2)) + c)), .ref (q 16)] := by
        intro m175 e_m175
        refine gM_s15 X (hD _) (by omega) dX3_make_175 ?_
        refine gx_aload_n X dX3_make_176 rfl 0 rfl ?_
        refine gM_r4 X dX3_make_177 ?_
        refine gx_iload_n X dX3_make_180 rfl 1 rfl ?_
        refine gx_dup2 X dX3_make_181 rfl rfl ?_
        refine gM_l4 (v := (S.2 4 c)) X (by omega) ((congrFun (M_move_ar (mA (M_keep S c) 12 ((16 * (S.1 2)) + c) t) c m145 4 (by decide)) c).trans (congrFun (M_keep_ar S c 4 (by decide)) c)) dX3_make_182 ?_
        refine gx_aload_n X dX3_make_183 rfl 0 rfl ?_
        refine gM_r15 X dX3_make_184 ?_
        refine gx_iload_n X dX3_make_187 rfl 3 rfl ?_
        refine gM_l15 (v := m175) X (by omega) (iu_same _ _ _) dX3_make_188 ?_
        have J197 : ∀ (m197 : Int), m197 = (if m175 = 0 then 1 else (-1)) → GG l (rmK (1, 25)) K x (wM K q (mA (mA (M_move (mA (M_keep S c) 12 ((16 * (S.1 2)) + c) t) c m145) 5 c 0) 15 ((16 * (S.1 2)) + c) m175)) 197 [(0, .ref (q 0)), (1, .int (iI c)), (2, .int (iI t)), (3, .int (iI ((16 * (S.1 2)) + c)))] [.int (iI m197), .int (iI (S.2 4 c)), .int (iI c), .ref (q 5)] := by
          intro m197 e_m197
          refine gx_iadd X dX3_make_197 ?_
          refine gM_s4 X (hD _) (by omega) dX3_make_198 ?_
          refine gx_aload_n X dX3_make_199 rfl 0 rfl ?_
          refine gM_r13 X dX3_make_200 ?_
          refine gx_iload_n X dX3_make_203 rfl 3 rfl ?_
          refine gx_aload_n X dX3_make_204 rfl 0 rfl ?_
          refine gM_r1 X dX3_make_205 ?_
          refine gx_iconst (z := 4) X dX3_make_208 rfl ?_
          refine gx_iload_n X dX3_make_209 rfl 1 rfl ?_
          refine gx_imul X dX3_make_210 ?_
          refine gx_iload_n X dX3_make_211 rfl 2 rfl ?_
          refine gx_iadd X dX3_make_212 ?_
          refine gM_l1 (v := ((M_move (mA (M_keep S c) 12 ((16 * (S.1 2)) + c) t) c m145).2 1 ((4 * c) + t))) X (by omega) rfl dX3_make_213 ?_
          refine gM_s13 X (hD _) (by omega) dX3_make_214 ?_
          refine gx_aload_n X dX3_make_215 rfl 0 rfl ?_
          refine gM_r14 X dX3_make_216 ?_
          refine gx_iload_n X dX3_make_219 rfl 3 rfl ?_
          refine gx_aload_n X dX3_make_220 rfl 0 rfl ?_
          refine gM_r1 X dX3_make_221 ?_
          refine gx_iconst (z := 4) X dX3_make_224 rfl ?_
          refine gx_iload_n X dX3_make_225 rfl 1 rfl ?_
          refine gx_imul X dX3_make_226 ?_
          refine gx_iload_n X dX3_make_227 rfl 2 rfl ?_
          refine gx_iadd X dX3_make_228 ?_
          refine gx_iconst (z := 2) X dX3_make_229 rfl ?_
          refine gx_iadd X dX3_make_230 ?_
          refine gM_l1 (v := ((M_move (mA (M_keep S c) 12 ((16 * (S.1 2)) + c) t) c m145).2 1 (((4 * c) + t) + 2))) X (by omega) rfl dX3_make_231 ?_
          refine gM_s14 X (hD _) (by omega) dX3_make_232 ?_
          refine gx_sub [0, 1, 2, 3] rfl ?_
          subst e_m145
          subst e_m175
          subst e_m197
          exact J233 _ ((if_neg hc24).symm) 
        refine gx_if_ne (tgt := 196) X dX3_make_189 (by decide) (by omega) (fun hc189 => ?_) (fun hc189 => ?_)
        · refine gx_iconst (z := (-1)) X dX3_make_196 rfl ?_
          refine gx_sub [0, 1, 2, 3] rfl ?_
          exact J197 (-1) ((if_neg hc189).symm) 
        · refine gx_iconst (z := 1) X dX3_make_192 rfl ?_
          refine gx_goto (tgt := 197) X dX3_make_193 (by decide) ?_
          refine gx_sub [0, 1, 2, 3] rfl ?_
          exact J197 1 ((if_pos hc189).symm) 
      refine gx_icmp_ne (tgt := 174) X dX3_make_167 (by decide) (by omega) (fun hc167 => ?_) (fun hc167 => ?_)
      · refine gx_iconst (z := 1) X dX3_make_174 rfl ?_
        refine gx_sub [0, 1, 2, 3] rfl ?_
        exact J175 1 ((if_neg hc167).symm) 
      · refine gx_iconst (z := 0) X dX3_make_170 rfl ?_
        refine gx_goto (tgt := 175) X dX3_make_171 (by decide) ?_
        refine gx_sub [0, 1, 2, 3] rfl ?_
        exact J175 0 ((if_pos hc167).symm) 
    refine gx_if_ne (tgt := 144) X dX3_make_137 (by decide) (by omega) (fun hc137 => ?_) (fun hc137 => ?_)
    · refine gx_iconst (z := 3) X dX3_make_144 rfl ?_
      refine gx_sub [1, 2, 3, 0] rfl ?_
      exact J145 3 ((if_neg hc137).symm) 
    · refine gx_iconst (z := 1) X dX3_make_140 rfl ?_
      refine gx_goto (tgt := 145) X dX3_make_141 (by decide) ?_
      refine gx_sub [1, 2, 3, 0] rfl ?_
      exact J145 1 ((if_pos hc137).symm) 
  · refine gx_aload_n X dX3_make_27 rfl 1 rfl ?_
    refine gM_r5 X dX3_make_28 ?_
    refine gx_iload_n X dX3_make_31 rfl 2 rfl ?_
    refine gx_dup2 X dX3_make_32 rfl rfl ?_
    refine gM_l5 (v := (S.2 5 c)) X (by omega) (congrFun (M_keep_ar S c 5 (by decide)) c) dX3_make_33 ?_
    refine gx_iconst (z := 1) X dX3_make_34 rfl ?_
    refine gx_iadd X dX3_make_35 ?_
    refine gM_s5 X (hD _) (by omega) dX3_make_36 ?_
    refine gx_aload_n X dX3_make_37 rfl 1 rfl ?_
    refine gM_r13 X dX3_make_38 ?_
    refine gx_iload_n X dX3_make_41 rfl 0 rfl ?_
    refine gx_aload_n X dX3_make_42 rfl 1 rfl ?_
    refine gM_g2 (v := (S.1 2)) X (congrFun (M_keep_sc S c) 2) dX3_make_43 ?_
    have J69 : ∀ (m69 : Int), m69 = (if (S.1 2) = 0 then (S.2 1 (4 * c)) else (S.2 13 (((16 * (S.1 2)) + c) - 16))) → GG l (rmK (1, 25)) K x (wM K q (mA (mA (M_keep S c) 12 ((16 * (S.1 2)) + c) t) 5 c ((S.2 5 c) + 1))) 69 [(0, .ref (q 0)), (1, .int (iI c)), (2, .int (iI t)), (3, .int (iI ((16 * (S.1 2)) + c)))] [.int (iI m69), .int (iI ((16 * (S.1 2)) + c)), .ref (q 14)] := by
      intro m69 e_m69
      refine gM_s13 X (hD _) (by omega) dX3_make_69 ?_
      refine gx_aload_n X dX3_make_70 rfl 0 rfl ?_
      refine gM_r14 X dX3_make_71 ?_
      refine gx_iload_n X dX3_make_74 rfl 3 rfl ?_
      refine gx_aload_n X dX3_make_75 rfl 0 rfl ?_
      refine gM_g2 (v := (S.1 2)) X (congrFun (M_keep_sc S c) 2) dX3_make_76 ?_
      have J104 : ∀ (m104 : Int), m104 = (if (S.1 2) = 0 then (S.2 1 ((4 * c) + 2)) else (S.2 14 (((16 * (S.1 2)) + c) - 16))) → GG l (rmK (1, 25)) K x (wM K q (mA (mA (mA (M_keep S c) 12 ((16 * (S.1 2)) + c) t) 5 c ((S.2 5 c) + 1)) 13 ((16 * (S.1 2)) + c) m69)) 104 [(0, .ref (q 0)), (1, .int (iI c)), (2, .int (iI t)), (3, .int (iI ((16 * (S.1 2)) + c)))] [.int (iI m104), .int (iI ((16 * (S.1 2)) + c)), .ref (q 15)] := by
        intro m104 e_m104
        refine gM_s14 X (hD _) (by omega) dX3_make_104 ?_
        refine gx_aload_n X dX3_make_105 rfl 0 rfl ?_
        refine gM_r15 X dX3_make_106 ?_
        refine gx_iload_n X dX3_make_109 rfl 3 rfl ?_
        refine gx_aload_n X dX3_make_110 rfl 0 rfl ?_
        refine gM_g2 (v := (S.1 2)) X (congrFun (M_keep_sc S c) 2) dX3_make_111 ?_
        have J130 : ∀ (m130 : Int), m130 = (if (S.1 2) = 0 then 0 else (S.2 15 (((16 * (S.1 2)) + c) - 16))) → GG l (rmK (1, 25)) K x (wM K q (mA (mA (mA (mA (M_keep S c) 12 ((16 * (S.1 2)) + c) t) 5 c ((S.2 5 c) + 1)) 13 ((16 * (S.1 2)) + c) m69) 14 ((16 * (S.1 2)) + c) m104)) 130 [(0, .ref (q 0)), (1, .int (iI c)), (2, .int (iI t)), (3, .int (iI ((16 * (S.1 2)) + c)))] [.int (iI m130), .int (iI ((16 * (S.1 2)) + c)), .ref (q 16)] := by
          intro m130 e_m130
          refine gM_s15 X (hD _) (by omega) dX3_make_130 ?_
          refine gx_goto (tgt := 233) X dX3_make_131 (by decide) ?_
          refine gx_sub [0, 1, 2, 3] rfl ?_
          subst e_m69
          subst e_m104
          subst e_m130
          exact J233 _ ((if_pos hc24).symm) 
        refine gx_if_ne (tgt := 121) X dX3_make_114 (by decide) (by omega) (fun hc114 => ?_) (fun hc114 => ?_)
        · refine gx_aload_n X dX3_make_121 rfl 0 rfl ?_
          refine gM_r15 X dX3_make_122 ?_
          refine gx_iload_n X dX3_make_125 rfl 3 rfl ?_
          refine gx_bipush (z := 16) X dX3_make_126 (by decide) ?_
          refine gx_isub X dX3_make_128 ?_
          refine gM_l15 (v := (S.2 15 (((16 * (S.1 2)) + c) - 16))) X (by omega) (congrFun (M_keep_ar S c 15 (by decide)) (((16 * (S.1 2)) + c) - 16)) dX3_make_129 ?_
          have hr129 := InvM_a15 hI (((16 * (S.1 2)) + c) - 16)
          refine gx_sub [0, 1, 2, 3] rfl ?_
          exact J130 (S.2 15 (((16 * (S.1 2)) + c) - 16)) ((if_neg hc114).symm) 
        · refine gx_iconst (z := 0) X dX3_make_117 rfl ?_
          refine gx_goto (tgt := 130) X dX3_make_118 (by decide) ?_
          refine gx_sub [0, 1, 2, 3] rfl ?_
          exact J130 0 ((if_pos hc114).symm) 
      refine gx_if_ne (tgt := 95) X dX3_make_79 (by decide) (by omega) (fun hc79 => ?_) (fun hc79 => ?_)
      · refine gx_aload_n X dX3_make_95 rfl 0 rfl ?_
        refine gM_r14 X dX3_make_96 ?_
        refine gx_iload_n X dX3_make_99 rfl 3 rfl ?_
        refine gx_bipush (z := 16) X dX3_make_100 (by decide) ?_
        refine gx_isub X dX3_make_102 ?_
        refine gM_l14 (v := (S.2 14 (((16 * (S.1 2)) + c) - 16))) X (by omega) (congrFun (M_keep_ar S c 14 (by decide)) (((16 * (S.1 2)) + c) - 16)) dX3_make_103 ?_
        have hr103 := InvM_a14 hI (((16 * (S.1 2)) + c) - 16)
        refine gx_sub [0, 1, 2, 3] rfl ?_
        exact J104 (S.2 14 (((16 * (S.1 2)) + c) - 16)) ((if_neg hc79).symm) 
      · refine gx_aload_n X dX3_make_82 rfl 0 rfl ?_
        refine gM_r1 X dX3_make_83 ?_
        refine gx_iconst (z := 4) X dX3_make_86 rfl ?_
        refine gx_iload_n X dX3_make_87 rfl 1 rfl ?_
        refine gx_imul X dX3_make_88 ?_
        refine gx_iconst (z := 2) X dX3_make_89 rfl ?_
        refine gx_iadd X dX3_make_90 ?_
        refine gM_l1 (v := (S.2 1 ((4 * c) + 2))) X (by omega) (congrFun (M_keep_ar S c 1 (by decide)) ((4 * c) + 2)) dX3_make_91 ?_
        have hr91 := InvM_a1 hI ((4 * c) + 2)
        refine gx_goto (tgt := 104) X dX3_make_92 (by decide) ?_
        refine gx_sub [0, 1, 2, 3] rfl ?_
        exact J104 (S.2 1 ((4 * c) + 2)) ((if_pos hc79).symm) 
    refine gx_if_ne (tgt := 60) X dX3_make_46 (by decide) (by omega) (fun hc46 => ?_) (fun hc46 => ?_)
    · refine gx_aload_n X dX3_make_60 rfl 1 rfl ?_
      refine gM_r13 X dX3_make_61 ?_
      refine gx_iload_n X dX3_make_64 rfl 0 rfl ?_
      refine gx_bipush (z := 16) X dX3_make_65 (by decide) ?_
      refine gx_isub X dX3_make_67 ?_
      refine gM_l13 (v := (S.2 13 (((16 * (S.1 2)) + c) - 16))) X (by omega) (congrFun (M_keep_ar S c 13 (by decide)) (((16 * (S.1 2)) + c) - 16)) dX3_make_68 ?_
      have hr68 := InvM_a13 hI (((16 * (S.1 2)) + c) - 16)
      refine gx_sub [1, 2, 3, 0] rfl ?_
      exact J69 (S.2 13 (((16 * (S.1 2)) + c) - 16)) ((if_neg hc46).symm) 
    · refine gx_aload_n X dX3_make_49 rfl 1 rfl ?_
      refine gM_r1 X dX3_make_50 ?_
      refine gx_iconst (z := 4) X dX3_make_53 rfl ?_
      refine gx_iload_n X dX3_make_54 rfl 2 rfl ?_
      refine gx_imul X dX3_make_55 ?_
      refine gM_l1 (v := (S.2 1 (4 * c))) X (by omega) (congrFun (M_keep_ar S c 1 (by decide)) (4 * c)) dX3_make_56 ?_
      have hr56 := InvM_a1 hI (4 * c)
      refine gx_goto (tgt := 69) X dX3_make_57 (by decide) ?_
      refine gx_sub [1, 2, 3, 0] rfl ?_
      exact J69 (S.2 1 (4 * c)) ((if_pos hc46).symm) 
def M_pick_l64 (S : Sta) (f : Int) (b : Int) : Nat → Int → Sta → Sta
  | 0, v3, S64 => S64
  | fu + 1, v3, S64 => if (S.1 1) ≤ v3 then S64 else (fun (m101 : Int) => M_pick_l64 S f b fu (v3 + 1) (M_make S64 v3 m101)) (if (zi_and (zi_shr f v3) 1) = 1 then 0 else if (zi_and (zi_shr b v3) 1) = 1 then 1 else 2)
theorem M_pick_l64_s (S : Sta) (f : Int) (b : Int) (fu : Nat) (v3 : Int) (S64 : Sta) : M_pick_l64 S f b (fu + 1) v3 S64 = (if (S.1 1) ≤ v3 then S64 else (fun (m101 : Int) => M_pick_l64 S f b fu (v3 + 1) (M_make S64 v3 m101)) (if (zi_and (zi_shr f v3) 1) = 1 then 0 else if (zi_and (zi_shr b v3) 1) = 1 then 1 else 2)) := rfl
def M_pick_r64 (S : Sta) (z64 : Sta) : Int × Sta := (((S.1 2) + 1), (mI z64 2 ((S.1 2) + 1)))
def M_pick (S : Sta) (f : Int) (b : Int) : Int × Sta := if (M_in f 0 ((zi_shl 1 (S.1 1)) - 1)) = 0 then ((-2), S) else if (M_in b 0 ((zi_shl 1 (S.1 1)) - 1)) = 0 then ((-2), S) else if (zi_and f b) = 0 then if (S.1 2) = 60 then ((-4), S) else (fun z64 => M_pick_r64 S z64) (M_pick_l64 S f b (17) 0 S) else ((-2), S)
set_option maxRecDepth 100000 in
theorem c_M_pick {l : Launch} {K : KK} {N : Int} (q : Nat → Nat) (S : Sta) (f : Int) (b : Int) (hI : InvW N S) (hp1 : ok32 f) (hp2 : ok32 b) : CtI l yX3_pick cX3_pick 4 .int (2, 48) K [.ref (q 0), .int (iI f), .int (iI b)] (wM K q S) (M_pick S f b).1 (wM K q ((M_pick S f b).2)) := by
  refine ctI_of (by decide) (Nat.le_of_ble_eq_true rfl) rfl ?_
  intro x X hD hR
  have hD : ∀ S9 : Sta, va_D (cx_A x) (wM K q S9) := fun S9 => va_D_same hD rfl
  have hs1 := InvM_s1 hI
  have hs2 := InvM_s2 hI
  have hs3 := InvM_s3 hI
  have hs4 := InvM_s4 hI
  have hsh := shl1_rg (S.1 1) (by omega)
  refine gx_aload_n X dX3_pick_0 rfl 0 rfl ?_
  refine gx_iconst (z := 0) X dX3_pick_1 rfl ?_
  refine gM_t0 X (hD _) (InvM_t hI) dX3_pick_2 ?_
  refine gx_iload_n X dX3_pick_5 rfl 1 rfl ?_
  refine gx_i2l X dX3_pick_6 (by omega) ?_
  refine gx_lconst (v := lI 0) X dX3_pick_7 rfl ?_
  refine gx_iconst (z := 1) X dX3_pick_8 rfl ?_
  refine gx_aload_n X dX3_pick_9 rfl 0 rfl ?_
  refine gM_g1 (v := (S.1 1)) X rfl dX3_pick_10 ?_
  refine gx_ishl X dX3_pick_13 ?_
  have ho13 := ok_shl 1 (S.1 1)
  refine gx_iconst (z := 1) X dX3_pick_14 rfl ?_
  refine gx_isub X dX3_pick_15 ?_
  refine gx_i2l X dX3_pick_16 (by omega) ?_
  refine gx_callSI (As := [.long (lI f), .long (lI 0), .long (lI ((zi_shl 1 (S.1 1)) - 1))]) (rest := []) X (hD _) lk_M_88 (c_M_in f 0 ((zi_shl 1 (S.1 1)) - 1) (by omega) (by omega) (by omega)) jn_nil rfl ⟨by decide, by decide⟩ (Nat.le_of_ble_eq_true rfl) dX3_pick_17 ?_
  have hq17_0 := M_in_sp f 0 ((zi_shl 1 (S.1 1)) - 1)
  refine gx_if_eq (tgt := 47) X dX3_pick_20 (by decide) (by omega) (fun hc20 => ?_) (fun hc20 => ?_)
  · refine gx_bipush (z := (-2)) X dX3_pick_47 (by decide) ?_
    exact gx_iret hR (congrArg Prod.fst ((show M_pick S f b = ((-2), S) from if_pos hc20))) (ret2 (fun z => (wM K q z)) ((show M_pick S f b = ((-2), S) from if_pos hc20))) dX3_pick_49
  · refine gx_iload_n X dX3_pick_23 rfl 2 rfl ?_
    refine gx_i2l X dX3_pick_24 (by omega) ?_
    refine gx_lconst (v := lI 0) X dX3_pick_25 rfl ?_
    refine gx_iconst (z := 1) X dX3_pick_26 rfl ?_
    refine gx_aload_n X dX3_pick_27 rfl 0 rfl ?_
    refine gM_g1 (v := (S.1 1)) X rfl dX3_pick_28 ?_
    refine gx_ishl X dX3_pick_31 ?_
    have ho31 := ok_shl 1 (S.1 1)
    refine gx_iconst (z := 1) X dX3_pick_32 rfl ?_
    refine gx_isub X dX3_pick_33 ?_
    refine gx_i2l X dX3_pick_34 (by omega) ?_
    refine gx_callSI (As := [.long (lI b), .long (lI 0), .long (lI ((zi_shl 1 (S.1 1)) - 1))]) (rest := []) X (hD _) lk_M_88 (c_M_in b 0 ((zi_shl 1 (S.1 1)) - 1) (by omega) (by omega) (by omega)) jn_nil rfl ⟨by decide, by decide⟩ (Nat.le_of_ble_eq_true rfl) dX3_pick_35 ?_
    have hq35_0 := M_in_sp b 0 ((zi_shl 1 (S.1 1)) - 1)
    refine gx_if_eq (tgt := 47) X dX3_pick_38 (by decide) (by omega) (fun hc38 => ?_) (fun hc38 => ?_)
    · refine gx_bipush (z := (-2)) X dX3_pick_47 (by decide) ?_
      exact gx_iret hR (congrArg Prod.fst ((show M_pick S f b = ((-2), S) from (if_neg hc20).trans (if_pos hc38)))) (ret2 (fun z => (wM K q z)) ((show M_pick S f b = ((-2), S) from (if_neg hc20).trans (if_pos hc38)))) dX3_pick_49
    · refine gx_iload_n X dX3_pick_41 rfl 1 rfl ?_
      refine gx_iload_n X dX3_pick_42 rfl 2 rfl ?_
      refine gx_iand X dX3_pick_43 ?_
      have ho43 := ok_and f b
      refine gx_if_eq (tgt := 50) X dX3_pick_44 (by decide) (by omega) (fun hc44 => ?_) (fun hc44 => ?_)
      · refine gx_aload_n X dX3_pick_50 rfl 0 rfl ?_
        refine gM_g2 (v := (S.1 2)) X rfl dX3_pick_51 ?_
        refine gx_bipush (z := 60) X dX3_pick_54 (by decide) ?_
        refine gx_icmp_ne (tgt := 62) X dX3_pick_56 (by decide) (by omega) (fun hc56 => ?_) (fun hc56 => ?_)
        · refine gx_iconst (z := 0) X dX3_pick_62 rfl ?_
          refine gx_istore_n X dX3_pick_63 rfl (by decide) rfl ?_
          have L64 : ∀ (fu : Nat) (v3 : Int) (S64 : Sta), (0 ≤ v3) → (v3 ≤ (S.1 1)) → (InvW N S64) → (S64.1 = S.1) → ((S.1 1) - v3) < (fu : Int) → (∀ z64 : Sta, M_pick_l64 S f b fu v3 S64 = z64 → (z64.1 = S.1) → GG l (rmK (2, 48)) K x (wM K q z64) 110 [(0, .ref (q 0)), (1, .int (iI f)), (2, .int (iI b))] []) → GG l (rmK (2, 48)) K x (wM K q S64) 64 [(0, .ref (q 0)), (1, .int (iI f)), (2, .int (iI b)), (3, .int (iI v3))] [] := by
            intro fu
            induction fu with
            | zero => intro v3 S64 hi64_0 hi64_1 hi64_2 hi64_3 hm64 K64; exact absurd hm64 (by omega)
            | succ fu ih =>
              intro v3 S64 hi64_0 hi64_1 hi64_2 hi64_3 hm64 K64
              refine gx_iload_n X dX3_pick_64 rfl 3 rfl ?_
              refine gx_aload_n X dX3_pick_65 rfl 0 rfl ?_
              refine gM_g1 (v := (S.1 1)) X (congrFun (hi64_3 ) 1) dX3_pick_66 ?_
              refine gx_icmp_ge (tgt := 110) X dX3_pick_69 (by decide) (by omega) (fun hc69 => ?_) (fun hc69 => ?_)
              · refine gx_sub [0, 1, 2] rfl ?_
                exact K64 S64 ((M_pick_l64_s S f b fu v3 S64).trans (if_pos hc69)) ((hi64_3 ))
              · have hkp := congrFun hi64_3 2
                refine gx_aload_n X dX3_pick_72 rfl 0 rfl ?_
                refine gx_iload_n X dX3_pick_73 rfl 3 rfl ?_
                refine gx_iload_n X dX3_pick_74 rfl 1 rfl ?_
                refine gx_iload_n X dX3_pick_75 rfl 3 rfl ?_
                refine gx_ishr X dX3_pick_76 ?_
                have ho76 := ok_shr f v3
                refine gx_iconst (z := 1) X dX3_pick_77 rfl ?_
                refine gx_iand X dX3_pick_78 ?_
                have ho78 := ok_and (zi_shr f v3) 1
                refine gx_iconst (z := 1) X dX3_pick_79 rfl ?_
                have J101 : ∀ (m101 : Int), m101 = (if (zi_and (zi_shr f v3) 1) = 1 then 0 else if (zi_and (zi_shr b v3) 1) = 1 then 1 else 2) → GG l (rmK (2, 48)) K x (wM K q S64) 101 [(0, .ref (q 0)), (1, .int (iI f)), (2, .int (iI b)), (3, .int (iI v3))] [.int (iI m101), .int (iI v3), .ref (q 0)] := by
                  intro m101 e_m101
                  refine gx_callVV (As := [.int (iI v3), .int (iI m101)]) (rest := []) X (hD _) lk_M_112 (ci := 3) rfl rfl 0 rfl (c_M_make q S64 v3 m101 hi64_2 (by omega) (by omega) (by omega)) jn_all rfl ⟨by decide, by decide⟩ (Nat.le_of_ble_eq_true rfl) dX3_pick_101 ?_
                  refine gx_iinc X dX3_pick_104 3 rfl (by decide) rfl ?_
                  refine gx_goto (tgt := 64) X dX3_pick_107 (by decide) ?_
                  refine gx_sub [1, 2, 3, 0] rfl ?_
                  subst e_m101
                  exact ih _ _ (by omega) (by omega) (M_make_inv _ _ _ hi64_2 (by omega) (by omega) (by omega)) (((M_make_sc _ _ _)).trans (hi64_3 )) (by omega) (fun z e hx => K64 z ((M_pick_l64_s S f b fu v3 S64).trans ((if_neg hc69).trans e)) hx)
                refine gx_icmp_ne (tgt := 87) X dX3_pick_80 (by decide) (by omega) (fun hc80 => ?_) (fun hc80 => ?_)
                · refine gx_iload_n X dX3_pick_87 rfl 2 rfl ?_
                  refine gx_iload_n X dX3_pick_88 rfl 3 rfl ?_
                  refine gx_ishr X dX3_pick_89 ?_
                  have ho89 := ok_shr b v3
                  refine gx_iconst (z := 1) X dX3_pick_90 rfl ?_
                  refine gx_iand X dX3_pick_91 ?_
                  have ho91 := ok_and (zi_shr b v3) 1
                  refine gx_iconst (z := 1) X dX3_pick_92 rfl ?_
                  refine gx_icmp_ne (tgt := 100) X dX3_pick_93 (by decide) (by omega) (fun hc93 => ?_) (fun hc93 => ?_)
                  · refine gx_iconst (z := 2) X dX3_pick_100 rfl ?_
                    refine gx_sub [0, 1, 2, 3] rfl ?_
                    exact J101 2 (((if_neg hc80).trans (if_neg hc93)).symm) 
                  · refine gx_iconst (z := 1) X dX3_pick_96 rfl ?_
                    refine gx_goto (tgt := 101) X dX3_pick_97 (by decide) ?_
                    refine gx_sub [0, 1, 2, 3] rfl ?_
                    exact J101 1 (((if_neg hc80).trans (if_pos hc93)).symm) 
                · refine gx_iconst (z := 0) X dX3_pick_83 rfl ?_
                  refine gx_goto (tgt := 101) X dX3_pick_84 (by decide) ?_
                  refine gx_sub [0, 1, 2, 3] rfl ?_
                  exact J101 0 ((if_pos hc80).symm) 
          refine gx_sub [1, 2, 3, 0] rfl ?_
          refine L64 (17) 0 S (by omega) (by omega) hI rfl (by omega) (fun z64 e64 hx64 => ?_)
          refine gx_aload_n X dX3_pick_110 rfl 0 rfl ?_
          refine gx_dup X dX3_pick_111 rfl ?_
          refine gM_g2 (v := (S.1 2)) X (congrFun (hx64 ) 2) dX3_pick_112 ?_
          refine gx_iconst (z := 1) X dX3_pick_115 rfl ?_
          refine gx_iadd X dX3_pick_116 ?_
          refine gM_p2 X (hD _) dX3_pick_117 ?_
          refine gx_aload_n X dX3_pick_120 rfl 0 rfl ?_
          refine gM_g2 (v := ((S.1 2) + 1)) X rfl dX3_pick_121 ?_
          exact gx_iret hR (congrArg Prod.fst ((show M_pick S f b = (((S.1 2) + 1), (mI z64 2 ((S.1 2) + 1))) from (if_neg hc20).trans ((if_neg hc38).trans ((if_pos hc44).trans ((if_neg hc56).trans (congrArg (fun z64 => M_pick_r64 S z64) e64))))))) (ret2 (fun z => (wM K q z)) ((show M_pick S f b = (((S.1 2) + 1), (mI z64 2 ((S.1 2) + 1))) from (if_neg hc20).trans ((if_neg hc38).trans ((if_pos hc44).trans ((if_neg hc56).trans (congrArg (fun z64 => M_pick_r64 S z64) e64))))))) dX3_pick_124
        · refine gx_bipush (z := (-4)) X dX3_pick_59 (by decide) ?_
          exact gx_iret hR (congrArg Prod.fst ((show M_pick S f b = ((-4), S) from (if_neg hc20).trans ((if_neg hc38).trans ((if_pos hc44).trans (if_pos hc56)))))) (ret2 (fun z => (wM K q z)) ((show M_pick S f b = ((-4), S) from (if_neg hc20).trans ((if_neg hc38).trans ((if_pos hc44).trans (if_pos hc56)))))) dX3_pick_61
      · refine gx_bipush (z := (-2)) X dX3_pick_47 (by decide) ?_
        exact gx_iret hR (congrArg Prod.fst ((show M_pick S f b = ((-2), S) from (if_neg hc20).trans ((if_neg hc38).trans (if_neg hc44))))) (ret2 (fun z => (wM K q z)) ((show M_pick S f b = ((-2), S) from (if_neg hc20).trans ((if_neg hc38).trans (if_neg hc44))))) dX3_pick_49
def M_packs_l72 (S : Sta) (a : Int) (b : Int) (c : Int) (d : Int) : Nat → Int → Sta → Sta
  | 0, v5, S72 => S72
  | fu + 1, v5, S72 => if (S.1 1) ≤ v5 then S72 else (fun (m130 : Int) => M_packs_l72 S a b c d fu (v5 + 1) (M_make S72 v5 m130)) (if (S72.2 3 v5) = 0 then a else if (S72.2 3 v5) = 1 then b else if (S72.2 3 v5) = 2 then c else d)
theorem M_packs_l72_s (S : Sta) (a : Int) (b : Int) (c : Int) (d : Int) (fu : Nat) (v5 : Int) (S72 : Sta) : M_packs_l72 S a b c d (fu + 1) v5 S72 = (if (S.1 1) ≤ v5 then S72 else (fun (m130 : Int) => M_packs_l72 S a b c d fu (v5 + 1) (M_make S72 v5 m130)) (if (S72.2 3 v5) = 0 then a else if (S72.2 3 v5) = 1 then b else if (S72.2 3 v5) = 2 then c else d)) := rfl
def M_packs_r72 (S : Sta) (z72 : Sta) : Int × Sta := (((S.1 2) + 1), (mI z72 2 ((S.1 2) + 1)))
def M_packs (S : Sta) (a : Int) (b : Int) (c : Int) (d : Int) : Int × Sta := if (M_in a 0 2) = 0 then ((-2), S) else if (M_in b 0 2) = 0 then ((-2), S) else if (M_in c 0 2) = 0 then ((-2), S) else if (M_in d 0 2) = 0 then ((-2), S) else if (S.1 2) = 60 then ((-4), S) else (fun z72 => M_packs_r72 S z72) (M_packs_l72 S a b c d (17) 0 S)
set_option maxRecDepth 100000 in
theorem c_M_packs {l : Launch} {K : KK} {N : Int} (q : Nat → Nat) (S : Sta) (a : Int) (b : Int) (c : Int) (d : Int) (hI : InvW N S) (hp1 : ok32 a) (hp2 : ok32 b) (hp3 : ok32 c) (hp4 : ok32 d) : CtI l yX3_packs cX3_packs 6 .int (2, 48) K [.ref (q 0), .int (iI a), .int (iI b), .int (iI c), .int (iI d)] (wM K q S) (M_packs S a b c d).1 (wM K q ((M_packs S a b c d).2)) := by
  refine ctI_of (by decide) (Nat.le_of_ble_eq_true rfl) rfl ?_
  intro x X hD hR
  have hD : ∀ S9 : Sta, va_D (cx_A x) (wM K q S9) := fun S9 => va_D_same hD rfl
  have hs1 := InvM_s1 hI
  have hs2 := InvM_s2 hI
  have hs3 := InvM_s3 hI
  have hs4 := InvM_s4 hI
  refine gx_aload_n X dX3_packs_0 rfl 0 rfl ?_
  refine gx_iconst (z := 0) X dX3_packs_1 rfl ?_
  refine gM_t0 X (hD _) (InvM_t hI) dX3_packs_2 ?_
  refine gx_iload_n X dX3_packs_5 rfl 1 rfl ?_
  refine gx_i2l X dX3_packs_6 (by omega) ?_
  refine gx_lconst (v := lI 0) X dX3_packs_7 rfl ?_
  refine gx_ldc2 (v := lI 2) X t_M_115 dX3_packs_8 ?_
  refine gx_callSI (As := [.long (lI a), .long (lI 0), .long (lI 2)]) (rest := []) X (hD _) lk_M_88 (c_M_in a 0 2 (by omega) (by omega) (by omega)) jn_nil rfl ⟨by decide, by decide⟩ (Nat.le_of_ble_eq_true rfl) dX3_packs_11 ?_
  have hq11_0 := M_in_sp a 0 2
  refine gx_if_eq (tgt := 54) X dX3_packs_14 (by decide) (by omega) (fun hc14 => ?_) (fun hc14 => ?_)
  · refine gx_bipush (z := (-2)) X dX3_packs_54 (by decide) ?_
    exact gx_iret hR (congrArg Prod.fst ((show M_packs S a b c d = ((-2), S) from if_pos hc14))) (ret2 (fun z => (wM K q z)) ((show M_packs S a b c d = ((-2), S) from if_pos hc14))) dX3_packs_56
  · refine gx_iload_n X dX3_packs_17 rfl 2 rfl ?_
    refine gx_i2l X dX3_packs_18 (by omega) ?_
    refine gx_lconst (v := lI 0) X dX3_packs_19 rfl ?_
    refine gx_ldc2 (v := lI 2) X t_M_115 dX3_packs_20 ?_
    refine gx_callSI (As := [.long (lI b), .long (lI 0), .long (lI 2)]) (rest := []) X (hD _) lk_M_88 (c_M_in b 0 2 (by omega) (by omega) (by omega)) jn_nil rfl ⟨by decide, by decide⟩ (Nat.le_of_ble_eq_true rfl) dX3_packs_23 ?_
    have hq23_0 := M_in_sp b 0 2
    refine gx_if_eq (tgt := 54) X dX3_packs_26 (by decide) (by omega) (fun hc26 => ?_) (fun hc26 => ?_)
    · refine gx_bipush (z := (-2)) X dX3_packs_54 (by decide) ?_
      exact gx_iret hR (congrArg Prod.fst ((show M_packs S a b c d = ((-2), S) from (if_neg hc14).trans (if_pos hc26)))) (ret2 (fun z => (wM K q z)) ((show M_packs S a b c d = ((-2), S) from (if_neg hc14).trans (if_pos hc26)))) dX3_packs_56
    · refine gx_iload_n X dX3_packs_29 rfl 3 rfl ?_
      refine gx_i2l X dX3_packs_30 (by omega) ?_
      refine gx_lconst (v := lI 0) X dX3_packs_31 rfl ?_
      refine gx_ldc2 (v := lI 2) X t_M_115 dX3_packs_32 ?_
      refine gx_callSI (As := [.long (lI c), .long (lI 0), .long (lI 2)]) (rest := []) X (hD _) lk_M_88 (c_M_in c 0 2 (by omega) (by omega) (by omega)) jn_nil rfl ⟨by decide, by decide⟩ (Nat.le_of_ble_eq_true rfl) dX3_packs_35 ?_
      have hq35_0 := M_in_sp c 0 2
      refine gx_if_eq (tgt := 54) X dX3_packs_38 (by decide) (by omega) (fun hc38 => ?_) (fun hc38 => ?_)
      · refine gx_bipush (z := (-2)) X dX3_packs_54 (by decide) ?_
        exact gx_iret hR (congrArg Prod.fst ((show M_packs S a b c d = ((-2), S) from (if_neg hc14).trans ((if_neg hc26).trans (if_pos hc38))))) (ret2 (fun z => (wM K q z)) ((show M_packs S a b c d = ((-2), S) from (if_neg hc14).trans ((if_neg hc26).trans (if_pos hc38))))) dX3_packs_56
      · refine gx_iload X dX3_packs_41 4 rfl ?_
        refine gx_i2l X dX3_packs_43 (by omega) ?_
        refine gx_lconst (v := lI 0) X dX3_packs_44 rfl ?_
        refine gx_ldc2 (v := lI 2) X t_M_115 dX3_packs_45 ?_
        refine gx_callSI (As := [.long (lI d), .long (lI 0), .long (lI 2)]) (rest := []) X (hD _) lk_M_88 (c_M_in d 0 2 (by omega) (by omega) (by omega)) jn_nil rfl ⟨by decide, by decide⟩ (Nat.le_of_ble_eq_true rfl) dX3_packs_48 ?_
        have hq48_0 := M_in_sp d 0 2
        refine gx_if_ne (tgt := 57) X dX3_packs_51 (by decide) (by omega) (fun hc51 => ?_) (fun hc51 => ?_)
        · refine gx_aload_n X dX3_packs_57 rfl 0 rfl ?_
          refine gM_g2 (v := (S.1 2)) X rfl dX3_packs_58 ?_
          refine gx_bipush (z := 60) X dX3_packs_61 (by decide) ?_
          refine gx_icmp_ne (tgt := 69) X dX3_packs_63 (by decide) (by omega) (fun hc63 => ?_) (fun hc63 => ?_)
          · refine gx_iconst (z := 0) X dX3_packs_69 rfl ?_
            refine gx_istore X dX3_packs_70 (by decide) rfl ?_
            have L72 : ∀ (fu : Nat) (v5 : Int) (S72 : Sta), (0 ≤ v5) → (v5 ≤ (S.1 1)) → (InvW N S72) → (S72.1 = S.1) → ((S.1 1) - v5) < (fu : Int) → (∀ z72 : Sta, M_packs_l72 S a b c d fu v5 S72 = z72 → (z72.1 = S.1) → GG l (rmK (2, 48)) K x (wM K q z72) 139 [(0, .ref (q 0)), (1, .int (iI a)), (2, .int (iI b)), (3, .int (iI c)), (4, .int (iI d))] []) → GG l (rmK (2, 48)) K x (wM K q S72) 72 [(0, .ref (q 0)), (1, .int (iI a)), (2, .int (iI b)), (3, .int (iI c)), (4, .int (iI d)), (5, .int (iI v5))] [] := by
              intro fu
              induction fu with
              | zero => intro v5 S72 hi72_0 hi72_1 hi72_2 hi72_3 hm72 K72; exact absurd hm72 (by omega)
              | succ fu ih =>
                intro v5 S72 hi72_0 hi72_1 hi72_2 hi72_3 hm72 K72
                refine gx_iload X dX3_packs_72 5 rfl ?_
                refine gx_aload_n X dX3_packs_74 rfl 0 rfl ?_
                refine gM_g1 (v := (S.1 1)) X (congrFun (hi72_3 ) 1) dX3_packs_75 ?_
                refine gx_icmp_ge (tgt := 139) X dX3_packs_78 (by decide) (by omega) (fun hc78 => ?_) (fun hc78 => ?_)
                · refine gx_sub [0, 1, 2, 3, 4] rfl ?_
                  exact K72 S72 ((M_packs_l72_s S a b c d fu v5 S72).trans (if_pos hc78)) ((hi72_3 ))
                · have hkp := congrFun hi72_3 2
                  refine gx_aload_n X dX3_packs_81 rfl 0 rfl ?_
                  refine gx_iload X dX3_packs_82 5 rfl ?_
                  refine gx_aload_n X dX3_packs_84 rfl 0 rfl ?_
                  refine gM_r3 X dX3_packs_85 ?_
                  refine gx_iload X dX3_packs_88 5 rfl ?_
                  refine gM_l3 (v := (S72.2 3 v5)) X (by omega) rfl dX3_packs_90 ?_
                  have hr90 := InvM_a3 hi72_2 v5
                  have J130 : ∀ (m130 : Int), m130 = (if (S72.2 3 v5) = 0 then a else if (S72.2 3 v5) = 1 then b else if (S72.2 3 v5) = 2 then c else d) → GG l (rmK (2, 48)) K x (wM K q S72) 130 [(0, .ref (q 0)), (1, .int (iI a)), (2, .int (iI b)), (3, .int (iI c)), (4, .int (iI d)), (5, .int (iI v5))] [.int (iI m130), .int (iI v5), .ref (q 0)] := by
                    intro m130 e_m130
                    refine gx_callVV (As := [.int (iI v5), .int (iI m130)]) (rest := []) X (hD _) lk_M_112 (ci := 3) rfl rfl 0 rfl (c_M_make q S72 v5 m130 hi72_2 (by omega) (by omega) (by omega)) jn_all rfl ⟨by decide, by decide⟩ (Nat.le_of_ble_eq_true rfl) dX3_packs_130 ?_
                    refine gx_iinc X dX3_packs_133 5 rfl (by decide) rfl ?_
                    refine gx_goto (tgt := 72) X dX3_packs_136 (by decide) ?_
                    refine gx_sub [1, 2, 3, 4, 5, 0] rfl ?_
                    subst e_m130
                    exact ih _ _ (by omega) (by omega) (M_make_inv _ _ _ hi72_2 (by omega) (by omega) (by omega)) (((M_make_sc _ _ _)).trans (hi72_3 )) (by omega) (fun z e hx => K72 z ((M_packs_l72_s S a b c d fu v5 S72).trans ((if_neg hc78).trans e)) hx)
                  refine gx_if_ne (tgt := 98) X dX3_packs_91 (by decide) (by omega) (fun hc91 => ?_) (fun hc91 => ?_)
                  · refine gx_aload_n X dX3_packs_98 rfl 0 rfl ?_
                    refine gM_r3 X dX3_packs_99 ?_
                    refine gx_iload X dX3_packs_102 5 rfl ?_
                    refine gM_l3 (v := (S72.2 3 v5)) X (by omega) rfl dX3_packs_104 ?_
                    refine gx_iconst (z := 1) X dX3_packs_105 rfl ?_
                    refine gx_icmp_ne (tgt := 113) X dX3_packs_106 (by decide) (by omega) (fun hc106 => ?_) (fun hc106 => ?_)
                    · refine gx_aload_n X dX3_packs_113 rfl 0 rfl ?_
                      refine gM_r3 X dX3_packs_114 ?_
                      refine gx_iload X dX3_packs_117 5 rfl ?_
                      refine gM_l3 (v := (S72.2 3 v5)) X (by omega) rfl dX3_packs_119 ?_
                      refine gx_iconst (z := 2) X dX3_packs_120 rfl ?_
                      refine gx_icmp_ne (tgt := 128) X dX3_packs_121 (by decide) (by omega) (fun hc121 => ?_) (fun hc121 => ?_)
                      · refine gx_iload X dX3_packs_128 4 rfl ?_
                        refine gx_sub [0, 1, 2, 3, 4, 5] rfl ?_
                        exact J130 d (((if_neg hc91).trans ((if_neg hc106).trans (if_neg hc121))).symm) 
                      · refine gx_iload_n X dX3_packs_124 rfl 3 rfl ?_
                        refine gx_goto (tgt := 130) X dX3_packs_125 (by decide) ?_
                        refine gx_sub [0, 1, 2, 3, 4, 5] rfl ?_
                        exact J130 c (((if_neg hc91).trans ((if_neg hc106).trans (if_pos hc121))).symm) 
                    · refine gx_iload_n X dX3_packs_109 rfl 2 rfl ?_
                      refine gx_goto (tgt := 130) X dX3_packs_110 (by decide) ?_
                      refine gx_sub [0, 1, 2, 3, 4, 5] rfl ?_
                      exact J130 b (((if_neg hc91).trans (if_pos hc106)).symm) 
                  · refine gx_iload_n X dX3_packs_94 rfl 1 rfl ?_
                    refine gx_goto (tgt := 130) X dX3_packs_95 (by decide) ?_
                    refine gx_sub [0, 1, 2, 3, 4, 5] rfl ?_
                    exact J130 a ((if_pos hc91).symm) 
            refine gx_sub [1, 2, 3, 4, 5, 0] rfl ?_
            refine L72 (17) 0 S (by omega) (by omega) hI rfl (by omega) (fun z72 e72 hx72 => ?_)
            refine gx_aload_n X dX3_packs_139 rfl 0 rfl ?_
            refine gx_dup X dX3_packs_140 rfl ?_
            refine gM_g2 (v := (S.1 2)) X (congrFun (hx72 ) 2) dX3_packs_141 ?_
            refine gx_iconst (z := 1) X dX3_packs_144 rfl ?_
            refine gx_iadd X dX3_packs_145 ?_
            refine gM_p2 X (hD _) dX3_packs_146 ?_
            refine gx_aload_n X dX3_packs_149 rfl 0 rfl ?_
            refine gM_g2 (v := ((S.1 2) + 1)) X rfl dX3_packs_150 ?_
            exact gx_iret hR (congrArg Prod.fst ((show M_packs S a b c d = (((S.1 2) + 1), (mI z72 2 ((S.1 2) + 1))) from (if_neg hc14).trans ((if_neg hc26).trans ((if_neg hc38).trans ((if_neg hc51).trans ((if_neg hc63).trans (congrArg (fun z72 => M_packs_r72 S z72) e72)))))))) (ret2 (fun z => (wM K q z)) ((show M_packs S a b c d = (((S.1 2) + 1), (mI z72 2 ((S.1 2) + 1))) from (if_neg hc14).trans ((if_neg hc26).trans ((if_neg hc38).trans ((if_neg hc51).trans ((if_neg hc63).trans (congrArg (fun z72 => M_packs_r72 S z72) e72)))))))) dX3_packs_153
          · refine gx_bipush (z := (-4)) X dX3_packs_66 (by decide) ?_
            exact gx_iret hR (congrArg Prod.fst ((show M_packs S a b c d = ((-4), S) from (if_neg hc14).trans ((if_neg hc26).trans ((if_neg hc38).trans ((if_neg hc51).trans (if_pos hc63))))))) (ret2 (fun z => (wM K q z)) ((show M_packs S a b c d = ((-4), S) from (if_neg hc14).trans ((if_neg hc26).trans ((if_neg hc38).trans ((if_neg hc51).trans (if_pos hc63))))))) dX3_packs_68
        · refine gx_bipush (z := (-2)) X dX3_packs_54 (by decide) ?_
          exact gx_iret hR (congrArg Prod.fst ((show M_packs S a b c d = ((-2), S) from (if_neg hc14).trans ((if_neg hc26).trans ((if_neg hc38).trans (if_pos hc51)))))) (ret2 (fun z => (wM K q z)) ((show M_packs S a b c d = ((-2), S) from (if_neg hc14).trans ((if_neg hc26).trans ((if_neg hc38).trans (if_pos hc51)))))) dX3_packs_56
def M_unweave_l47 (S : Sta) (v1 : Int) : Nat → Int → Sta → Sta
  | 0, v3, S47 => S47
  | fu + 1, v3, S47 => if 4 ≤ v3 then S47 else M_unweave_l47 S v1 fu (v3 + 1) (mA S47 1 ((4 * v1) + v3) (S47.2 7 ((4 * ((16 * ((S.1 2) - 1)) + v1)) + v3)))
theorem M_unweave_l47_s (S : Sta) (v1 : Int) (fu : Nat) (v3 : Int) (S47 : Sta) : M_unweave_l47 S v1 (fu + 1) v3 S47 = (if 4 ≤ v3 then S47 else M_unweave_l47 S v1 fu (v3 + 1) (mA S47 1 ((4 * v1) + v3) (S47.2 7 ((4 * ((16 * ((S.1 2) - 1)) + v1)) + v3)))) := rfl
def M_unweave_l27 (S : Sta) : Nat → Int → Sta → Sta
  | 0, v1, S27 => S27
  | fu + 1, v1, S27 => if (S.1 1) ≤ v1 then S27 else (fun (z47 : Sta) => M_unweave_l27 S fu (v1 + 1) (mA (mA (mA (mA z47 2 v1 (z47.2 8 ((16 * ((S.1 2) - 1)) + v1))) 4 v1 (z47.2 9 ((16 * ((S.1 2) - 1)) + v1))) 5 v1 (z47.2 10 ((16 * ((S.1 2) - 1)) + v1))) 6 v1 (z47.2 11 ((16 * ((S.1 2) - 1)) + v1)))) (M_unweave_l47 S v1 (5) 0 S27)
theorem M_unweave_l27_s (S : Sta) (fu : Nat) (v1 : Int) (S27 : Sta) : M_unweave_l27 S (fu + 1) v1 S27 = (if (S.1 1) ≤ v1 then S27 else (fun (z47 : Sta) => M_unweave_l27 S fu (v1 + 1) (mA (mA (mA (mA z47 2 v1 (z47.2 8 ((16 * ((S.1 2) - 1)) + v1))) 4 v1 (z47.2 9 ((16 * ((S.1 2) - 1)) + v1))) 5 v1 (z47.2 10 ((16 * ((S.1 2) - 1)) + v1))) 6 v1 (z47.2 11 ((16 * ((S.1 2) - 1)) + v1)))) (M_unweave_l47 S v1 (5) 0 S27)) := rfl
def M_unweave_r27 (S : Sta) (z27 : Sta) : Int × Sta := (((S.1 2) - 1), z27)
def M_unweave (S : Sta) : Int × Sta := if (S.1 2) = 0 then ((-3), S) else (fun z27 => M_unweave_r27 S z27) (M_unweave_l27 S (17) 0 (mI S 2 ((S.1 2) - 1)))
set_option maxRecDepth 100000 in
theorem c_M_unweave {l : Launch} {K : KK} {N : Int} (q : Nat → Nat) (S : Sta) (hI : InvW N S) : CtI l yX3_unweave cX3_unweave 4 .int (0, 0) K [.ref (q 0)] (wM K q S) (M_unweave S).1 (wM K q ((M_unweave S).2)) := by
  refine ctI_of (by decide) (Nat.le_of_ble_eq_true rfl) rfl ?_
  intro x X hD hR
  have hD : ∀ S9 : Sta, va_D (cx_A x) (wM K q S9) := fun S9 => va_D_same hD rfl
  have hs1 := InvM_s1 hI
  have hs2 := InvM_s2 hI
  have hs3 := InvM_s3 hI
  have hs4 := InvM_s4 hI
  refine gx_aload_n X dX3_unweave_0 rfl 0 rfl ?_
  refine gx_iconst (z := 0) X dX3_unweave_1 rfl ?_
  refine gM_t0 X (hD _) (InvM_t hI) dX3_unweave_2 ?_
  refine gx_aload_n X dX3_unweave_5 rfl 0 rfl ?_
  refine gM_g2 (v := (S.1 2)) X rfl dX3_unweave_6 ?_
  refine gx_if_ne (tgt := 15) X dX3_unweave_9 (by decide) (by omega) (fun hc9 => ?_) (fun hc9 => ?_)
  · refine gx_aload_n X dX3_unweave_15 rfl 0 rfl ?_
    refine gx_dup X dX3_unweave_16 rfl ?_
    refine gM_g2 (v := (S.1 2)) X rfl dX3_unweave_17 ?_
    refine gx_iconst (z := 1) X dX3_unweave_20 rfl ?_
    refine gx_isub X dX3_unweave_21 ?_
    refine gM_p2 X (hD _) dX3_unweave_22 ?_
    refine gx_iconst (z := 0) X dX3_unweave_25 rfl ?_
    refine gx_istore_n X dX3_unweave_26 rfl (by decide) rfl ?_
    have L27 : ∀ (fu : Nat) (v1 : Int) (S27 : Sta), (0 ≤ v1) → (v1 ≤ (S.1 1)) → (S27.1 = (mI S 2 ((S.1 2) - 1)).1) → ((S.1 1) - v1) < (fu : Int) → (∀ z27 : Sta, M_unweave_l27 S fu v1 S27 = z27 → (z27.1 = (mI S 2 ((S.1 2) - 1)).1) → GG l (rmK (0, 0)) K x (wM K q z27) 132 [(0, .ref (q 0))] []) → GG l (rmK (0, 0)) K x (wM K q S27) 27 [(0, .ref (q 0)), (1, .int (iI v1))] [] := by
      intro fu
      induction fu with
      | zero => intro v1 S27 hi27_0 hi27_1 hi27_2 hm27 K27; exact absurd hm27 (by omega)
      | succ fu ih =>
        intro v1 S27 hi27_0 hi27_1 hi27_2 hm27 K27
        refine gx_iload_n X dX3_unweave_27 rfl 1 rfl ?_
        refine gx_aload_n X dX3_unweave_28 rfl 0 rfl ?_
        refine gM_g1 (v := (S.1 1)) X (congrFun (hi27_2 ) 1) dX3_unweave_29 ?_
        refine gx_icmp_ge (tgt := 132) X dX3_unweave_32 (by decide) (by omega) (fun hc32 => ?_) (fun hc32 => ?_)
        · refine gx_sub [0] rfl ?_
          exact K27 S27 ((M_unweave_l27_s S fu v1 S27).trans (if_pos hc32)) ((hi27_2 ))
        · refine gx_bipush (z := 16) X dX3_unweave_35 (by decide) ?_
          refine gx_aload_n X dX3_unweave_37 rfl 0 rfl ?_
          refine gM_g2 (v := ((S.1 2) - 1)) X (congrFun (hi27_2 ) 2) dX3_unweave_38 ?_
          refine gx_imul X dX3_unweave_41 ?_
          refine gx_iload_n X dX3_unweave_42 rfl 1 rfl ?_
          refine gx_iadd X dX3_unweave_43 ?_
          refine gx_istore_n X dX3_unweave_44 rfl (by decide) rfl ?_
          refine gx_iconst (z := 0) X dX3_unweave_45 rfl ?_
          refine gx_istore_n X dX3_unweave_46 rfl (by decide) rfl ?_
          have L47 : ∀ (fu : Nat) (v3 : Int) (S47 : Sta), (0 ≤ v3) → (v3 ≤ 4) → (S47.1 = S27.1) → (4 - v3) < (fu : Int) → (∀ z47 : Sta, M_unweave_l47 S v1 fu v3 S47 = z47 → (z47.1 = S27.1) → GG l (rmK (0, 0)) K x (wM K q z47) 78 [(0, .ref (q 0)), (1, .int (iI v1)), (2, .int (iI ((16 * ((S.1 2) - 1)) + v1)))] []) → GG l (rmK (0, 0)) K x (wM K q S47) 47 [(0, .ref (q 0)), (1, .int (iI v1)), (2, .int (iI ((16 * ((S.1 2) - 1)) + v1))), (3, .int (iI v3))] [] := by
            intro fu
            induction fu with
            | zero => intro v3 S47 hi47_0 hi47_1 hi47_2 hm47 K47; exact absurd hm47 (by omega)
            | succ fu ih =>
              intro v3 S47 hi47_0 hi47_1 hi47_2 hm47 K47
              refine gx_iload_n X dX3_unweave_47 rfl 3 rfl ?_
              refine gx_iconst (z := 4) X dX3_unweave_48 rfl ?_
              refine gx_icmp_ge (tgt := 78) X dX3_unweave_49 (by decide) (by omega) (fun hc49 => ?_) (fun hc49 => ?_)
              · refine gx_sub [0, 1, 2] rfl ?_
                exact K47 S47 ((M_unweave_l47_s S v1 fu v3 S47).trans (if_pos hc49)) ((hi47_2 ))
              · refine gx_aload_n X dX3_unweave_52 rfl 0 rfl ?_
                refine gM_r1 X dX3_unweave_53 ?_
                refine gx_iconst (z := 4) X dX3_unweave_56 rfl ?_
                refine gx_iload_n X dX3_unweave_57 rfl 1 rfl ?_
                refine gx_imul X dX3_unweave_58 ?_
                refine gx_iload_n X dX3_unweave_59 rfl 3 rfl ?_
                refine gx_iadd X dX3_unweave_60 ?_
                refine gx_aload_n X dX3_unweave_61 rfl 0 rfl ?_
                refine gM_r7 X dX3_unweave_62 ?_
                refine gx_iconst (z := 4) X dX3_unweave_65 rfl ?_
                refine gx_iload_n X dX3_unweave_66 rfl 2 rfl ?_
                refine gx_imul X dX3_unweave_67 ?_
                refine gx_iload_n X dX3_unweave_68 rfl 3 rfl ?_
                refine gx_iadd X dX3_unweave_69 ?_
                refine gM_l7 (v := (S47.2 7 ((4 * ((16 * ((S.1 2) - 1)) + v1)) + v3))) X (by omega) rfl dX3_unweave_70 ?_
                refine gM_s1 X (hD _) (by omega) dX3_unweave_71 ?_
                refine gx_iinc X dX3_unweave_72 3 rfl (by decide) rfl ?_
                refine gx_goto (tgt := 47) X dX3_unweave_75 (by decide) ?_
                refine gx_sub [1, 2, 3, 0] rfl ?_
                exact ih (v3 + 1) (mA S47 1 ((4 * v1) + v3) (S47.2 7 ((4 * ((16 * ((S.1 2) - 1)) + v1)) + v3))) (by omega) (by omega) (hi47_2 ) (by omega) (fun z e hx => K47 z ((M_unweave_l47_s S v1 fu v3 S47).trans ((if_neg hc49).trans e)) hx)
          refine gx_sub [2, 3, 1, 0] rfl ?_
          refine L47 (5) 0 S27 (by omega) (by omega) rfl (by omega) (fun z47 e47 hx47 => ?_)
          refine gx_aload_n X dX3_unweave_78 rfl 0 rfl ?_
          refine gM_r2 X dX3_unweave_79 ?_
          refine gx_iload_n X dX3_unweave_82 rfl 1 rfl ?_
          refine gx_aload_n X dX3_unweave_83 rfl 0 rfl ?_
          refine gM_r8 X dX3_unweave_84 ?_
          refine gx_iload_n X dX3_unweave_87 rfl 2 rfl ?_
          refine gM_l8 (v := (z47.2 8 ((16 * ((S.1 2) - 1)) + v1))) X (by omega) rfl dX3_unweave_88 ?_
          refine gM_s2 X (hD _) (by omega) dX3_unweave_89 ?_
          refine gx_aload_n X dX3_unweave_90 rfl 0 rfl ?_
          refine gM_r4 X dX3_unweave_91 ?_
          refine gx_iload_n X dX3_unweave_94 rfl 1 rfl ?_
          refine gx_aload_n X dX3_unweave_95 rfl 0 rfl ?_
          refine gM_r9 X dX3_unweave_96 ?_
          refine gx_iload_n X dX3_unweave_99 rfl 2 rfl ?_
          refine gM_l9 (v := (z47.2 9 ((16 * ((S.1 2) - 1)) + v1))) X (by omega) rfl dX3_unweave_100 ?_
          refine gM_s4 X (hD _) (by omega) dX3_unweave_101 ?_
          refine gx_aload_n X dX3_unweave_102 rfl 0 rfl ?_
          refine gM_r5 X dX3_unweave_103 ?_
          refine gx_iload_n X dX3_unweave_106 rfl 1 rfl ?_
          refine gx_aload_n X dX3_unweave_107 rfl 0 rfl ?_
          refine gM_r10 X dX3_unweave_108 ?_
          refine gx_iload_n X dX3_unweave_111 rfl 2 rfl ?_
          refine gM_l10 (v := (z47.2 10 ((16 * ((S.1 2) - 1)) + v1))) X (by omega) rfl dX3_unweave_112 ?_
          refine gM_s5 X (hD _) (by omega) dX3_unweave_113 ?_
          refine gx_aload_n X dX3_unweave_114 rfl 0 rfl ?_
          refine gM_r6 X dX3_unweave_115 ?_
          refine gx_iload_n X dX3_unweave_118 rfl 1 rfl ?_
          refine gx_aload_n X dX3_unweave_119 rfl 0 rfl ?_
          refine gM_r11 X dX3_unweave_120 ?_
          refine gx_iload_n X dX3_unweave_123 rfl 2 rfl ?_
          refine gM_l11 (v := (z47.2 11 ((16 * ((S.1 2) - 1)) + v1))) X (by omega) rfl dX3_unweave_124 ?_
          refine gM_s6 X (hD _) (by omega) dX3_unweave_125 ?_
          refine gx_iinc X dX3_unweave_126 1 rfl (by decide) rfl ?_
          refine gx_goto (tgt := 27) X dX3_unweave_129 (by decide) ?_
          refine gx_sub [1, 0] rfl ?_
          subst e47
          exact ih _ _ (by omega) (by omega) (((hx47 )).trans (hi27_2 )) (by omega) (fun z e hx => K27 z ((M_unweave_l27_s S fu v1 S27).trans ((if_neg hc32).trans e)) hx)
    refine gx_sub [1, 0] rfl ?_
    refine L27 (17) 0 (mI S 2 ((S.1 2) - 1)) (by omega) (by omega) rfl (by omega) (fun z27 e27 hx27 => ?_)
    refine gx_aload_n X dX3_unweave_132 rfl 0 rfl ?_
    refine gM_g2 (v := ((S.1 2) - 1)) X (congrFun (hx27 ) 2) dX3_unweave_133 ?_
    exact gx_iret hR (congrArg Prod.fst ((show M_unweave S = (((S.1 2) - 1), z27) from (if_neg hc9).trans (congrArg (fun z27 => M_unweave_r27 S z27) e27)))) (ret2 (fun z => (wM K q z)) ((show M_unweave S = (((S.1 2) - 1), z27) from (if_neg hc9).trans (congrArg (fun z27 => M_unweave_r27 S z27) e27)))) dX3_unweave_136
  · refine gx_bipush (z := (-3)) X dX3_unweave_12 (by decide) ?_
    exact gx_iret hR (congrArg Prod.fst ((show M_unweave S = ((-3), S) from if_pos hc9))) (ret2 (fun z => (wM K q z)) ((show M_unweave S = ((-3), S) from if_pos hc9))) dX3_unweave_14
