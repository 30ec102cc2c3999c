def T_within (v : Int) (a : Int) (b : Int) : Int := if v < a then 0 else if b < v then 0 else 1
theorem T_within_01 (v : Int) (a : Int) (b : Int) : T_within v a b = 0 ∨ T_within v a b = 1 := by
  unfold T_within
  repeat (first | (exact Or.inl rfl) | (exact Or.inr rfl) | split)
theorem T_within_sp (v a b : Int) : (T_within v a b = 1 ∧ a ≤ v ∧ v ≤ b) ∨ (T_within v a b = 0 ∧ ¬ (a ≤ v ∧ v ≤ b)) := by
  unfold T_within
  repeat' split
  all_goals omega
set_option maxRecDepth 100000 in
theorem c_T_within {l : Launch} {K : KK} (v : Int) (a : Int) (b : Int) (hp0 : ok32 v) (hp1 : ok32 a) (hp2 : ok32 b) : CtI l yX2_within cX2_within 3 .boolean (0, 0) K [.int (iI v), .int (iI a), .int (iI b)] [] (T_within v a b) [] := by
  refine ctI_of (by decide) (Nat.le_of_ble_eq_true rfl) (narrow_bool (T_within_01 v a b)) ?_
  intro x X hD hR
  refine gx_iload_n X dX2_within_0 rfl 0 rfl ?_
  refine gx_iload_n X dX2_within_1 rfl 1 rfl ?_
  have J15 : ∀ (m15 : Int), m15 = (if v < a then 0 else if b < v then 0 else 1) → GG l (rmK (0, 0)) K x [] 15 [(0, .int (iI v)), (1, .int (iI a)), (2, .int (iI b))] [.int (iI m15)] := by
    intro m15 e_m15
    exact gx_iret hR (e_m15.symm) rfl dX2_within_15
  refine gx_icmp_lt (tgt := 14) X dX2_within_2 (by decide) (by omega) (fun hc2 => ?_) (fun hc2 => ?_)
  · refine gx_iconst (z := 0) X dX2_within_14 rfl ?_
    refine gx_sub [0, 1, 2] rfl ?_
    exact J15 0 ((if_pos hc2).symm) 
  · refine gx_iload_n X dX2_within_5 rfl 0 rfl ?_
    refine gx_iload_n X dX2_within_6 rfl 2 rfl ?_
    refine gx_icmp_gt (tgt := 14) X dX2_within_7 (by decide) (by omega) (fun hc7 => ?_) (fun hc7 => ?_)
    · refine gx_iconst (z := 0) X dX2_within_14 rfl ?_
      refine gx_sub [0, 1, 2] rfl ?_
      exact J15 0 (((if_neg hc2).trans (if_pos hc7)).symm) 
    · refine gx_iconst (z := 1) X dX2_within_10 rfl ?_
      refine gx_goto (tgt := 15) X dX2_within_11 (by decide) ?_
      refine gx_sub [0, 1, 2] rfl ?_
      exact J15 1 (((if_neg hc2).trans (if_neg hc7)).symm) 
def T_isThread (v : Int) : Int := (T_within v 0 3)
theorem T_isThread_01 (v : Int) : T_isThread v = 0 ∨ T_isThread v = 1 := T_within_01 v 0 3
theorem T_isThread_sp (v : Int) : (T_isThread v = 1 ∧ 0 ≤ v ∧ v ≤ 3) ∨ (T_isThread v = 0 ∧ ¬ (0 ≤ v ∧ v ≤ 3)) := T_within_sp v 0 3
set_option maxRecDepth 100000 in
theorem c_T_isThread {l : Launch} {K : KK} (v : Int) (hp0 : ok32 v) : CtI l yX2_isThread cX2_isThread 1 .boolean (1, 22) K [.int (iI v)] [] (T_isThread v) [] := by
  refine ctI_of (by decide) (Nat.le_of_ble_eq_true rfl) (narrow_bool (T_isThread_01 v)) ?_
  intro x X hD hR
  refine gx_iload_n X dX2_isThread_0 rfl 0 rfl ?_
  refine gx_iconst (z := 0) X dX2_isThread_1 rfl ?_
  refine gx_iconst (z := 3) X dX2_isThread_2 rfl ?_
  refine gx_callSI (As := [.int (iI v), .int (iI 0), .int (iI 3)]) (rest := []) X hD lk_T_31 (c_T_within v 0 3 (by omega) (by omega) (by omega)) jn_nil rfl ⟨by decide, by decide⟩ (Nat.le_of_ble_eq_true rfl) dX2_isThread_3 ?_
  have hq3_0 := T_within_sp v 0 3
  exact gx_iret hR (rfl) rfl dX2_isThread_6
def T_isPack (v : Int) : Int := (T_within v 0 3)
theorem T_isPack_01 (v : Int) : T_isPack v = 0 ∨ T_isPack v = 1 := T_within_01 v 0 3
theorem T_isPack_sp (v : Int) : (T_isPack v = 1 ∧ 0 ≤ v ∧ v ≤ 3) ∨ (T_isPack v = 0 ∧ ¬ (0 ≤ v ∧ v ≤ 3)) := T_within_sp v 0 3
set_option maxRecDepth 100000 in
theorem c_T_isPack {l : Launch} {K : KK} (v : Int) (hp0 : ok32 v) : CtI l yX2_isPack cX2_isPack 1 .boolean (1, 22) K [.int (iI v)] [] (T_isPack v) [] := by
  refine ctI_of (by decide) (Nat.le_of_ble_eq_true rfl) (narrow_bool (T_isPack_01 v)) ?_
  intro x X hD hR
  refine gx_iload_n X dX2_isPack_0 rfl 0 rfl ?_
  refine gx_iconst (z := 0) X dX2_isPack_1 rfl ?_
  refine gx_iconst (z := 3) X dX2_isPack_2 rfl ?_
  refine gx_callSI (As := [.int (iI v), .int (iI 0), .int (iI 3)]) (rest := []) X hD lk_T_31 (c_T_within v 0 3 (by omega) (by omega) (by omega)) jn_nil rfl ⟨by decide, by decide⟩ (Nat.le_of_ble_eq_true rfl) dX2_isPack_3 ?_
  have hq3_0 := T_within_sp v 0 3
  exact gx_iret hR (rfl) rfl dX2_isPack_6
def T_isColour (v : Int) : Int := (T_within v 0 7)
theorem T_isColour_01 (v : Int) : T_isColour v = 0 ∨ T_isColour v = 1 := T_within_01 v 0 7
theorem T_isColour_sp (v : Int) : (T_isColour v = 1 ∧ 0 ≤ v ∧ v ≤ 7) ∨ (T_isColour v = 0 ∧ ¬ (0 ≤ v ∧ v ≤ 7)) := T_within_sp v 0 7
set_option maxRecDepth 100000 in
theorem c_T_isColour {l : Launch} {K : KK} (v : Int) (hp0 : ok32 v) : CtI l yX2_isColour cX2_isColour 1 .boolean (1, 22) K [.int (iI v)] [] (T_isColour v) [] := by
  refine ctI_of (by decide) (Nat.le_of_ble_eq_true rfl) (narrow_bool (T_isColour_01 v)) ?_
  intro x X hD hR
  refine gx_iload_n X dX2_isColour_0 rfl 0 rfl ?_
  refine gx_iconst (z := 0) X dX2_isColour_1 rfl ?_
  refine gx_bipush (z := 7) X dX2_isColour_2 (by decide) ?_
  refine gx_callSI (As := [.int (iI v), .int (iI 0), .int (iI 7)]) (rest := []) X hD lk_T_31 (c_T_within v 0 7 (by omega) (by omega) (by omega)) jn_nil rfl ⟨by decide, by decide⟩ (Nat.le_of_ble_eq_true rfl) dX2_isColour_4 ?_
  have hq4_0 := T_within_sp v 0 7
  exact gx_iret hR (rfl) rfl dX2_isColour_7
def T_isTurn (v : Int) : Int := (T_within v 0 2)
theorem T_isTurn_01 (v : Int) : T_isTurn v = 0 ∨ T_isTurn v = 1 := T_within_01 v 0 2
theorem T_isTurn_sp (v : Int) : (T_isTurn v = 1 ∧ 0 ≤ v ∧ v ≤ 2) ∨ (T_isTurn v = 0 ∧ ¬ (0 ≤ v ∧ v ≤ 2)) := T_within_sp v 0 2
set_option maxRecDepth 100000 in
theorem c_T_isTurn {l : Launch} {K : KK} (v : Int) (hp0 : ok32 v) : CtI l yX2_isTurn cX2_isTurn 1 .boolean (1, 22) K [.int (iI v)] [] (T_isTurn v) [] := by
  refine ctI_of (by decide) (Nat.le_of_ble_eq_true rfl) (narrow_bool (T_isTurn_01 v)) ?_
  intro x X hD hR
  refine gx_iload_n X dX2_isTurn_0 rfl 0 rfl ?_
  refine gx_iconst (z := 0) X dX2_isTurn_1 rfl ?_
  refine gx_iconst (z := 2) X dX2_isTurn_2 rfl ?_
  refine gx_callSI (As := [.int (iI v), .int (iI 0), .int (iI 2)]) (rest := []) X hD lk_T_31 (c_T_within v 0 2 (by omega) (by omega) (by omega)) jn_nil rfl ⟨by decide, by decide⟩ (Nat.le_of_ble_eq_true rfl) dX2_isTurn_3 ?_
  have hq3_0 := T_within_sp v 0 2
  exact gx_iret hR (rfl) rfl dX2_isTurn_6
def T_isCard (S : TS) (c : Int) : Int := (T_within c 0 ((S.1 0) - 1))
theorem T_isCard_01 (S : TS) (c : Int) : T_isCard S c = 0 ∨ T_isCard S c = 1 := T_within_01 c 0 _
theorem T_isCard_sp (S : TS) (c : Int) : (T_isCard S c = 1 ∧ 0 ≤ c ∧ c < S.1 0) ∨ (T_isCard S c = 0 ∧ ¬ (0 ≤ c ∧ c < S.1 0)) := by
  have h := T_within_sp c 0 (S.1 0 - 1)
  unfold T_isCard
  omega
set_option maxRecDepth 100000 in
theorem c_T_isCard {l : Launch} {K : KK} {N : Int} (u r : Nat → Nat) (ca : Nat → Nat → Nat) (S : TS) (c : Int) (hI : InvTC N S) (hp1 : ok32 c) : CtI l yX2_isCard cX2_isCard 2 .boolean (1, 22) K [.ref (u 0), .int (iI c)] (wT K u r ca S) (T_isCard S c) (wT K u r ca S) := by
  refine ctI_of (by decide) (Nat.le_of_ble_eq_true rfl) (narrow_bool (T_isCard_01 S c)) ?_
  intro x X hD hR
  have hD : ∀ S9 : TS, va_D (cx_A x) (wT K u r ca S9) := fun S9 => va_D_same hD rfl
  have hs0 := InvTC_s0 hI
  have hs1 := InvTC_s1 hI
  have hs2 := InvTC_s2 hI
  have hs3 := InvTC_s3 hI
  refine gx_iload_n X dX2_isCard_0 rfl 1 rfl ?_
  refine gx_iconst (z := 0) X dX2_isCard_1 rfl ?_
  refine gx_aload_n X dX2_isCard_2 rfl 0 rfl ?_
  refine gT_g0 (v := (S.1 0)) X rfl dX2_isCard_3 ?_
  refine gx_iconst (z := 1) X dX2_isCard_6 rfl ?_
  refine gx_isub X dX2_isCard_7 ?_
  refine gx_callSI (As := [.int (iI c), .int (iI 0), .int (iI ((S.1 0) - 1))]) (rest := []) X (hD _) lk_T_31 (c_T_within c 0 ((S.1 0) - 1) (by omega) (by omega) (by omega)) jn_nil rfl ⟨by decide, by decide⟩ (Nat.le_of_ble_eq_true rfl) dX2_isCard_8 ?_
  have hq8_0 := T_within_sp c 0 ((S.1 0) - 1)
  exact gx_iret hR (rfl) rfl dX2_isCard_11
def T_isPick (S : TS) (c : Int) : Int := (T_within c 0 ((S.1 1) - 1))
theorem T_isPick_01 (S : TS) (c : Int) : T_isPick S c = 0 ∨ T_isPick S c = 1 := T_within_01 c 0 _
theorem T_isPick_sp (S : TS) (c : Int) : (T_isPick S c = 1 ∧ 0 ≤ c ∧ c < S.1 1) ∨ (T_isPick S c = 0 ∧ ¬ (0 ≤ c ∧ c < S.1 1)) := by
  have h := T_within_sp c 0 (S.1 1 - 1)
  unfold T_isPick
  omega
set_option maxRecDepth 100000 in
theorem c_T_isPick {l : Launch} {K : KK} {N : Int} (u r : Nat → Nat) (ca : Nat → Nat → Nat) (S : TS) (c : Int) (hI : InvTC N S) (hp1 : ok32 c) : CtI l yX2_isPick cX2_isPick 2 .boolean (1, 22) K [.ref (u 0), .int (iI c)] (wT K u r ca S) (T_isPick S c) (wT K u r ca S) := by
  refine ctI_of (by decide) (Nat.le_of_ble_eq_true rfl) (narrow_bool (T_isPick_01 S c)) ?_
  intro x X hD hR
  have hD : ∀ S9 : TS, va_D (cx_A x) (wT K u r ca S9) := fun S9 => va_D_same hD rfl
  have hs0 := InvTC_s0 hI
  have hs1 := InvTC_s1 hI
  have hs2 := InvTC_s2 hI
  have hs3 := InvTC_s3 hI
  refine gx_iload_n X dX2_isPick_0 rfl 1 rfl ?_
  refine gx_iconst (z := 0) X dX2_isPick_1 rfl ?_
  refine gx_aload_n X dX2_isPick_2 rfl 0 rfl ?_
  refine gT_g1 (v := (S.1 1)) X rfl dX2_isPick_3 ?_
  refine gx_iconst (z := 1) X dX2_isPick_6 rfl ?_
  refine gx_isub X dX2_isPick_7 ?_
  refine gx_callSI (As := [.int (iI c), .int (iI 0), .int (iI ((S.1 1) - 1))]) (rest := []) X (hD _) lk_T_31 (c_T_within c 0 ((S.1 1) - 1) (by omega) (by omega) (by omega)) jn_nil rfl ⟨by decide, by decide⟩ (Nat.le_of_ble_eq_true rfl) dX2_isPick_8 ?_
  have hq8_0 := T_within_sp c 0 ((S.1 1) - 1)
  exact gx_iret hR (rfl) rfl dX2_isPick_11
def T_turnOfBits (f : Int) (b : Int) (c : Int) : Int := if (zi_and (zi_shr f c) 1) = 1 then 0 else if (zi_and (zi_shr b c) 1) = 1 then 1 else 2
theorem T_turnOfBits_rg (f b c : Int) : 0 ≤ T_turnOfBits f b c ∧ T_turnOfBits f b c ≤ 2 := by
  unfold T_turnOfBits
  repeat' split
  all_goals omega
set_option maxRecDepth 100000 in
theorem c_T_turnOfBits {l : Launch} {K : KK} (f : Int) (b : Int) (c : Int) (hp0 : ok32 f) (hp1 : ok32 b) (hp2 : ok32 c) : CtI l yX2_turnOfBits cX2_turnOfBits 3 .int (0, 0) K [.int (iI f), .int (iI b), .int (iI c)] [] (T_turnOfBits f b c) [] := by
  refine ctI_of (by decide) (Nat.le_of_ble_eq_true rfl) rfl ?_
  intro x X hD hR
  refine gx_iload_n X dX2_turnOfBits_0 rfl 0 rfl ?_
  refine gx_iload_n X dX2_turnOfBits_1 rfl 2 rfl ?_
  refine gx_ishr X dX2_turnOfBits_2 ?_
  have ho2 := ok_shr f c
  refine gx_iconst (z := 1) X dX2_turnOfBits_3 rfl ?_
  refine gx_iand X dX2_turnOfBits_4 ?_
  have ho4 := ok_and (zi_shr f c) 1
  refine gx_iconst (z := 1) X dX2_turnOfBits_5 rfl ?_
  refine gx_icmp_ne (tgt := 11) X dX2_turnOfBits_6 (by decide) (by omega) (fun hc6 => ?_) (fun hc6 => ?_)
  · refine gx_iload_n X dX2_turnOfBits_11 rfl 1 rfl ?_
    refine gx_iload_n X dX2_turnOfBits_12 rfl 2 rfl ?_
    refine gx_ishr X dX2_turnOfBits_13 ?_
    have ho13 := ok_shr b c
    refine gx_iconst (z := 1) X dX2_turnOfBits_14 rfl ?_
    refine gx_iand X dX2_turnOfBits_15 ?_
    have ho15 := ok_and (zi_shr b c) 1
    refine gx_iconst (z := 1) X dX2_turnOfBits_16 rfl ?_
    have J25 : ∀ (m25 : Int), m25 = (if (zi_and (zi_shr b c) 1) = 1 then 1 else 2) → GG l (rmK (0, 0)) K x [] 25 [(0, .int (iI f)), (1, .int (iI b)), (2, .int (iI c))] [.int (iI m25)] := by
      intro m25 e_m25
      exact gx_iret hR ((if_neg hc6).trans (e_m25.symm)) rfl dX2_turnOfBits_25
    refine gx_icmp_ne (tgt := 24) X dX2_turnOfBits_17 (by decide) (by omega) (fun hc17 => ?_) (fun hc17 => ?_)
    · refine gx_iconst (z := 2) X dX2_turnOfBits_24 rfl ?_
      refine gx_sub [0, 1, 2] rfl ?_
      exact J25 2 ((if_neg hc17).symm) 
    · refine gx_iconst (z := 1) X dX2_turnOfBits_20 rfl ?_
      refine gx_goto (tgt := 25) X dX2_turnOfBits_21 (by decide) ?_
      refine gx_sub [0, 1, 2] rfl ?_
      exact J25 1 ((if_pos hc17).symm) 
  · refine gx_iconst (z := 0) X dX2_turnOfBits_9 rfl ?_
    exact gx_iret hR (if_pos hc6) rfl dX2_turnOfBits_10
def T_turnOfPack (p : Int) (a : Int) (b : Int) (c : Int) (d : Int) : Int := if p = 0 then a else if p = 1 then b else if p = 2 then c else d
theorem T_turnOfPack_sp (p a b c d : Int) : T_turnOfPack p a b c d = a ∨ T_turnOfPack p a b c d = b ∨ T_turnOfPack p a b c d = c ∨ T_turnOfPack p a b c d = d := by
  unfold T_turnOfPack
  repeat' split
  all_goals omega
set_option maxRecDepth 100000 in
theorem c_T_turnOfPack {l : Launch} {K : KK} (p : Int) (a : Int) (b : Int) (c : Int) (d : Int) (hp0 : ok32 p) (hp1 : ok32 a) (hp2 : ok32 b) (hp3 : ok32 c) (hp4 : ok32 d) : CtI l yX2_turnOfPack cX2_turnOfPack 5 .int (0, 0) K [.int (iI p), .int (iI a), .int (iI b), .int (iI c), .int (iI d)] [] (T_turnOfPack p a b c d) [] := by
  refine ctI_of (by decide) (Nat.le_of_ble_eq_true rfl) rfl ?_
  intro x X hD hR
  refine gx_iload_n X dX2_turnOfPack_0 rfl 0 rfl ?_
  have hsw1 : ok32 p := by omega
  by_cases hc1_0 : p = 0
  · refine gx_switchIn (tgt := 28) X dX2_turnOfPack_1 (k := 0) hc1_0 (by decide) (by decide) rfl (by decide) ?_
    refine gx_iload_n X dX2_turnOfPack_28 rfl 1 rfl ?_
    exact gx_iret hR (if_pos hc1_0) rfl dX2_turnOfPack_29
  by_cases hc1_1 : p = 1
  · refine gx_switchIn (tgt := 30) X dX2_turnOfPack_1 (k := 1) hc1_1 (by decide) (by decide) rfl (by decide) ?_
    refine gx_iload_n X dX2_turnOfPack_30 rfl 2 rfl ?_
    exact gx_iret hR ((if_neg hc1_0).trans (if_pos hc1_1)) rfl dX2_turnOfPack_31
  by_cases hc1_2 : p = 2
  · refine gx_switchIn (tgt := 32) X dX2_turnOfPack_1 (k := 2) hc1_2 (by decide) (by decide) rfl (by decide) ?_
    refine gx_iload_n X dX2_turnOfPack_32 rfl 3 rfl ?_
    exact gx_iret hR ((if_neg hc1_0).trans ((if_neg hc1_1).trans (if_pos hc1_2))) rfl dX2_turnOfPack_33
  refine gx_switchOut (tgt := 34) X dX2_turnOfPack_1 hsw1 (by omega) (by decide) ?_
  refine gx_iload X dX2_turnOfPack_34 4 rfl ?_
  exact gx_iret hR ((if_neg hc1_0).trans ((if_neg hc1_1).trans (if_neg hc1_2))) rfl dX2_turnOfPack_36
def T_wovenRows (S : TS) : Int := (J_min (S.1 2) (S.1 1))
theorem T_wovenRows_sp (S : TS) : T_wovenRows S ≤ S.1 1 ∧ T_wovenRows S ≤ S.1 2 ∧ (T_wovenRows S = S.1 1 ∨ T_wovenRows S = S.1 2) := by
  have h := J_min_sp (S.1 2) (S.1 1)
  unfold T_wovenRows
  omega
set_option maxRecDepth 100000 in
theorem c_T_wovenRows {l : Launch} {K : KK} {N : Int} (u r : Nat → Nat) (ca : Nat → Nat → Nat) (S : TS) (hI : InvTC N S) : CtI l yX2_wovenRows cX2_wovenRows 1 .int (1, 21) K [.ref (u 0)] (wT K u r ca S) (T_wovenRows S) (wT K u r ca S) := by
  refine ctI_of (by decide) (Nat.le_of_ble_eq_true rfl) rfl ?_
  intro x X hD hR
  have hD : ∀ S9 : TS, va_D (cx_A x) (wT K u r ca S9) := fun S9 => va_D_same hD rfl
  have hs0 := InvTC_s0 hI
  have hs1 := InvTC_s1 hI
  have hs2 := InvTC_s2 hI
  have hs3 := InvTC_s3 hI
  refine gx_aload_n X dX2_wovenRows_0 rfl 0 rfl ?_
  refine gT_g2 (v := (S.1 2)) X rfl dX2_wovenRows_1 ?_
  refine gx_aload_n X dX2_wovenRows_4 rfl 0 rfl ?_
  refine gT_g1 (v := (S.1 1)) X rfl dX2_wovenRows_5 ?_
  refine gx_callSI (As := [.int (iI (S.1 2)), .int (iI (S.1 1))]) (rest := []) X (hD _) lk_T_212 (c_J_min (S.1 2) (S.1 1) (by omega) (by omega)) jn_nil rfl ⟨by decide, by decide⟩ (Nat.le_of_ble_eq_true rfl) dX2_wovenRows_8 ?_
  have hq8_0 := J_min_sp (S.1 2) (S.1 1)
  exact gx_iret hR (rfl) rfl dX2_wovenRows_11
def T_about (S : TS) (c : Int) (w : Int) : Int := if (T_isCard S c) = 0 then (-1) else if w = 0 then ((S.2.2.2 c).1 0) else if w = 1 then ((S.2.2.2 c).1 1) else if w = 2 then (((S.2.2.2 c).1 2) + 100) else if w = 3 then (C_idleBehind (S.2.2.2 c) (S.1 1)) else if w = 4 then ((S.2.2.2 c).1 3) else (-2)
set_option maxRecDepth 100000 in
theorem c_T_about {l : Launch} {K : KK} {N : Int} (u r : Nat → Nat) (ca : Nat → Nat → Nat) (S : TS) (c : Int) (w : Int) (hI : InvTC N S) (hp1 : ok32 c) (hp2 : ok32 w) : CtI l yX2_about cX2_about 4 .int (2, 43) K [.ref (u 0), .int (iI c), .int (iI w)] (wT K u r ca S) (T_about S c w) (wT K u r ca S) := by
  refine ctI_of (by decide) (Nat.le_of_ble_eq_true rfl) rfl ?_
  intro x X hD hR
  have hD : ∀ S9 : TS, va_D (cx_A x) (wT K u r ca S9) := fun S9 => va_D_same hD rfl
  have hs0 := InvTC_s0 hI
  have hs1 := InvTC_s1 hI
  have hs2 := InvTC_s2 hI
  have hs3 := InvTC_s3 hI
  refine gx_aload_n X dX2_about_0 rfl 0 rfl ?_
  refine gx_iload_n X dX2_about_1 rfl 1 rfl ?_
  refine gx_callVI (As := [.int (iI c)]) (rest := []) X (hD _) lk_T_39 (ci := 2) rfl rfl 0 rfl (c_T_isCard u r ca S c hI (by omega)) jn_all rfl ⟨by decide, by decide⟩ (Nat.le_of_ble_eq_true rfl) dX2_about_2 ?_
  have hq2_0 := T_isCard_sp S c
  refine gx_if_ne (tgt := 10) X dX2_about_5 (by decide) (by omega) (fun hc5 => ?_) (fun hc5 => ?_)
  · refine gx_aload_n X dX2_about_10 rfl 0 rfl ?_
    refine gT_band X dX2_about_11 ?_
    refine gx_iload_n X dX2_about_14 rfl 1 rfl ?_
    refine gT_card X (by omega) dX2_about_15 ?_
    refine gx_astore_n X dX2_about_16 rfl (by decide) rfl ?_
    refine gx_iload_n X dX2_about_17 rfl 3 rfl ?_
    have hsw18 : ok32 w := by omega
    by_cases hc18_0 : w = 0
    · refine gx_switchIn (tgt := 52) X dX2_about_18 (k := 0) hc18_0 (by decide) (by decide) rfl (by decide) ?_
      refine gx_aload_n X dX2_about_52 rfl 0 rfl ?_
      refine gT_cg0 (v := ((S.2.2.2 c).1 0)) X (by omega) rfl dX2_about_53 ?_
      have hg53 := InvC_s0 (InvTC_c hI c)
      exact gx_iret hR ((if_neg hc5).trans (if_pos hc18_0)) rfl dX2_about_56
    by_cases hc18_1 : w = 1
    · refine gx_switchIn (tgt := 57) X dX2_about_18 (k := 1) hc18_1 (by decide) (by decide) rfl (by decide) ?_
      refine gx_aload_n X dX2_about_57 rfl 0 rfl ?_
      refine gT_cg1 (v := ((S.2.2.2 c).1 1)) X (by omega) rfl dX2_about_58 ?_
      have hg58 := InvC_s1 (InvTC_c hI c)
      exact gx_iret hR ((if_neg hc5).trans ((if_neg hc18_0).trans (if_pos hc18_1))) rfl dX2_about_61
    by_cases hc18_2 : w = 2
    · refine gx_switchIn (tgt := 62) X dX2_about_18 (k := 2) hc18_2 (by decide) (by decide) rfl (by decide) ?_
      refine gx_aload_n X dX2_about_62 rfl 0 rfl ?_
      refine gT_cg2 (v := ((S.2.2.2 c).1 2)) X (by omega) rfl dX2_about_63 ?_
      refine gx_bipush (z := 100) X dX2_about_66 (by decide) ?_
      refine gx_iadd X dX2_about_68 ?_
      exact gx_iret hR ((if_neg hc5).trans ((if_neg hc18_0).trans ((if_neg hc18_1).trans (if_pos hc18_2)))) rfl dX2_about_69
    by_cases hc18_3 : w = 3
    · refine gx_switchIn (tgt := 70) X dX2_about_18 (k := 3) hc18_3 (by decide) (by decide) rfl (by decide) ?_
      refine gx_aload_n X dX2_about_70 rfl 0 rfl ?_
      refine gx_aload_n X dX2_about_71 rfl 1 rfl ?_
      refine gT_g1 (v := (S.1 1)) X rfl dX2_about_72 ?_
      refine gx_callVI (As := [.int (iI (S.1 1))]) (rest := []) X (hD _) lk_T_77 (ci := 0) rfl rfl 0 rfl (c_C_idleBehind (ca c.toNat) (S.2.2.2 c) (S.1 1) (InvTC_c hI c) (by omega)) (jn_cdP K u r ca S (by omega) rfl (hD _)) rfl ⟨by decide, by decide⟩ (Nat.le_of_ble_eq_true rfl) dX2_about_75 ?_
      have hp75_0 := C_idleBehind_rg (S.2.2.2 c) (S.1 1) (InvTC_c hI c) (by omega)
      exact gx_iret hR ((if_neg hc5).trans ((if_neg hc18_0).trans ((if_neg hc18_1).trans ((if_neg hc18_2).trans (if_pos hc18_3))))) rfl dX2_about_78
    by_cases hc18_4 : w = 4
    · refine gx_switchIn (tgt := 79) X dX2_about_18 (k := 4) hc18_4 (by decide) (by decide) rfl (by decide) ?_
      refine gx_aload_n X dX2_about_79 rfl 0 rfl ?_
      refine gT_cg3 (v := ((S.2.2.2 c).1 3)) X (by omega) rfl dX2_about_80 ?_
      have hg80 := InvC_s3 (InvTC_c hI c)
      exact gx_iret hR ((if_neg hc5).trans ((if_neg hc18_0).trans ((if_neg hc18_1).trans ((if_neg hc18_2).trans ((if_neg hc18_3).trans (if_pos hc18_4)))))) rfl dX2_about_83
    refine gx_switchOut (tgt := 84) X dX2_about_18 hsw18 (by omega) (by decide) ?_
    refine gx_bipush (z := (-2)) X dX2_about_84 (by decide) ?_
    exact gx_iret hR ((if_neg hc5).trans ((if_neg hc18_0).trans ((if_neg hc18_1).trans ((if_neg hc18_2).trans ((if_neg hc18_3).trans (if_neg hc18_4)))))) rfl dX2_about_86
  · refine gx_iconst (z := (-1)) X dX2_about_8 rfl ?_
    exact gx_iret hR (if_pos hc5) rfl dX2_about_9
def T_at (S : TS) (c : Int) (p : Int) : Int := if (T_isCard S c) = 0 then (-1) else if (T_within p 0 3) = 0 then (-2) else ((S.2.2.2 c).2 0 p)
set_option maxRecDepth 100000 in
theorem c_T_at {l : Launch} {K : KK} {N : Int} (u r : Nat → Nat) (ca : Nat → Nat → Nat) (S : TS) (c : Int) (p : Int) (hI : InvTC N S) (hp1 : ok32 c) (hp2 : ok32 p) : CtI l yX2_at cX2_at 3 .int (2, 43) K [.ref (u 0), .int (iI c), .int (iI p)] (wT K u r ca S) (T_at S c p) (wT K u r ca S) := by
  refine ctI_of (by decide) (Nat.le_of_ble_eq_true rfl) rfl ?_
  intro x X hD hR
  have hD : ∀ S9 : TS, va_D (cx_A x) (wT K u r ca S9) := fun S9 => va_D_same hD rfl
  have hs0 := InvTC_s0 hI
  have hs1 := InvTC_s1 hI
  have hs2 := InvTC_s2 hI
  have hs3 := InvTC_s3 hI
  refine gx_aload_n X dX2_at_0 rfl 0 rfl ?_
  refine gx_iload_n X dX2_at_1 rfl 1 rfl ?_
  refine gx_callVI (As := [.int (iI c)]) (rest := []) X (hD _) lk_T_39 (ci := 2) rfl rfl 0 rfl (c_T_isCard u r ca S c hI (by omega)) jn_all rfl ⟨by decide, by decide⟩ (Nat.le_of_ble_eq_true rfl) dX2_at_2 ?_
  have hq2_0 := T_isCard_sp S c
  refine gx_if_ne (tgt := 10) X dX2_at_5 (by decide) (by omega) (fun hc5 => ?_) (fun hc5 => ?_)
  · refine gx_iload_n X dX2_at_10 rfl 2 rfl ?_
    refine gx_iconst (z := 0) X dX2_at_11 rfl ?_
    refine gx_iconst (z := 3) X dX2_at_12 rfl ?_
    refine gx_callSI (As := [.int (iI p), .int (iI 0), .int (iI 3)]) (rest := []) X (hD _) lk_T_31 (c_T_within p 0 3 (by omega) (by omega) (by omega)) jn_nil rfl ⟨by decide, by decide⟩ (Nat.le_of_ble_eq_true rfl) dX2_at_13 ?_
    have hq13_0 := T_within_sp p 0 3
    refine gx_if_ne (tgt := 22) X dX2_at_16 (by decide) (by omega) (fun hc16 => ?_) (fun hc16 => ?_)
    · refine gx_aload_n X dX2_at_22 rfl 0 rfl ?_
      refine gT_band X dX2_at_23 ?_
      refine gx_iload_n X dX2_at_26 rfl 1 rfl ?_
      refine gT_card X (by omega) dX2_at_27 ?_
      refine gT_cr0 X (by omega) dX2_at_28 ?_
      refine gx_iload_n X dX2_at_31 rfl 2 rfl ?_
      refine gT_cl0 (v := ((S.2.2.2 c).2 0 p)) X (by omega) (by omega) rfl dX2_at_32 ?_
      have hr32 := InvC_a0 (InvTC_c hI c) p
      exact gx_iret hR ((if_neg hc5).trans (if_neg hc16)) rfl dX2_at_33
    · refine gx_bipush (z := (-2)) X dX2_at_19 (by decide) ?_
      exact gx_iret hR ((if_neg hc5).trans (if_pos hc16)) rfl dX2_at_21
  · refine gx_iconst (z := (-1)) X dX2_at_8 rfl ?_
    exact gx_iret hR (if_pos hc5) rfl dX2_at_9
def T_turn (S : TS) (p : Int) (c : Int) : Int := if (T_isPick S p) = 0 then (-1) else if (T_isCard S c) = 0 then (-1) else ((S.2.2.2 c).2 2 p)
set_option maxRecDepth 100000 in
theorem c_T_turn {l : Launch} {K : KK} {N : Int} (u r : Nat → Nat) (ca : Nat → Nat → Nat) (S : TS) (p : Int) (c : Int) (hI : InvTC N S) (hp1 : ok32 p) (hp2 : ok32 c) : CtI l yX2_turn cX2_turn 3 .int (2, 43) K [.ref (u 0), .int (iI p), .int (iI c)] (wT K u r ca S) (T_turn S p c) (wT K u r ca S) := by
  refine ctI_of (by decide) (Nat.le_of_ble_eq_true rfl) rfl ?_
  intro x X hD hR
  have hD : ∀ S9 : TS, va_D (cx_A x) (wT K u r ca S9) := fun S9 => va_D_same hD rfl
  have hs0 := InvTC_s0 hI
  have hs1 := InvTC_s1 hI
  have hs2 := InvTC_s2 hI
  have hs3 := InvTC_s3 hI
  refine gx_aload_n X dX2_turn_0 rfl 0 rfl ?_
  refine gx_iload_n X dX2_turn_1 rfl 1 rfl ?_
  refine gx_callVI (As := [.int (iI p)]) (rest := []) X (hD _) lk_T_102 (ci := 2) rfl rfl 0 rfl (c_T_isPick u r ca S p hI (by omega)) jn_all rfl ⟨by decide, by decide⟩ (Nat.le_of_ble_eq_true rfl) dX2_turn_2 ?_
  have hq2_0 := T_isPick_sp S p
  refine gx_if_eq (tgt := 16) X dX2_turn_5 (by decide) (by omega) (fun hc5 => ?_) (fun hc5 => ?_)
  · refine gx_iconst (z := (-1)) X dX2_turn_16 rfl ?_
    exact gx_iret hR (if_pos hc5) rfl dX2_turn_17
  · refine gx_aload_n X dX2_turn_8 rfl 0 rfl ?_
    refine gx_iload_n X dX2_turn_9 rfl 2 rfl ?_
    refine gx_callVI (As := [.int (iI c)]) (rest := []) X (hD _) lk_T_39 (ci := 2) rfl rfl 0 rfl (c_T_isCard u r ca S c hI (by omega)) jn_all rfl ⟨by decide, by decide⟩ (Nat.le_of_ble_eq_true rfl) dX2_turn_10 ?_
    have hq10_0 := T_isCard_sp S c
    refine gx_if_ne (tgt := 18) X dX2_turn_13 (by decide) (by omega) (fun hc13 => ?_) (fun hc13 => ?_)
    · refine gx_aload_n X dX2_turn_18 rfl 0 rfl ?_
      refine gT_band X dX2_turn_19 ?_
      refine gx_iload_n X dX2_turn_22 rfl 2 rfl ?_
      refine gT_card X (by omega) dX2_turn_23 ?_
      refine gT_cr2 X (by omega) dX2_turn_24 ?_
      refine gx_iload_n X dX2_turn_27 rfl 1 rfl ?_
      refine gT_cl2 (v := ((S.2.2.2 c).2 2 p)) X (by omega) (by omega) rfl dX2_turn_28 ?_
      have hr28 := InvC_a2 (InvTC_c hI c) p
      exact gx_iret hR ((if_neg hc5).trans (if_neg hc13)) rfl dX2_turn_29
    · refine gx_iconst (z := (-1)) X dX2_turn_16 rfl ?_
      exact gx_iret hR ((if_neg hc5).trans (if_pos hc13)) rfl dX2_turn_17
def T_shows (S : TS) (p : Int) (c : Int) (b : Int) : Int := if (T_isPick S p) = 0 then (-1) else if (T_isCard S c) = 0 then (-1) else (C_colourOn (S.2.2.2 c) p b)
set_option maxRecDepth 100000 in
theorem c_T_shows {l : Launch} {K : KK} {N : Int} (u r : Nat → Nat) (ca : Nat → Nat → Nat) (S : TS) (p : Int) (c : Int) (b : Int) (hI : InvTC N S) (hp1 : ok32 p) (hp2 : ok32 c) (hp3 : ok32 b) : CtI l yX2_shows cX2_shows 4 .int (2, 44) K [.ref (u 0), .int (iI p), .int (iI c), .int (iI b)] (wT K u r ca S) (T_shows S p c b) (wT K u r ca S) := by
  refine ctI_of (by decide) (Nat.le_of_ble_eq_true rfl) rfl ?_
  intro x X hD hR
  have hD : ∀ S9 : TS, va_D (cx_A x) (wT K u r ca S9) := fun S9 => va_D_same hD rfl
  have hs0 := InvTC_s0 hI
  have hs1 := InvTC_s1 hI
  have hs2 := InvTC_s2 hI
  have hs3 := InvTC_s3 hI
  refine gx_aload_n X dX2_shows_0 rfl 0 rfl ?_
  refine gx_iload_n X dX2_shows_1 rfl 1 rfl ?_
  refine gx_callVI (As := [.int (iI p)]) (rest := []) X (hD _) lk_T_102 (ci := 2) rfl rfl 0 rfl (c_T_isPick u r ca S p hI (by omega)) jn_all rfl ⟨by decide, by decide⟩ (Nat.le_of_ble_eq_true rfl) dX2_shows_2 ?_
  have hq2_0 := T_isPick_sp S p
  refine gx_if_eq (tgt := 16) X dX2_shows_5 (by decide) (by omega) (fun hc5 => ?_) (fun hc5 => ?_)
  · refine gx_iconst (z := (-1)) X dX2_shows_16 rfl ?_
    exact gx_iret hR (if_pos hc5) rfl dX2_shows_17
  · refine gx_aload_n X dX2_shows_8 rfl 0 rfl ?_
    refine gx_iload_n X dX2_shows_9 rfl 2 rfl ?_
    refine gx_callVI (As := [.int (iI c)]) (rest := []) X (hD _) lk_T_39 (ci := 2) rfl rfl 0 rfl (c_T_isCard u r ca S c hI (by omega)) jn_all rfl ⟨by decide, by decide⟩ (Nat.le_of_ble_eq_true rfl) dX2_shows_10 ?_
    have hq10_0 := T_isCard_sp S c
    refine gx_if_ne (tgt := 18) X dX2_shows_13 (by decide) (by omega) (fun hc13 => ?_) (fun hc13 => ?_)
    · refine gx_aload_n X dX2_shows_18 rfl 0 rfl ?_
      refine gT_band X dX2_shows_19 ?_
      refine gx_iload_n X dX2_shows_22 rfl 2 rfl ?_
      refine gT_card X (by omega) dX2_shows_23 ?_
      refine gx_iload_n X dX2_shows_24 rfl 1 rfl ?_
      refine gx_iload_n X dX2_shows_25 rfl 3 rfl ?_
      refine gx_callVI (As := [.int (iI p), .int (iI b)]) (rest := []) X (hD _) lk_T_108 (ci := 0) rfl rfl 0 rfl (c_C_colourOn (ca c.toNat) (S.2.2.2 c) p b (InvTC_c hI c) (by omega) (by omega)) (jn_cdP K u r ca S (by omega) rfl (hD _)) rfl ⟨by decide, by decide⟩ (Nat.le_of_ble_eq_true rfl) dX2_shows_26 ?_
      have hp26_0 := C_colourOn_rg (S.2.2.2 c) p b (InvTC_c hI c) (by omega) (by omega)
      exact gx_iret hR ((if_neg hc5).trans (if_neg hc13)) rfl dX2_shows_29
    · refine gx_iconst (z := (-1)) X dX2_shows_16 rfl ?_
      exact gx_iret hR ((if_neg hc5).trans (if_pos hc13)) rfl dX2_shows_17
def T_shown (S : TS) (p : Int) (c : Int) (b : Int) : Int := if (T_isPick S p) = 0 then (-1) else if (T_isCard S c) = 0 then (-1) else (C_threadOn (S.2.2.2 c) p b)
set_option maxRecDepth 100000 in
theorem c_T_shown {l : Launch} {K : KK} {N : Int} (u r : Nat → Nat) (ca : Nat → Nat → Nat) (S : TS) (p : Int) (c : Int) (b : Int) (hI : InvTC N S) (hp1 : ok32 p) (hp2 : ok32 c) (hp3 : ok32 b) : CtI l yX2_shown cX2_shown 4 .int (2, 43) K [.ref (u 0), .int (iI p), .int (iI c), .int (iI b)] (wT K u r ca S) (T_shown S p c b) (wT K u r ca S) := by
  refine ctI_of (by decide) (Nat.le_of_ble_eq_true rfl) rfl ?_
  intro x X hD hR
  have hD : ∀ S9 : TS, va_D (cx_A x) (wT K u r ca S9) := fun S9 => va_D_same hD rfl
  have hs0 := InvTC_s0 hI
  have hs1 := InvTC_s1 hI
  have hs2 := InvTC_s2 hI
  have hs3 := InvTC_s3 hI
  refine gx_aload_n X dX2_shown_0 rfl 0 rfl ?_
  refine gx_iload_n X dX2_shown_1 rfl 1 rfl ?_
  refine gx_callVI (As := [.int (iI p)]) (rest := []) X (hD _) lk_T_102 (ci := 2) rfl rfl 0 rfl (c_T_isPick u r ca S p hI (by omega)) jn_all rfl ⟨by decide, by decide⟩ (Nat.le_of_ble_eq_true rfl) dX2_shown_2 ?_
  have hq2_0 := T_isPick_sp S p
  refine gx_if_eq (tgt := 16) X dX2_shown_5 (by decide) (by omega) (fun hc5 => ?_) (fun hc5 => ?_)
  · refine gx_iconst (z := (-1)) X dX2_shown_16 rfl ?_
    exact gx_iret hR (if_pos hc5) rfl dX2_shown_17
  · refine gx_aload_n X dX2_shown_8 rfl 0 rfl ?_
    refine gx_iload_n X dX2_shown_9 rfl 2 rfl ?_
    refine gx_callVI (As := [.int (iI c)]) (rest := []) X (hD _) lk_T_39 (ci := 2) rfl rfl 0 rfl (c_T_isCard u r ca S c hI (by omega)) jn_all rfl ⟨by decide, by decide⟩ (Nat.le_of_ble_eq_true rfl) dX2_shown_10 ?_
    have hq10_0 := T_isCard_sp S c
    refine gx_if_ne (tgt := 18) X dX2_shown_13 (by decide) (by omega) (fun hc13 => ?_) (fun hc13 => ?_)
    · refine gx_aload_n X dX2_shown_18 rfl 0 rfl ?_
      refine gT_band X dX2_shown_19 ?_
      refine gx_iload_n X dX2_shown_22 rfl 2 rfl ?_
      refine gT_card X (by omega) dX2_shown_23 ?_
      refine gx_iload_n X dX2_shown_24 rfl 1 rfl ?_
      refine gx_iload_n X dX2_shown_25 rfl 3 rfl ?_
      refine gx_callVI (As := [.int (iI p), .int (iI b)]) (rest := []) X (hD _) lk_T_112 (ci := 0) rfl rfl 0 rfl (c_C_threadOn (ca c.toNat) (S.2.2.2 c) p b (InvTC_c hI c) (by omega) (by omega)) (jn_cdP K u r ca S (by omega) rfl (hD _)) rfl ⟨by decide, by decide⟩ (Nat.le_of_ble_eq_true rfl) dX2_shown_26 ?_
      have hp26_0 := C_threadOn_rg (S.2.2.2 c) p b (InvTC_c hI c) (by omega) (by omega)
      exact gx_iret hR ((if_neg hc5).trans (if_neg hc13)) rfl dX2_shown_29
    · refine gx_iconst (z := (-1)) X dX2_shown_16 rfl ?_
      exact gx_iret hR ((if_neg hc5).trans (if_pos hc13)) rfl dX2_shown_17
def T_slant (S : TS) (p : Int) (c : Int) : Int := if (T_isPick S p) = 0 then (-1) else if (T_isCard S c) = 0 then (-1) else ((S.2.2.2 c).2 4 p)
set_option maxRecDepth 100000 in
theorem c_T_slant {l : Launch} {K : KK} {N : Int} (u r : Nat → Nat) (ca : Nat → Nat → Nat) (S : TS) (p : Int) (c : Int) (hI : InvTC N S) (hp1 : ok32 p) (hp2 : ok32 c) : CtI l yX2_slant cX2_slant 3 .int (2, 43) K [.ref (u 0), .int (iI p), .int (iI c)] (wT K u r ca S) (T_slant S p c) (wT K u r ca S) := by
  refine ctI_of (by decide) (Nat.le_of_ble_eq_true rfl) rfl ?_
  intro x X hD hR
  have hD : ∀ S9 : TS, va_D (cx_A x) (wT K u r ca S9) := fun S9 => va_D_same hD rfl
  have hs0 := InvTC_s0 hI
  have hs1 := InvTC_s1 hI
  have hs2 := InvTC_s2 hI
  have hs3 := InvTC_s3 hI
  refine gx_aload_n X dX2_slant_0 rfl 0 rfl ?_
  refine gx_iload_n X dX2_slant_1 rfl 1 rfl ?_
  refine gx_callVI (As := [.int (iI p)]) (rest := []) X (hD _) lk_T_102 (ci := 2) rfl rfl 0 rfl (c_T_isPick u r ca S p hI (by omega)) jn_all rfl ⟨by decide, by decide⟩ (Nat.le_of_ble_eq_true rfl) dX2_slant_2 ?_
  have hq2_0 := T_isPick_sp S p
  refine gx_if_eq (tgt := 16) X dX2_slant_5 (by decide) (by omega) (fun hc5 => ?_) (fun hc5 => ?_)
  · refine gx_iconst (z := (-1)) X dX2_slant_16 rfl ?_
    exact gx_iret hR (if_pos hc5) rfl dX2_slant_17
  · refine gx_aload_n X dX2_slant_8 rfl 0 rfl ?_
    refine gx_iload_n X dX2_slant_9 rfl 2 rfl ?_
    refine gx_callVI (As := [.int (iI c)]) (rest := []) X (hD _) lk_T_39 (ci := 2) rfl rfl 0 rfl (c_T_isCard u r ca S c hI (by omega)) jn_all rfl ⟨by decide, by decide⟩ (Nat.le_of_ble_eq_true rfl) dX2_slant_10 ?_
    have hq10_0 := T_isCard_sp S c
    refine gx_if_ne (tgt := 18) X dX2_slant_13 (by decide) (by omega) (fun hc13 => ?_) (fun hc13 => ?_)
    · refine gx_aload_n X dX2_slant_18 rfl 0 rfl ?_
      refine gT_band X dX2_slant_19 ?_
      refine gx_iload_n X dX2_slant_22 rfl 2 rfl ?_
      refine gT_card X (by omega) dX2_slant_23 ?_
      refine gT_cr4 X (by omega) dX2_slant_24 ?_
      refine gx_iload_n X dX2_slant_27 rfl 1 rfl ?_
      refine gT_cl4 (v := ((S.2.2.2 c).2 4 p)) X (by omega) (by omega) rfl dX2_slant_28 ?_
      have hr28 := InvC_a4 (InvTC_c hI c) p
      exact gx_iret hR ((if_neg hc5).trans (if_neg hc13)) rfl dX2_slant_29
    · refine gx_iconst (z := (-1)) X dX2_slant_16 rfl ?_
      exact gx_iret hR ((if_neg hc5).trans (if_pos hc13)) rfl dX2_slant_17
def T_longest (S : TS) (c : Int) : Int := if (T_isCard S c) = 0 then (-1) else (C_longestFloat (S.2.2.2 c) (S.1 1))
set_option maxRecDepth 100000 in
theorem c_T_longest {l : Launch} {K : KK} {N : Int} (u r : Nat → Nat) (ca : Nat → Nat → Nat) (S : TS) (c : Int) (hI : InvTC N S) (hp1 : ok32 c) : CtI l yX2_longest cX2_longest 2 .int (2, 45) K [.ref (u 0), .int (iI c)] (wT K u r ca S) (T_longest S c) (wT K u r ca S) := by
  refine ctI_of (by decide) (Nat.le_of_ble_eq_true rfl) rfl ?_
  intro x X hD hR
  have hD : ∀ S9 : TS, va_D (cx_A x) (wT K u r ca S9) := fun S9 => va_D_same hD rfl
  have hs0 := InvTC_s0 hI
  have hs1 := InvTC_s1 hI
  have hs2 := InvTC_s2 hI
  have hs3 := InvTC_s3 hI
  refine gx_aload_n X dX2_longest_0 rfl 0 rfl ?_
  refine gx_iload_n X dX2_longest_1 rfl 1 rfl ?_
  refine gx_callVI (As := [.int (iI c)]) (rest := []) X (hD _) lk_T_39 (ci := 2) rfl rfl 0 rfl (c_T_isCard u r ca S c hI (by omega)) jn_all rfl ⟨by decide, by decide⟩ (Nat.le_of_ble_eq_true rfl) dX2_longest_2 ?_
  have hq2_0 := T_isCard_sp S c
  refine gx_if_ne (tgt := 10) X dX2_longest_5 (by decide) (by omega) (fun hc5 => ?_) (fun hc5 => ?_)
  · refine gx_aload_n X dX2_longest_10 rfl 0 rfl ?_
    refine gT_band X dX2_longest_11 ?_
    refine gx_iload_n X dX2_longest_14 rfl 1 rfl ?_
    refine gT_card X (by omega) dX2_longest_15 ?_
    refine gx_aload_n X dX2_longest_16 rfl 0 rfl ?_
    refine gT_g1 (v := (S.1 1)) X rfl dX2_longest_17 ?_
    refine gx_callVI (As := [.int (iI (S.1 1))]) (rest := []) X (hD _) lk_T_118 (ci := 0) rfl rfl 0 rfl (c_C_longestFloat (ca c.toNat) (S.2.2.2 c) (S.1 1) (InvTC_c hI c) (by omega)) (jn_cdP K u r ca S (by omega) rfl (hD _)) rfl ⟨by decide, by decide⟩ (Nat.le_of_ble_eq_true rfl) dX2_longest_20 ?_
    exact gx_iret hR (if_neg hc5) rfl dX2_longest_23
  · refine gx_iconst (z := (-1)) X dX2_longest_8 rfl ?_
    exact gx_iret hR (if_pos hc5) rfl dX2_longest_9
def T_many_l25 (S : TS) (p : Int) (v : Int) : Nat → Int → Int → Int
  | 0, v3, v4 => v3
  | fu + 1, v3, v4 => if (S.1 0) ≤ v4 then v3 else (fun (m53 : Int) => T_many_l25 S p v fu m53 (v4 + 1)) (if (C_colourOn (S.2.2.2 v4) p 0) = v then (v3 + 1) else v3)
theorem T_many_l25_s (S : TS) (p : Int) (v : Int) (fu : Nat) (v3 : Int) (v4 : Int) : T_many_l25 S p v (fu + 1) v3 v4 = (if (S.1 0) ≤ v4 then v3 else (fun (m53 : Int) => T_many_l25 S p v fu m53 (v4 + 1)) (if (C_colourOn (S.2.2.2 v4) p 0) = v then (v3 + 1) else v3)) := rfl
def T_many (S : TS) (p : Int) (v : Int) : Int := if (T_isPick S p) = 0 then (-1) else if (T_isColour v) = 0 then (-2) else (T_many_l25 S p v (17) 0 0)
set_option maxRecDepth 100000 in
theorem c_T_many {l : Launch} {K : KK} {N : Int} (u r : Nat → Nat) (ca : Nat → Nat → Nat) (S : TS) (p : Int) (v : Int) (hI : InvTC N S) (hp1 : ok32 p) (hp2 : ok32 v) : CtI l yX2_many cX2_many 5 .int (2, 44) K [.ref (u 0), .int (iI p), .int (iI v)] (wT K u r ca S) (T_many S p v) (wT K u r ca S) := by
  refine ctI_of (by decide) (Nat.le_of_ble_eq_true rfl) rfl ?_
  intro x X hD hR
  have hD : ∀ S9 : TS, va_D (cx_A x) (wT K u r ca S9) := fun S9 => va_D_same hD rfl
  have hs0 := InvTC_s0 hI
  have hs1 := InvTC_s1 hI
  have hs2 := InvTC_s2 hI
  have hs3 := InvTC_s3 hI
  refine gx_aload_n X dX2_many_0 rfl 0 rfl ?_
  refine gx_iload_n X dX2_many_1 rfl 1 rfl ?_
  refine gx_callVI (As := [.int (iI p)]) (rest := []) X (hD _) lk_T_102 (ci := 2) rfl rfl 0 rfl (c_T_isPick u r ca S p hI (by omega)) jn_all rfl ⟨by decide, by decide⟩ (Nat.le_of_ble_eq_true rfl) dX2_many_2 ?_
  have hq2_0 := T_isPick_sp S p
  refine gx_if_ne (tgt := 10) X dX2_many_5 (by decide) (by omega) (fun hc5 => ?_) (fun hc5 => ?_)
  · refine gx_iload_n X dX2_many_10 rfl 2 rfl ?_
    refine gx_callSI (As := [.int (iI v)]) (rest := []) X (hD _) lk_T_46 (c_T_isColour v (by omega)) jn_nil rfl ⟨by decide, by decide⟩ (Nat.le_of_ble_eq_true rfl) dX2_many_11 ?_
    have hq11_0 := T_isColour_sp v
    refine gx_if_ne (tgt := 20) X dX2_many_14 (by decide) (by omega) (fun hc14 => ?_) (fun hc14 => ?_)
    · refine gx_iconst (z := 0) X dX2_many_20 rfl ?_
      refine gx_istore_n X dX2_many_21 rfl (by decide) rfl ?_
      refine gx_iconst (z := 0) X dX2_many_22 rfl ?_
      refine gx_istore X dX2_many_23 (by decide) rfl ?_
      have L25 : ∀ (fu : Nat) (v3 : Int) (v4 : Int), (0 ≤ v4) → (v4 ≤ (S.1 0)) → ((S.1 0) - v4) < (fu : Int) → (∀ z25 : Int, T_many_l25 S p v fu v3 v4 = z25 → True → GG l (rmK (2, 44)) K x (wT K u r ca S) 59 [(0, .ref (u 0)), (1, .int (iI p)), (2, .int (iI v)), (3, .int (iI z25))] []) → GG l (rmK (2, 44)) K x (wT K u r ca S) 25 [(0, .ref (u 0)), (1, .int (iI p)), (2, .int (iI v)), (3, .int (iI v3)), (4, .int (iI v4))] [] := by
        intro fu
        induction fu with
        | zero => intro v3 v4 hi25_0 hi25_1 hm25 K25; exact absurd hm25 (by omega)
        | succ fu ih =>
          intro v3 v4 hi25_0 hi25_1 hm25 K25
          refine gx_iload X dX2_many_25 4 rfl ?_
          refine gx_aload_n X dX2_many_27 rfl 0 rfl ?_
          refine gT_g0 (v := (S.1 0)) X rfl dX2_many_28 ?_
          refine gx_icmp_ge (tgt := 59) X dX2_many_31 (by decide) (by omega) (fun hc31 => ?_) (fun hc31 => ?_)
          · refine gx_sub [0, 1, 2, 3] rfl ?_
            exact K25 v3 ((T_many_l25_s S p v fu v3 v4).trans (if_pos hc31)) trivial
          · refine gx_aload_n X dX2_many_34 rfl 0 rfl ?_
            refine gT_band X dX2_many_35 ?_
            refine gx_iload X dX2_many_38 4 rfl ?_
            refine gT_card X (by omega) dX2_many_40 ?_
            refine gx_iload_n X dX2_many_41 rfl 1 rfl ?_
            refine gx_iconst (z := 0) X dX2_many_42 rfl ?_
            refine gx_callVI (As := [.int (iI p), .int (iI 0)]) (rest := []) X (hD _) lk_T_108 (ci := 0) rfl rfl 0 rfl (c_C_colourOn (ca v4.toNat) (S.2.2.2 v4) p 0 (InvTC_c hI v4) (by omega) (by omega)) (jn_cdP K u r ca S (by omega) rfl (hD _)) rfl ⟨by decide, by decide⟩ (Nat.le_of_ble_eq_true rfl) dX2_many_43 ?_
            have hp43_0 := C_colourOn_rg (S.2.2.2 v4) p 0 (InvTC_c hI v4) (by omega) (by omega)
            refine gx_iload_n X dX2_many_46 rfl 2 rfl ?_
            have J53 : ∀ (m53 : Int), m53 = (if (C_colourOn (S.2.2.2 v4) p 0) = v then (v3 + 1) else v3) → GG l (rmK (2, 44)) K x (wT K u r ca S) 53 [(0, .ref (u 0)), (1, .int (iI p)), (2, .int (iI v)), (3, .int (iI m53)), (4, .int (iI v4))] [] := by
              intro m53 e_m53
              refine gx_iinc X dX2_many_53 4 rfl (by decide) rfl ?_
              refine gx_goto (tgt := 25) X dX2_many_56 (by decide) ?_
              refine gx_sub [1, 2, 3, 4, 0] rfl ?_
              subst e_m53
              exact ih _ _ (by omega) (by omega) (by omega) (fun z e hx => K25 z ((T_many_l25_s S p v fu v3 v4).trans ((if_neg hc31).trans e)) hx)
            refine gx_icmp_ne (tgt := 53) X dX2_many_47 (by decide) (by omega) (fun hc47 => ?_) (fun hc47 => ?_)
            · refine gx_sub [0, 1, 2, 3, 4] rfl ?_
              exact J53 v3 ((if_neg hc47).symm) 
            · refine gx_iinc X dX2_many_50 3 rfl (by decide) rfl ?_
              refine gx_sub [1, 2, 3, 0, 4] rfl ?_
              exact J53 (v3 + 1) ((if_pos hc47).symm) 
      refine gx_sub [2, 3, 4, 1, 0] rfl ?_
      refine L25 (17) 0 0 (by omega) (by omega) (by omega) (fun z25 e25 hx25 => ?_)
      refine gx_iload_n X dX2_many_59 rfl 3 rfl ?_
      exact gx_iret hR ((if_neg hc5).trans ((if_neg hc14).trans (e25))) rfl dX2_many_60
    · refine gx_bipush (z := (-2)) X dX2_many_17 (by decide) ?_
      exact gx_iret hR ((if_neg hc5).trans (if_pos hc14)) rfl dX2_many_19
  · refine gx_iconst (z := (-1)) X dX2_many_8 rfl ?_
    exact gx_iret hR (if_pos hc5) rfl dX2_many_9
def T_likeRows_l2 (S : TS) (p : Int) (q : Int) : Nat → Int → (Int) ⊕ (Unit)
  | 0, v3 => .inr ()
  | fu + 1, v3 => if (S.1 0) ≤ v3 then .inr () else if (C_colourOn (S.2.2.2 v3) p 0) = (C_colourOn (S.2.2.2 v3) q 0) then T_likeRows_l2 S p q fu (v3 + 1) else .inl 0
theorem T_likeRows_l2_s (S : TS) (p : Int) (q : Int) (fu : Nat) (v3 : Int) : T_likeRows_l2 S p q (fu + 1) v3 = (if (S.1 0) ≤ v3 then .inr () else if (C_colourOn (S.2.2.2 v3) p 0) = (C_colourOn (S.2.2.2 v3) q 0) then T_likeRows_l2 S p q fu (v3 + 1) else .inl 0) := rfl
def T_likeRows_r2  : Int := 1
def T_likeRows (S : TS) (p : Int) (q : Int) : Int := Sum.elim id (fun z2 => T_likeRows_r2 ) (T_likeRows_l2 S p q (17) 0)
theorem T_likeRows_l2_rg (S : TS) (p q : Int) : ∀ (n : Nat) (w : Int), T_likeRows_l2 S p q n w = .inl 0 ∨ T_likeRows_l2 S p q n w = .inr () := by
  intro n
  induction n with
  | zero => intro w; exact Or.inr rfl
  | succ n ih =>
    intro w
    rw [T_likeRows_l2_s]
    repeat' split
    all_goals first | exact Or.inr rfl | exact Or.inl rfl | exact ih _
theorem T_likeRows_01 (S : TS) (p q : Int) : T_likeRows S p q = 0 ∨ T_likeRows S p q = 1 := by
  rcases T_likeRows_l2_rg S p q 17 0 with h | h
  · exact Or.inl (congrArg (Sum.elim id _) h)
  · exact Or.inr (congrArg (Sum.elim id _) h)
set_option maxRecDepth 100000 in
theorem c_T_likeRows {l : Launch} {K : KK} {N : Int} (u r : Nat → Nat) (ca : Nat → Nat → Nat) (S : TS) (p : Int) (q : Int) (hI : InvTC N S) (hp1 : 0 ≤ p ∧ p < 60) (hp2 : 0 ≤ q ∧ q < 60) : CtI l yX2_likeRows cX2_likeRows 4 .boolean (2, 44) K [.ref (u 0), .int (iI p), .int (iI q)] (wT K u r ca S) (T_likeRows S p q) (wT K u r ca S) := by
  refine ctI_of (by decide) (Nat.le_of_ble_eq_true rfl) (narrow_bool (T_likeRows_01 S p q)) ?_
  intro x X hD hR
  have hD : ∀ S9 : TS, va_D (cx_A x) (wT K u r ca S9) := fun S9 => va_D_same hD rfl
  have hs0 := InvTC_s0 hI
  have hs1 := InvTC_s1 hI
  have hs2 := InvTC_s2 hI
  have hs3 := InvTC_s3 hI
  refine gx_iconst (z := 0) X dX2_likeRows_0 rfl ?_
  refine gx_istore_n X dX2_likeRows_1 rfl (by decide) rfl ?_
  have L2 : ∀ (fu : Nat) (v3 : Int), (0 ≤ v3) → (v3 ≤ (S.1 0)) → ((S.1 0) - v3) < (fu : Int) → (∀ z2 : Unit, T_likeRows_l2 S p q fu v3 = .inr z2 → True → GG l (rmK (2, 44)) K x (wT K u r ca S) 43 [(0, .ref (u 0)), (1, .int (iI p)), (2, .int (iI q))] []) → (∀ zz : Int, T_likeRows_l2 S p q fu v3 = .inl zz → T_likeRows S p q = zz) → GG l (rmK (2, 44)) K x (wT K u r ca S) 2 [(0, .ref (u 0)), (1, .int (iI p)), (2, .int (iI q)), (3, .int (iI v3))] [] := by
    intro fu
    induction fu with
    | zero => intro v3 hi2_0 hi2_1 hm2 K2 KR2; exact absurd hm2 (by omega)
    | succ fu ih =>
      intro v3 hi2_0 hi2_1 hm2 K2 KR2
      refine gx_iload_n X dX2_likeRows_2 rfl 3 rfl ?_
      refine gx_aload_n X dX2_likeRows_3 rfl 0 rfl ?_
      refine gT_g0 (v := (S.1 0)) X rfl dX2_likeRows_4 ?_
      refine gx_icmp_ge (tgt := 43) X dX2_likeRows_7 (by decide) (by omega) (fun hc7 => ?_) (fun hc7 => ?_)
      · refine gx_sub [0, 1, 2] rfl ?_
        exact K2 () ((T_likeRows_l2_s S p q fu v3).trans (if_pos hc7)) trivial
      · refine gx_aload_n X dX2_likeRows_10 rfl 0 rfl ?_
        refine gT_band X dX2_likeRows_11 ?_
        refine gx_iload_n X dX2_likeRows_14 rfl 3 rfl ?_
        refine gT_card X (by omega) dX2_likeRows_15 ?_
        refine gx_iload_n X dX2_likeRows_16 rfl 1 rfl ?_
        refine gx_iconst (z := 0) X dX2_likeRows_17 rfl ?_
        refine gx_callVI (As := [.int (iI p), .int (iI 0)]) (rest := []) X (hD _) lk_T_108 (ci := 0) rfl rfl 0 rfl (c_C_colourOn (ca v3.toNat) (S.2.2.2 v3) p 0 (InvTC_c hI v3) (by omega) (by omega)) (jn_cdP K u r ca S (by omega) rfl (hD _)) rfl ⟨by decide, by decide⟩ (Nat.le_of_ble_eq_true rfl) dX2_likeRows_18 ?_
        have hp18_0 := C_colourOn_rg (S.2.2.2 v3) p 0 (InvTC_c hI v3) (by omega) (by omega)
        refine gx_aload_n X dX2_likeRows_21 rfl 0 rfl ?_
        refine gT_band X dX2_likeRows_22 ?_
        refine gx_iload_n X dX2_likeRows_25 rfl 3 rfl ?_
        refine gT_card X (by omega) dX2_likeRows_26 ?_
        refine gx_iload_n X dX2_likeRows_27 rfl 2 rfl ?_
        refine gx_iconst (z := 0) X dX2_likeRows_28 rfl ?_
        refine gx_callVI (As := [.int (iI q), .int (iI 0)]) (rest := [.int (iI (C_colourOn (S.2.2.2 v3) p 0))]) X (hD _) lk_T_108 (ci := 0) rfl rfl 0 rfl (c_C_colourOn (ca v3.toNat) (S.2.2.2 v3) q 0 (InvTC_c hI v3) (by omega) (by omega)) (jn_cdP K u r ca S (by omega) rfl (hD _)) rfl ⟨by decide, by decide⟩ (Nat.le_of_ble_eq_true rfl) dX2_likeRows_29 ?_
        have hp29_0 := C_colourOn_rg (S.2.2.2 v3) q 0 (InvTC_c hI v3) (by omega) (by omega)
        refine gx_icmp_eq (tgt := 37) X dX2_likeRows_32 (by decide) (by omega) (fun hc32 => ?_) (fun hc32 => ?_)
        · refine gx_iinc X dX2_likeRows_37 3 rfl (by decide) rfl ?_
          refine gx_goto (tgt := 2) X dX2_likeRows_40 (by decide) ?_
          refine gx_sub [1, 2, 3, 0] rfl ?_
          exact ih (v3 + 1) (by omega) (by omega) (by omega) (fun z e hx => K2 z ((T_likeRows_l2_s S p q fu v3).trans (((if_neg hc7).trans (if_pos hc32)).trans e)) hx) (fun z e => KR2 z ((T_likeRows_l2_s S p q fu v3).trans (((if_neg hc7).trans (if_pos hc32)).trans e)))
        · refine gx_iconst (z := 0) X dX2_likeRows_35 rfl ?_
          exact gx_iret hR (KR2 0 ((T_likeRows_l2_s S p q fu v3).trans ((if_neg hc7).trans (if_neg hc32)))) rfl dX2_likeRows_36
  refine gx_sub [1, 2, 3, 0] rfl ?_
  refine L2 (17) 0 (by omega) (by omega) (by omega) (fun z2 e2 hx2 => ?_) (fun z e => congrArg (Sum.elim id (fun z2 => T_likeRows_r2 )) e)
  refine gx_iconst (z := 1) X dX2_likeRows_43 rfl ?_
  exact gx_iret hR (congrArg (Sum.elim id (fun z2 => T_likeRows_r2 )) e2) rfl dX2_likeRows_44
def T_repeatsBy_l2 (S : TS) (p : Int) : Nat → Int → (Int) ⊕ (Unit)
  | 0, v2 => .inr ()
  | fu + 1, v2 => if (S.1 1) ≤ v2 then .inr () else if (T_likeRows S v2 (v2 - p)) = 0 then .inl 0 else T_repeatsBy_l2 S p fu (v2 + 1)
theorem T_repeatsBy_l2_s (S : TS) (p : Int) (fu : Nat) (v2 : Int) : T_repeatsBy_l2 S p (fu + 1) v2 = (if (S.1 1) ≤ v2 then .inr () else if (T_likeRows S v2 (v2 - p)) = 0 then .inl 0 else T_repeatsBy_l2 S p fu (v2 + 1)) := rfl
def T_repeatsBy_r2  : Int := 1
def T_repeatsBy (S : TS) (p : Int) : Int := Sum.elim id (fun z2 => T_repeatsBy_r2 ) (T_repeatsBy_l2 S p (61) p)
theorem T_repeatsBy_l2_rg (S : TS) (p : Int) : ∀ (n : Nat) (w : Int), T_repeatsBy_l2 S p n w = .inl 0 ∨ T_repeatsBy_l2 S p n w = .inr () := by
  intro n
  induction n with
  | zero => intro w; exact Or.inr rfl
  | succ n ih =>
    intro w
    rw [T_repeatsBy_l2_s]
    repeat' split
    all_goals first | exact Or.inr rfl | exact Or.inl rfl | exact ih _
theorem T_repeatsBy_01 (S : TS) (p : Int) : T_repeatsBy S p = 0 ∨ T_repeatsBy S p = 1 := by
  rcases T_repeatsBy_l2_rg S p 61 p with h | h
  · exact Or.inl (congrArg (Sum.elim id _) h)
  · exact Or.inr (congrArg (Sum.elim id _) h)
set_option maxRecDepth 100000 in
theorem c_T_repeatsBy {l : Launch} {K : KK} {N : Int} (u r : Nat → Nat) (ca : Nat → Nat → Nat) (S : TS) (p : Int) (hI : InvTC N S) (hp1 : 1 ≤ p ∧ p < 60) : CtI l yX2_repeatsBy cX2_repeatsBy 3 .boolean (3, 67) K [.ref (u 0), .int (iI p)] (wT K u r ca S) (T_repeatsBy S p) (wT K u r ca S) := by
  refine ctI_of (by decide) (Nat.le_of_ble_eq_true rfl) (narrow_bool (T_repeatsBy_01 S p)) ?_
  intro x X hD hR
  have hD : ∀ S9 : TS, va_D (cx_A x) (wT K u r ca S9) := fun S9 => va_D_same hD rfl
  have hs0 := InvTC_s0 hI
  have hs1 := InvTC_s1 hI
  have hs2 := InvTC_s2 hI
  have hs3 := InvTC_s3 hI
  refine gx_iload_n X dX2_repeatsBy_0 rfl 1 rfl ?_
  refine gx_istore_n X dX2_repeatsBy_1 rfl (by decide) rfl ?_
  have L2 : ∀ (fu : Nat) (v2 : Int), (p ≤ v2) → (v2 ≤ 60) → (60 - v2) < (fu : Int) → (∀ z2 : Unit, T_repeatsBy_l2 S p fu v2 = .inr z2 → True → GG l (rmK (3, 67)) K x (wT K u r ca S) 29 [(0, .ref (u 0)), (1, .int (iI p))] []) → (∀ zz : Int, T_repeatsBy_l2 S p fu v2 = .inl zz → T_repeatsBy S p = zz) → GG l (rmK (3, 67)) K x (wT K u r ca S) 2 [(0, .ref (u 0)), (1, .int (iI p)), (2, .int (iI v2))] [] := by
    intro fu
    induction fu with
    | zero => intro v2 hi2_0 hi2_1 hm2 K2 KR2; exact absurd hm2 (by omega)
    | succ fu ih =>
      intro v2 hi2_0 hi2_1 hm2 K2 KR2
      refine gx_iload_n X dX2_repeatsBy_2 rfl 2 rfl ?_
      refine gx_aload_n X dX2_repeatsBy_3 rfl 0 rfl ?_
      refine gT_g1 (v := (S.1 1)) X rfl dX2_repeatsBy_4 ?_
      refine gx_icmp_ge (tgt := 29) X dX2_repeatsBy_7 (by decide) (by omega) (fun hc7 => ?_) (fun hc7 => ?_)
      · refine gx_sub [0, 1] rfl ?_
        exact K2 () ((T_repeatsBy_l2_s S p fu v2).trans (if_pos hc7)) trivial
      · refine gx_aload_n X dX2_repeatsBy_10 rfl 0 rfl ?_
        refine gx_iload_n X dX2_repeatsBy_11 rfl 2 rfl ?_
        refine gx_iload_n X dX2_repeatsBy_12 rfl 2 rfl ?_
        refine gx_iload_n X dX2_repeatsBy_13 rfl 1 rfl ?_
        refine gx_isub X dX2_repeatsBy_14 ?_
        refine gx_callVI (As := [.int (iI v2), .int (iI (v2 - p))]) (rest := []) X (hD _) lk_T_203 (ci := 2) rfl rfl 0 rfl (c_T_likeRows u r ca S v2 (v2 - p) hI (by omega) (by omega)) jn_all rfl ⟨by decide, by decide⟩ (Nat.le_of_ble_eq_true rfl) dX2_repeatsBy_15 ?_
        have hq15_0 := T_likeRows_01 S v2 (v2 - p)
        refine gx_if_ne (tgt := 23) X dX2_repeatsBy_18 (by decide) (by omega) (fun hc18 => ?_) (fun hc18 => ?_)
        · refine gx_iinc X dX2_repeatsBy_23 2 rfl (by decide) rfl ?_
          refine gx_goto (tgt := 2) X dX2_repeatsBy_26 (by decide) ?_
          refine gx_sub [1, 2, 0] rfl ?_
          exact ih (v2 + 1) (by omega) (by omega) (by omega) (fun z e hx => K2 z ((T_repeatsBy_l2_s S p fu v2).trans (((if_neg hc7).trans (if_neg hc18)).trans e)) hx) (fun z e => KR2 z ((T_repeatsBy_l2_s S p fu v2).trans (((if_neg hc7).trans (if_neg hc18)).trans e)))
        · refine gx_iconst (z := 0) X dX2_repeatsBy_21 rfl ?_
          exact gx_iret hR (KR2 0 ((T_repeatsBy_l2_s S p fu v2).trans ((if_neg hc7).trans (if_pos hc18)))) rfl dX2_repeatsBy_22
  refine gx_sub [1, 2, 0] rfl ?_
  refine L2 (61) p (by omega) (by omega) (by omega) (fun z2 e2 hx2 => ?_) (fun z e => congrArg (Sum.elim id (fun z2 => T_repeatsBy_r2 )) e)
  refine gx_iconst (z := 1) X dX2_repeatsBy_29 rfl ?_
  exact gx_iret hR (congrArg (Sum.elim id (fun z2 => T_repeatsBy_r2 )) e2) rfl dX2_repeatsBy_30
def T_shownAhead_l2 (S : TS) (p : Int) : Nat → Int → (Int) ⊕ (Unit)
  | 0, v2 => .inr ()
  | fu + 1, v2 => if p ≤ v2 then .inr () else if (T_likeRows S v2 p) = 0 then T_shownAhead_l2 S p fu (v2 + 1) else .inl 1
theorem T_shownAhead_l2_s (S : TS) (p : Int) (fu : Nat) (v2 : Int) : T_shownAhead_l2 S p (fu + 1) v2 = (if p ≤ v2 then .inr () else if (T_likeRows S v2 p) = 0 then T_shownAhead_l2 S p fu (v2 + 1) else .inl 1) := rfl
def T_shownAhead_r2  : Int := 0
def T_shownAhead (S : TS) (p : Int) : Int := Sum.elim id (fun z2 => T_shownAhead_r2 ) (T_shownAhead_l2 S p (61) 0)
theorem T_shownAhead_l2_rg (S : TS) (p : Int) : ∀ (n : Nat) (w : Int), T_shownAhead_l2 S p n w = .inl 1 ∨ T_shownAhead_l2 S p n w = .inr () := by
  intro n
  induction n with
  | zero => intro w; exact Or.inr rfl
  | succ n ih =>
    intro w
    rw [T_shownAhead_l2_s]
    repeat' split
    all_goals first | exact Or.inr rfl | exact Or.inl rfl | exact ih _
theorem T_shownAhead_01 (S : TS) (p : Int) : T_shownAhead S p = 0 ∨ T_shownAhead S p = 1 := by
  rcases T_shownAhead_l2_rg S p 61 0 with h | h
  · exact Or.inr (congrArg (Sum.elim id _) h)
  · exact Or.inl (congrArg (Sum.elim id _) h)
set_option maxRecDepth 100000 in
theorem c_T_shownAhead {l : Launch} {K : KK} {N : Int} (u r : Nat → Nat) (ca : Nat → Nat → Nat) (S : TS) (p : Int) (hI : InvTC N S) (hp1 : 0 ≤ p ∧ p < 60) : CtI l yX2_shownAhead cX2_shownAhead 3 .boolean (3, 67) K [.ref (u 0), .int (iI p)] (wT K u r ca S) (T_shownAhead S p) (wT K u r ca S) := by
  refine ctI_of (by decide) (Nat.le_of_ble_eq_true rfl) (narrow_bool (T_shownAhead_01 S p)) ?_
  intro x X hD hR
  have hD : ∀ S9 : TS, va_D (cx_A x) (wT K u r ca S9) := fun S9 => va_D_same hD rfl
  have hs0 := InvTC_s0 hI
  have hs1 := InvTC_s1 hI
  have hs2 := InvTC_s2 hI
  have hs3 := InvTC_s3 hI
  refine gx_iconst (z := 0) X dX2_shownAhead_0 rfl ?_
  refine gx_istore_n X dX2_shownAhead_1 rfl (by decide) rfl ?_
  have L2 : ∀ (fu : Nat) (v2 : Int), (0 ≤ v2) → (v2 ≤ p) → (p - v2) < (fu : Int) → (∀ z2 : Unit, T_shownAhead_l2 S p fu v2 = .inr z2 → True → GG l (rmK (3, 67)) K x (wT K u r ca S) 24 [(0, .ref (u 0)), (1, .int (iI p))] []) → (∀ zz : Int, T_shownAhead_l2 S p fu v2 = .inl zz → T_shownAhead S p = zz) → GG l (rmK (3, 67)) K x (wT K u r ca S) 2 [(0, .ref (u 0)), (1, .int (iI p)), (2, .int (iI v2))] [] := by
    intro fu
    induction fu with
    | zero => intro v2 hi2_0 hi2_1 hm2 K2 KR2; exact absurd hm2 (by omega)
    | succ fu ih =>
      intro v2 hi2_0 hi2_1 hm2 K2 KR2
      refine gx_iload_n X dX2_shownAhead_2 rfl 2 rfl ?_
      refine gx_iload_n X dX2_shownAhead_3 rfl 1 rfl ?_
      refine gx_icmp_ge (tgt := 24) X dX2_shownAhead_4 (by decide) (by omega) (fun hc4 => ?_) (fun hc4 => ?_)
      · refine gx_sub [0, 1] rfl ?_
        exact K2 () ((T_shownAhead_l2_s S p fu v2).trans (if_pos hc4)) trivial
      · refine gx_aload_n X dX2_shownAhead_7 rfl 0 rfl ?_
        refine gx_iload_n X dX2_shownAhead_8 rfl 2 rfl ?_
        refine gx_iload_n X dX2_shownAhead_9 rfl 1 rfl ?_
        refine gx_callVI (As := [.int (iI v2), .int (iI p)]) (rest := []) X (hD _) lk_T_203 (ci := 2) rfl rfl 0 rfl (c_T_likeRows u r ca S v2 p hI (by omega) (by omega)) jn_all rfl ⟨by decide, by decide⟩ (Nat.le_of_ble_eq_true rfl) dX2_shownAhead_10 ?_
        have hq10_0 := T_likeRows_01 S v2 p
        refine gx_if_eq (tgt := 18) X dX2_shownAhead_13 (by decide) (by omega) (fun hc13 => ?_) (fun hc13 => ?_)
        · refine gx_iinc X dX2_shownAhead_18 2 rfl (by decide) rfl ?_
          refine gx_goto (tgt := 2) X dX2_shownAhead_21 (by decide) ?_
          refine gx_sub [1, 2, 0] rfl ?_
          exact ih (v2 + 1) (by omega) (by omega) (by omega) (fun z e hx => K2 z ((T_shownAhead_l2_s S p fu v2).trans (((if_neg hc4).trans (if_pos hc13)).trans e)) hx) (fun z e => KR2 z ((T_shownAhead_l2_s S p fu v2).trans (((if_neg hc4).trans (if_pos hc13)).trans e)))
        · refine gx_iconst (z := 1) X dX2_shownAhead_16 rfl ?_
          exact gx_iret hR (KR2 1 ((T_shownAhead_l2_s S p fu v2).trans ((if_neg hc4).trans (if_neg hc13)))) rfl dX2_shownAhead_17
  refine gx_sub [1, 2, 0] rfl ?_
  refine L2 (61) 0 (by omega) (by omega) (by omega) (fun z2 e2 hx2 => ?_) (fun z e => congrArg (Sum.elim id (fun z2 => T_shownAhead_r2 )) e)
  refine gx_iconst (z := 0) X dX2_shownAhead_24 rfl ?_
  exact gx_iret hR (congrArg (Sum.elim id (fun z2 => T_shownAhead_r2 )) e2) rfl dX2_shownAhead_25
def T_mirroredIn_l2 (S : TS) (p : Int) : Nat → Int → (Int) ⊕ (Unit)
  | 0, v2 => .inr ()
  | fu + 1, v2 => if (S.1 0) ≤ v2 then .inr () else if (C_colourOn (S.2.2.2 v2) p 0) = (C_colourOn (S.2.2.2 (((S.1 0) - 1) - v2)) p 0) then T_mirroredIn_l2 S p fu (v2 + 1) else .inl 0
theorem T_mirroredIn_l2_s (S : TS) (p : Int) (fu : Nat) (v2 : Int) : T_mirroredIn_l2 S p (fu + 1) v2 = (if (S.1 0) ≤ v2 then .inr () else if (C_colourOn (S.2.2.2 v2) p 0) = (C_colourOn (S.2.2.2 (((S.1 0) - 1) - v2)) p 0) then T_mirroredIn_l2 S p fu (v2 + 1) else .inl 0) := rfl
def T_mirroredIn_r2  : Int := 1
def T_mirroredIn (S : TS) (p : Int) : Int := Sum.elim id (fun z2 => T_mirroredIn_r2 ) (T_mirroredIn_l2 S p (17) 0)
theorem T_mirroredIn_l2_rg (S : TS) (p : Int) : ∀ (n : Nat) (w : Int), T_mirroredIn_l2 S p n w = .inl 0 ∨ T_mirroredIn_l2 S p n w = .inr () := by
  intro n
  induction n with
  | zero => intro w; exact Or.inr rfl
  | succ n ih =>
    intro w
    rw [T_mirroredIn_l2_s]
    repeat' split
    all_goals first | exact Or.inr rfl | exact Or.inl rfl | exact ih _
theorem T_mirroredIn_01 (S : TS) (p : Int) : T_mirroredIn S p = 0 ∨ T_mirroredIn S p = 1 := by
  rcases T_mirroredIn_l2_rg S p 17 0 with h | h
  · exact Or.inl (congrArg (Sum.elim id _) h)
  · exact Or.inr (congrArg (Sum.elim id _) h)
set_option maxRecDepth 100000 in
theorem c_T_mirroredIn {l : Launch} {K : KK} {N : Int} (u r : Nat → Nat) (ca : Nat → Nat → Nat) (S : TS) (p : Int) (hI : InvTC N S) (hp1 : 0 ≤ p ∧ p < 60) : CtI l yX2_mirroredIn cX2_mirroredIn 3 .boolean (2, 44) K [.ref (u 0), .int (iI p)] (wT K u r ca S) (T_mirroredIn S p) (wT K u r ca S) := by
  refine ctI_of (by decide) (Nat.le_of_ble_eq_true rfl) (narrow_bool (T_mirroredIn_01 S p)) ?_
  intro x X hD hR
  have hD : ∀ S9 : TS, va_D (cx_A x) (wT K u r ca S9) := fun S9 => va_D_same hD rfl
  have hs0 := InvTC_s0 hI
  have hs1 := InvTC_s1 hI
  have hs2 := InvTC_s2 hI
  have hs3 := InvTC_s3 hI
  refine gx_iconst (z := 0) X dX2_mirroredIn_0 rfl ?_
  refine gx_istore_n X dX2_mirroredIn_1 rfl (by decide) rfl ?_
  have L2 : ∀ (fu : Nat) (v2 : Int), (0 ≤ v2) → (v2 ≤ (S.1 0)) → ((S.1 0) - v2) < (fu : Int) → (∀ z2 : Unit, T_mirroredIn_l2 S p fu v2 = .inr z2 → True → GG l (rmK (2, 44)) K x (wT K u r ca S) 50 [(0, .ref (u 0)), (1, .int (iI p))] []) → (∀ zz : Int, T_mirroredIn_l2 S p fu v2 = .inl zz → T_mirroredIn S p = zz) → GG l (rmK (2, 44)) K x (wT K u r ca S) 2 [(0, .ref (u 0)), (1, .int (iI p)), (2, .int (iI v2))] [] := by
    intro fu
    induction fu with
    | zero => intro v2 hi2_0 hi2_1 hm2 K2 KR2; exact absurd hm2 (by omega)
    | succ fu ih =>
      intro v2 hi2_0 hi2_1 hm2 K2 KR2
      refine gx_iload_n X dX2_mirroredIn_2 rfl 2 rfl ?_
      refine gx_aload_n X dX2_mirroredIn_3 rfl 0 rfl ?_
      refine gT_g0 (v := (S.1 0)) X rfl dX2_mirroredIn_4 ?_
      refine gx_icmp_ge (tgt := 50) X dX2_mirroredIn_7 (by decide) (by omega) (fun hc7 => ?_) (fun hc7 => ?_)
      · refine gx_sub [0, 1] rfl ?_
        exact K2 () ((T_mirroredIn_l2_s S p fu v2).trans (if_pos hc7)) trivial
      · refine gx_aload_n X dX2_mirroredIn_10 rfl 0 rfl ?_
        refine gT_band X dX2_mirroredIn_11 ?_
        refine gx_iload_n X dX2_mirroredIn_14 rfl 2 rfl ?_
        refine gT_card X (by omega) dX2_mirroredIn_15 ?_
        refine gx_iload_n X dX2_mirroredIn_16 rfl 1 rfl ?_
        refine gx_iconst (z := 0) X dX2_mirroredIn_17 rfl ?_
        refine gx_callVI (As := [.int (iI p), .int (iI 0)]) (rest := []) X (hD _) lk_T_108 (ci := 0) rfl rfl 0 rfl (c_C_colourOn (ca v2.toNat) (S.2.2.2 v2) p 0 (InvTC_c hI v2) (by omega) (by omega)) (jn_cdP K u r ca S (by omega) rfl (hD _)) rfl ⟨by decide, by decide⟩ (Nat.le_of_ble_eq_true rfl) dX2_mirroredIn_18 ?_
        have hp18_0 := C_colourOn_rg (S.2.2.2 v2) p 0 (InvTC_c hI v2) (by omega) (by omega)
        refine gx_aload_n X dX2_mirroredIn_21 rfl 0 rfl ?_
        refine gT_band X dX2_mirroredIn_22 ?_
        refine gx_aload_n X dX2_mirroredIn_25 rfl 0 rfl ?_
        refine gT_g0 (v := (S.1 0)) X rfl dX2_mirroredIn_26 ?_
        refine gx_iconst (z := 1) X dX2_mirroredIn_29 rfl ?_
        refine gx_isub X dX2_mirroredIn_30 ?_
        refine gx_iload_n X dX2_mirroredIn_31 rfl 2 rfl ?_
        refine gx_isub X dX2_mirroredIn_32 ?_
        refine gT_card X (by omega) dX2_mirroredIn_33 ?_
        refine gx_iload_n X dX2_mirroredIn_34 rfl 1 rfl ?_
        refine gx_iconst (z := 0) X dX2_mirroredIn_35 rfl ?_
        refine gx_callVI (As := [.int (iI p), .int (iI 0)]) (rest := [.int (iI (C_colourOn (S.2.2.2 v2) p 0))]) X (hD _) lk_T_108 (ci := 0) rfl rfl 0 rfl (c_C_colourOn (ca (((S.1 0) - 1) - v2).toNat) (S.2.2.2 (((S.1 0) - 1) - v2)) p 0 (InvTC_c hI (((S.1 0) - 1) - v2)) (by omega) (by omega)) (jn_cdP K u r ca S (by omega) rfl (hD _)) rfl ⟨by decide, by decide⟩ (Nat.le_of_ble_eq_true rfl) dX2_mirroredIn_36 ?_
        have hp36_0 := C_colourOn_rg (S.2.2.2 (((S.1 0) - 1) - v2)) p 0 (InvTC_c hI (((S.1 0) - 1) - v2)) (by omega) (by omega)
        refine gx_icmp_eq (tgt := 44) X dX2_mirroredIn_39 (by decide) (by omega) (fun hc39 => ?_) (fun hc39 => ?_)
        · refine gx_iinc X dX2_mirroredIn_44 2 rfl (by decide) rfl ?_
          refine gx_goto (tgt := 2) X dX2_mirroredIn_47 (by decide) ?_
          refine gx_sub [1, 2, 0] rfl ?_
          exact ih (v2 + 1) (by omega) (by omega) (by omega) (fun z e hx => K2 z ((T_mirroredIn_l2_s S p fu v2).trans (((if_neg hc7).trans (if_pos hc39)).trans e)) hx) (fun z e => KR2 z ((T_mirroredIn_l2_s S p fu v2).trans (((if_neg hc7).trans (if_pos hc39)).trans e)))
        · refine gx_iconst (z := 0) X dX2_mirroredIn_42 rfl ?_
          exact gx_iret hR (KR2 0 ((T_mirroredIn_l2_s S p fu v2).trans ((if_neg hc7).trans (if_neg hc39)))) rfl dX2_mirroredIn_43
  refine gx_sub [1, 2, 0] rfl ?_
  refine L2 (17) 0 (by omega) (by omega) (by omega) (fun z2 e2 hx2 => ?_) (fun z e => congrArg (Sum.elim id (fun z2 => T_mirroredIn_r2 )) e)
  refine gx_iconst (z := 1) X dX2_mirroredIn_50 rfl ?_
  exact gx_iret hR (congrArg (Sum.elim id (fun z2 => T_mirroredIn_r2 )) e2) rfl dX2_mirroredIn_51
def T_likeBackIn_l2 (S : TS) (p : Int) : Nat → Int → (Int) ⊕ (Unit)
  | 0, v2 => .inr ()
  | fu + 1, v2 => if (S.1 0) ≤ v2 then .inr () else if (C_colourOn (S.2.2.2 v2) p 0) = (C_colourOn (S.2.2.2 v2) p 1) then T_likeBackIn_l2 S p fu (v2 + 1) else .inl 0
theorem T_likeBackIn_l2_s (S : TS) (p : Int) (fu : Nat) (v2 : Int) : T_likeBackIn_l2 S p (fu + 1) v2 = (if (S.1 0) ≤ v2 then .inr () else if (C_colourOn (S.2.2.2 v2) p 0) = (C_colourOn (S.2.2.2 v2) p 1) then T_likeBackIn_l2 S p fu (v2 + 1) else .inl 0) := rfl
def T_likeBackIn_r2  : Int := 1
def T_likeBackIn (S : TS) (p : Int) : Int := Sum.elim id (fun z2 => T_likeBackIn_r2 ) (T_likeBackIn_l2 S p (17) 0)
theorem T_likeBackIn_l2_rg (S : TS) (p : Int) : ∀ (n : Nat) (w : Int), T_likeBackIn_l2 S p n w = .inl 0 ∨ T_likeBackIn_l2 S p n w = .inr () := by
  intro n
  induction n with
  | zero => intro w; exact Or.inr rfl
  | succ n ih =>
    intro w
    rw [T_likeBackIn_l2_s]
    repeat' split
    all_goals first | exact Or.inr rfl | exact Or.inl rfl | exact ih _
theorem T_likeBackIn_01 (S : TS) (p : Int) : T_likeBackIn S p = 0 ∨ T_likeBackIn S p = 1 := by
  rcases T_likeBackIn_l2_rg S p 17 0 with h | h
  · exact Or.inl (congrArg (Sum.elim id _) h)
  · exact Or.inr (congrArg (Sum.elim id _) h)
set_option maxRecDepth 100000 in
theorem c_T_likeBackIn {l : Launch} {K : KK} {N : Int} (u r : Nat → Nat) (ca : Nat → Nat → Nat) (S : TS) (p : Int) (hI : InvTC N S) (hp1 : 0 ≤ p ∧ p < 60) : CtI l yX2_likeBackIn cX2_likeBackIn 3 .boolean (2, 44) K [.ref (u 0), .int (iI p)] (wT K u r ca S) (T_likeBackIn S p) (wT K u r ca S) := by
  refine ctI_of (by decide) (Nat.le_of_ble_eq_true rfl) (narrow_bool (T_likeBackIn_01 S p)) ?_
  intro x X hD hR
  have hD : ∀ S9 : TS, va_D (cx_A x) (wT K u r ca S9) := fun S9 => va_D_same hD rfl
  have hs0 := InvTC_s0 hI
  have hs1 := InvTC_s1 hI
  have hs2 := InvTC_s2 hI
  have hs3 := InvTC_s3 hI
  refine gx_iconst (z := 0) X dX2_likeBackIn_0 rfl ?_
  refine gx_istore_n X dX2_likeBackIn_1 rfl (by decide) rfl ?_
  have L2 : ∀ (fu : Nat) (v2 : Int), (0 ≤ v2) → (v2 ≤ (S.1 0)) → ((S.1 0) - v2) < (fu : Int) → (∀ z2 : Unit, T_likeBackIn_l2 S p fu v2 = .inr z2 → True → GG l (rmK (2, 44)) K x (wT K u r ca S) 43 [(0, .ref (u 0)), (1, .int (iI p))] []) → (∀ zz : Int, T_likeBackIn_l2 S p fu v2 = .inl zz → T_likeBackIn S p = zz) → GG l (rmK (2, 44)) K x (wT K u r ca S) 2 [(0, .ref (u 0)), (1, .int (iI p)), (2, .int (iI v2))] [] := by
    intro fu
    induction fu with
    | zero => intro v2 hi2_0 hi2_1 hm2 K2 KR2; exact absurd hm2 (by omega)
    | succ fu ih =>
      intro v2 hi2_0 hi2_1 hm2 K2 KR2
      refine gx_iload_n X dX2_likeBackIn_2 rfl 2 rfl ?_
      refine gx_aload_n X dX2_likeBackIn_3 rfl 0 rfl ?_
      refine gT_g0 (v := (S.1 0)) X rfl dX2_likeBackIn_4 ?_
      refine gx_icmp_ge (tgt := 43) X dX2_likeBackIn_7 (by decide) (by omega) (fun hc7 => ?_) (fun hc7 => ?_)
      · refine gx_sub [0, 1] rfl ?_
        exact K2 () ((T_likeBackIn_l2_s S p fu v2).trans (if_pos hc7)) trivial
      · refine gx_aload_n X dX2_likeBackIn_10 rfl 0 rfl ?_
        refine gT_band X dX2_likeBackIn_11 ?_
        refine gx_iload_n X dX2_likeBackIn_14 rfl 2 rfl ?_
        refine gT_card X (by omega) dX2_likeBackIn_15 ?_
        refine gx_iload_n X dX2_likeBackIn_16 rfl 1 rfl ?_
        refine gx_iconst (z := 0) X dX2_likeBackIn_17 rfl ?_
        refine gx_callVI (As := [.int (iI p), .int (iI 0)]) (rest := []) X (hD _) lk_T_108 (ci := 0) rfl rfl 0 rfl (c_C_colourOn (ca v2.toNat) (S.2.2.2 v2) p 0 (InvTC_c hI v2) (by omega) (by omega)) (jn_cdP K u r ca S (by omega) rfl (hD _)) rfl ⟨by decide, by decide⟩ (Nat.le_of_ble_eq_true rfl) dX2_likeBackIn_18 ?_
        have hp18_0 := C_colourOn_rg (S.2.2.2 v2) p 0 (InvTC_c hI v2) (by omega) (by omega)
        refine gx_aload_n X dX2_likeBackIn_21 rfl 0 rfl ?_
        refine gT_band X dX2_likeBackIn_22 ?_
        refine gx_iload_n X dX2_likeBackIn_25 rfl 2 rfl ?_
        refine gT_card X (by omega) dX2_likeBackIn_26 ?_
        refine gx_iload_n X dX2_likeBackIn_27 rfl 1 rfl ?_
        refine gx_iconst (z := 1) X dX2_likeBackIn_28 rfl ?_
        refine gx_callVI (As := [.int (iI p), .int (iI 1)]) (rest := [.int (iI (C_colourOn (S.2.2.2 v2) p 0))]) X (hD _) lk_T_108 (ci := 0) rfl rfl 0 rfl (c_C_colourOn (ca v2.toNat) (S.2.2.2 v2) p 1 (InvTC_c hI v2) (by omega) (by omega)) (jn_cdP K u r ca S (by omega) rfl (hD _)) rfl ⟨by decide, by decide⟩ (Nat.le_of_ble_eq_true rfl) dX2_likeBackIn_29 ?_
        have hp29_0 := C_colourOn_rg (S.2.2.2 v2) p 1 (InvTC_c hI v2) (by omega) (by omega)
        refine gx_icmp_eq (tgt := 37) X dX2_likeBackIn_32 (by decide) (by omega) (fun hc32 => ?_) (fun hc32 => ?_)
        · refine gx_iinc X dX2_likeBackIn_37 2 rfl (by decide) rfl ?_
          refine gx_goto (tgt := 2) X dX2_likeBackIn_40 (by decide) ?_
          refine gx_sub [1, 2, 0] rfl ?_
          exact ih (v2 + 1) (by omega) (by omega) (by omega) (fun z e hx => K2 z ((T_likeBackIn_l2_s S p fu v2).trans (((if_neg hc7).trans (if_pos hc32)).trans e)) hx) (fun z e => KR2 z ((T_likeBackIn_l2_s S p fu v2).trans (((if_neg hc7).trans (if_pos hc32)).trans e)))
        · refine gx_iconst (z := 0) X dX2_likeBackIn_35 rfl ?_
          exact gx_iret hR (KR2 0 ((T_likeBackIn_l2_s S p fu v2).trans ((if_neg hc7).trans (if_neg hc32)))) rfl dX2_likeBackIn_36
  refine gx_sub [1, 2, 0] rfl ?_
  refine L2 (17) 0 (by omega) (by omega) (by omega) (fun z2 e2 hx2 => ?_) (fun z e => congrArg (Sum.elim id (fun z2 => T_likeBackIn_r2 )) e)
  refine gx_iconst (z := 1) X dX2_likeBackIn_43 rfl ?_
  exact gx_iret hR (congrArg (Sum.elim id (fun z2 => T_likeBackIn_r2 )) e2) rfl dX2_likeBackIn_44
def T_repeat_l2 (S : TS) : Nat → Int → (Int) ⊕ (Unit)
  | 0, v1 => .inr ()
  | fu + 1, v1 => if (S.1 1) ≤ v1 then .inr () else if (T_repeatsBy S v1) = 0 then T_repeat_l2 S fu (v1 + 1) else .inl v1
theorem T_repeat_l2_s (S : TS) (fu : Nat) (v1 : Int) : T_repeat_l2 S (fu + 1) v1 = (if (S.1 1) ≤ v1 then .inr () else if (T_repeatsBy S v1) = 0 then T_repeat_l2 S fu (v1 + 1) else .inl v1) := rfl
def T_repeat_r2 (S : TS) : Int := (S.1 1)
def T_repeat (S : TS) : Int := Sum.elim id (fun z2 => T_repeat_r2 S) (T_repeat_l2 S (61) 1)
set_option maxRecDepth 100000 in
theorem c_T_repeat {l : Launch} {K : KK} {N : Int} (u r : Nat → Nat) (ca : Nat → Nat → Nat) (S : TS) (hI : InvTC N S) : CtI l yX2_repeat cX2_repeat 2 .int (4, 89) K [.ref (u 0)] (wT K u r ca S) (T_repeat S) (wT K u r ca S) := by
  refine ctI_of (by decide) (Nat.le_of_ble_eq_true rfl) rfl ?_
  intro x X hD hR
  have hD : ∀ S9 : TS, va_D (cx_A x) (wT K u r ca S9) := fun S9 => va_D_same hD rfl
  have hs0 := InvTC_s0 hI
  have hs1 := InvTC_s1 hI
  have hs2 := InvTC_s2 hI
  have hs3 := InvTC_s3 hI
  refine gx_iconst (z := 1) X dX2_repeat_0 rfl ?_
  refine gx_istore_n X dX2_repeat_1 rfl (by decide) rfl ?_
  have L2 : ∀ (fu : Nat) (v1 : Int), (1 ≤ v1) → (v1 ≤ 60) → (60 - v1) < (fu : Int) → (∀ z2 : Unit, T_repeat_l2 S fu v1 = .inr z2 → True → GG l (rmK (4, 89)) K x (wT K u r ca S) 26 [(0, .ref (u 0))] []) → (∀ zz : Int, T_repeat_l2 S fu v1 = .inl zz → T_repeat S = zz) → GG l (rmK (4, 89)) K x (wT K u r ca S) 2 [(0, .ref (u 0)), (1, .int (iI v1))] [] := by
    intro fu
    induction fu with
    | zero => intro v1 hi2_0 hi2_1 hm2 K2 KR2; exact absurd hm2 (by omega)
    | succ fu ih =>
      intro v1 hi2_0 hi2_1 hm2 K2 KR2
      refine gx_iload_n X dX2_repeat_2 rfl 1 rfl ?_
      refine gx_aload_n X dX2_repeat_3 rfl 0 rfl ?_
      refine gT_g1 (v := (S.1 1)) X rfl dX2_repeat_4 ?_
      refine gx_icmp_ge (tgt := 26) X dX2_repeat_7 (by decide) (by omega) (fun hc7 => ?_) (fun hc7 => ?_)
      · refine gx_sub [0] rfl ?_
        exact K2 () ((T_repeat_l2_s S fu v1).trans (if_pos hc7)) trivial
      · refine gx_aload_n X dX2_repeat_10 rfl 0 rfl ?_
        refine gx_iload_n X dX2_repeat_11 rfl 1 rfl ?_
        refine gx_callVI (As := [.int (iI v1)]) (rest := []) X (hD _) lk_T_121 (ci := 2) rfl rfl 0 rfl (c_T_repeatsBy u r ca S v1 hI (by omega)) jn_all rfl ⟨by decide, by decide⟩ (Nat.le_of_ble_eq_true rfl) dX2_repeat_12 ?_
        have hq12_0 := T_repeatsBy_01 S v1
        refine gx_if_eq (tgt := 20) X dX2_repeat_15 (by decide) (by omega) (fun hc15 => ?_) (fun hc15 => ?_)
        · refine gx_iinc X dX2_repeat_20 1 rfl (by decide) rfl ?_
          refine gx_goto (tgt := 2) X dX2_repeat_23 (by decide) ?_
          refine gx_sub [1, 0] rfl ?_
          exact ih (v1 + 1) (by omega) (by omega) (by omega) (fun z e hx => K2 z ((T_repeat_l2_s S fu v1).trans (((if_neg hc7).trans (if_pos hc15)).trans e)) hx) (fun z e => KR2 z ((T_repeat_l2_s S fu v1).trans (((if_neg hc7).trans (if_pos hc15)).trans e)))
        · refine gx_iload_n X dX2_repeat_18 rfl 1 rfl ?_
          exact gx_iret hR (KR2 v1 ((T_repeat_l2_s S fu v1).trans ((if_neg hc7).trans (if_neg hc15)))) rfl dX2_repeat_19
  refine gx_sub [1, 0] rfl ?_
  refine L2 (61) 1 (by omega) (by omega) (by omega) (fun z2 e2 hx2 => ?_) (fun z e => congrArg (Sum.elim id (fun z2 => T_repeat_r2 S)) e)
  refine gx_aload_n X dX2_repeat_26 rfl 0 rfl ?_
  refine gT_g1 (v := (S.1 1)) X rfl dX2_repeat_27 ?_
  exact gx_iret hR (congrArg (Sum.elim id (fun z2 => T_repeat_r2 S)) e2) rfl dX2_repeat_30
def T_is_l14 (S : TS) (w : Int) : Nat → Int → (Int) ⊕ (Unit)
  | 0, v2 => .inr ()
  | fu + 1, v2 => if (S.1 1) ≤ v2 then .inr () else if w = 0 then if (T_mirroredIn S v2) = 0 then .inl 0 else T_is_l14 S w fu (v2 + 1) else if (T_likeBackIn S v2) = 0 then .inl 0 else T_is_l14 S w fu (v2 + 1)
theorem T_is_l14_s (S : TS) (w : Int) (fu : Nat) (v2 : Int) : T_is_l14 S w (fu + 1) v2 = (if (S.1 1) ≤ v2 then .inr () else if w = 0 then if (T_mirroredIn S v2) = 0 then .inl 0 else T_is_l14 S w fu (v2 + 1) else if (T_likeBackIn S v2) = 0 then .inl 0 else T_is_l14 S w fu (v2 + 1)) := rfl
def T_is_r14  : Int := 1
def T_is (S : TS) (w : Int) : Int := if (T_within w 0 1) = 0 then (-2) else Sum.elim id (fun z14 => T_is_r14 ) (T_is_l14 S w (61) 0)
set_option maxRecDepth 100000 in
theorem c_T_is {l : Launch} {K : KK} {N : Int} (u r : Nat → Nat) (ca : Nat → Nat → Nat) (S : TS) (w : Int) (hI : InvTC N S) (hp1 : ok32 w) : CtI l yX2_is cX2_is 3 .int (3, 66) K [.ref (u 0), .int (iI w)] (wT K u r ca S) (T_is S w) (wT K u r ca S) := by
  refine ctI_of (by decide) (Nat.le_of_ble_eq_true rfl) rfl ?_
  intro x X hD hR
  have hD : ∀ S9 : TS, va_D (cx_A x) (wT K u r ca S9) := fun S9 => va_D_same hD rfl
  have hs0 := InvTC_s0 hI
  have hs1 := InvTC_s1 hI
  have hs2 := InvTC_s2 hI
  have hs3 := InvTC_s3 hI
  refine gx_iload_n X dX2_is_0 rfl 1 rfl ?_
  refine gx_iconst (z := 0) X dX2_is_1 rfl ?_
  refine gx_iconst (z := 1) X dX2_is_2 rfl ?_
  refine gx_callSI (As := [.int (iI w), .int (iI 0), .int (iI 1)]) (rest := []) X (hD _) lk_T_31 (c_T_within w 0 1 (by omega) (by omega) (by omega)) jn_nil rfl ⟨by decide, by decide⟩ (Nat.le_of_ble_eq_true rfl) dX2_is_3 ?_
  have hq3_0 := T_within_sp w 0 1
  refine gx_if_ne (tgt := 12) X dX2_is_6 (by decide) (by omega) (fun hc6 => ?_) (fun hc6 => ?_)
  · refine gx_iconst (z := 0) X dX2_is_12 rfl ?_
    refine gx_istore_n X dX2_is_13 rfl (by decide) rfl ?_
    have L14 : ∀ (fu : Nat) (v2 : Int), (0 ≤ v2) → (v2 ≤ (S.1 1)) → ((S.1 1) - v2) < (fu : Int) → (∀ z14 : Unit, T_is_l14 S w fu v2 = .inr z14 → True → GG l (rmK (3, 66)) K x (wT K u r ca S) 53 [(0, .ref (u 0)), (1, .int (iI w))] []) → (∀ zz : Int, T_is_l14 S w fu v2 = .inl zz → T_is S w = zz) → GG l (rmK (3, 66)) K x (wT K u r ca S) 14 [(0, .ref (u 0)), (1, .int (iI w)), (2, .int (iI v2))] [] := by
      intro fu
      induction fu with
      | zero => intro v2 hi14_0 hi14_1 hm14 K14 KR14; exact absurd hm14 (by omega)
      | succ fu ih =>
        intro v2 hi14_0 hi14_1 hm14 K14 KR14
        refine gx_iload_n X dX2_is_14 rfl 2 rfl ?_
        refine gx_aload_n X dX2_is_15 rfl 0 rfl ?_
        refine gT_g1 (v := (S.1 1)) X rfl dX2_is_16 ?_
        refine gx_icmp_ge (tgt := 53) X dX2_is_19 (by decide) (by omega) (fun hc19 => ?_) (fun hc19 => ?_)
        · refine gx_sub [0, 1] rfl ?_
          exact K14 () ((T_is_l14_s S w fu v2).trans (if_pos hc19)) trivial
        · refine gx_iload_n X dX2_is_22 rfl 1 rfl ?_
          refine gx_if_ne (tgt := 37) X dX2_is_23 (by decide) (by omega) (fun hc23 => ?_) (fun hc23 => ?_)
          · refine gx_aload_n X dX2_is_37 rfl 0 rfl ?_
            refine gx_iload_n X dX2_is_38 rfl 2 rfl ?_
            refine gx_callVI (As := [.int (iI v2)]) (rest := []) X (hD _) lk_T_127 (ci := 2) rfl rfl 0 rfl (c_T_likeBackIn u r ca S v2 hI (by omega)) jn_all rfl ⟨by decide, by decide⟩ (Nat.le_of_ble_eq_true rfl) dX2_is_39 ?_
            have hq39_0 := T_likeBackIn_01 S v2
            refine gx_if_ne (tgt := 47) X dX2_is_42 (by decide) (by omega) (fun hc42 => ?_) (fun hc42 => ?_)
            · refine gx_iinc X dX2_is_47 2 rfl (by decide) rfl ?_
              refine gx_goto (tgt := 14) X dX2_is_50 (by decide) ?_
              refine gx_sub [1, 2, 0] rfl ?_
              exact ih (v2 + 1) (by omega) (by omega) (by omega) (fun z e hx => K14 z ((T_is_l14_s S w fu v2).trans (((if_neg hc19).trans ((if_neg hc23).trans (if_neg hc42))).trans e)) hx) (fun z e => KR14 z ((T_is_l14_s S w fu v2).trans (((if_neg hc19).trans ((if_neg hc23).trans (if_neg hc42))).trans e)))
            · refine gx_iconst (z := 0) X dX2_is_45 rfl ?_
              exact gx_iret hR (KR14 0 ((T_is_l14_s S w fu v2).trans ((if_neg hc19).trans ((if_neg hc23).trans (if_pos hc42))))) rfl dX2_is_46
          · refine gx_aload_n X dX2_is_26 rfl 0 rfl ?_
            refine gx_iload_n X dX2_is_27 rfl 2 rfl ?_
            refine gx_callVI (As := [.int (iI v2)]) (rest := []) X (hD _) lk_T_124 (ci := 2) rfl rfl 0 rfl (c_T_mirroredIn u r ca S v2 hI (by omega)) jn_all rfl ⟨by decide, by decide⟩ (Nat.le_of_ble_eq_true rfl) dX2_is_28 ?_
            have hq28_0 := T_mirroredIn_01 S v2
            refine gx_if_ne (tgt := 47) X dX2_is_31 (by decide) (by omega) (fun hc31 => ?_) (fun hc31 => ?_)
            · refine gx_iinc X dX2_is_47 2 rfl (by decide) rfl ?_
              refine gx_goto (tgt := 14) X dX2_is_50 (by decide) ?_
              refine gx_sub [1, 2, 0] rfl ?_
              exact ih (v2 + 1) (by omega) (by omega) (by omega) (fun z e hx => K14 z ((T_is_l14_s S w fu v2).trans (((if_neg hc19).trans ((if_pos hc23).trans (if_neg hc31))).trans e)) hx) (fun z e => KR14 z ((T_is_l14_s S w fu v2).trans (((if_neg hc19).trans ((if_pos hc23).trans (if_neg hc31))).trans e)))
            · refine gx_goto (tgt := 45) X dX2_is_34 (by decide) ?_
              refine gx_iconst (z := 0) X dX2_is_45 rfl ?_
              exact gx_iret hR (KR14 0 ((T_is_l14_s S w fu v2).trans ((if_neg hc19).trans ((if_pos hc23).trans (if_pos hc31))))) rfl dX2_is_46
    refine gx_sub [1, 2, 0] rfl ?_
    refine L14 (61) 0 (by omega) (by omega) (by omega) (fun z14 e14 hx14 => ?_) (fun z e => (if_neg hc6).trans (congrArg (Sum.elim id (fun z14 => T_is_r14 )) e))
    refine gx_iconst (z := 1) X dX2_is_53 rfl ?_
    exact gx_iret hR ((if_neg hc6).trans (congrArg (Sum.elim id (fun z14 => T_is_r14 )) e14)) rfl dX2_is_54
  · refine gx_bipush (z := (-2)) X dX2_is_9 (by decide) ?_
    exact gx_iret hR (if_pos hc6) rfl dX2_is_11
def T_rows_l4 (S : TS) : Nat → Int → Int → Int
  | 0, v1, v2 => v1
  | fu + 1, v1, v2 => if (S.1 1) ≤ v2 then v1 else (fun (m23 : Int) => T_rows_l4 S fu m23 (v2 + 1)) (if (T_shownAhead S v2) = 0 then (v1 + 1) else v1)
theorem T_rows_l4_s (S : TS) (fu : Nat) (v1 : Int) (v2 : Int) : T_rows_l4 S (fu + 1) v1 v2 = (if (S.1 1) ≤ v2 then v1 else (fun (m23 : Int) => T_rows_l4 S fu m23 (v2 + 1)) (if (T_shownAhead S v2) = 0 then (v1 + 1) else v1)) := rfl
def T_rows (S : TS) : Int := (T_rows_l4 S (61) 0 0)
set_option maxRecDepth 100000 in
theorem c_T_rows {l : Launch} {K : KK} {N : Int} (u r : Nat → Nat) (ca : Nat → Nat → Nat) (S : TS) (hI : InvTC N S) : CtI l yX2_rows cX2_rows 3 .int (4, 89) K [.ref (u 0)] (wT K u r ca S) (T_rows S) (wT K u r ca S) := by
  refine ctI_of (by decide) (Nat.le_of_ble_eq_true rfl) rfl ?_
  intro x X hD hR
  have hD : ∀ S9 : TS, va_D (cx_A x) (wT K u r ca S9) := fun S9 => va_D_same hD rfl
  have hs0 := InvTC_s0 hI
  have hs1 := InvTC_s1 hI
  have hs2 := InvTC_s2 hI
  have hs3 := InvTC_s3 hI
  refine gx_iconst (z := 0) X dX2_rows_0 rfl ?_
  refine gx_istore_n X dX2_rows_1 rfl (by decide) rfl ?_
  refine gx_iconst (z := 0) X dX2_rows_2 rfl ?_
  refine gx_istore_n X dX2_rows_3 rfl (by decide) rfl ?_
  have L4 : ∀ (fu : Nat) (v1 : Int) (v2 : Int), (0 ≤ v2) → (v2 ≤ (S.1 1)) → ((S.1 1) - v2) < (fu : Int) → (∀ z4 : Int, T_rows_l4 S fu v1 v2 = z4 → True → GG l (rmK (4, 89)) K x (wT K u r ca S) 29 [(0, .ref (u 0)), (1, .int (iI z4))] []) → GG l (rmK (4, 89)) K x (wT K u r ca S) 4 [(0, .ref (u 0)), (1, .int (iI v1)), (2, .int (iI v2))] [] := by
    intro fu
    induction fu with
    | zero => intro v1 v2 hi4_0 hi4_1 hm4 K4; exact absurd hm4 (by omega)
    | succ fu ih =>
      intro v1 v2 hi4_0 hi4_1 hm4 K4
      refine gx_iload_n X dX2_rows_4 rfl 2 rfl ?_
      refine gx_aload_n X dX2_rows_5 rfl 0 rfl ?_
      refine gT_g1 (v := (S.1 1)) X rfl dX2_rows_6 ?_
      refine gx_icmp_ge (tgt := 29) X dX2_rows_9 (by decide) (by omega) (fun hc9 => ?_) (fun hc9 => ?_)
      · refine gx_sub [0, 1] rfl ?_
        exact K4 v1 ((T_rows_l4_s S fu v1 v2).trans (if_pos hc9)) trivial
      · refine gx_aload_n X dX2_rows_12 rfl 0 rfl ?_
        refine gx_iload_n X dX2_rows_13 rfl 2 rfl ?_
        refine gx_callVI (As := [.int (iI v2)]) (rest := []) X (hD _) lk_T_130 (ci := 2) rfl rfl 0 rfl (c_T_shownAhead u r ca S v2 hI (by omega)) jn_all rfl ⟨by decide, by decide⟩ (Nat.le_of_ble_eq_true rfl) dX2_rows_14 ?_
        have hq14_0 := T_shownAhead_01 S v2
        have J23 : ∀ (m23 : Int), m23 = (if (T_shownAhead S v2) = 0 then (v1 + 1) else v1) → GG l (rmK (4, 89)) K x (wT K u r ca S) 23 [(0, .ref (u 0)), (1, .int (iI m23)), (2, .int (iI v2))] [] := by
          intro m23 e_m23
          refine gx_iinc X dX2_rows_23 2 rfl (by decide) rfl ?_
          refine gx_goto (tgt := 4) X dX2_rows_26 (by decide) ?_
          refine gx_sub [1, 2, 0] rfl ?_
          subst e_m23
          exact ih _ _ (by omega) (by omega) (by omega) (fun z e hx => K4 z ((T_rows_l4_s S fu v1 v2).trans ((if_neg hc9).trans e)) hx)
        refine gx_if_ne (tgt := 23) X dX2_rows_17 (by decide) (by omega) (fun hc17 => ?_) (fun hc17 => ?_)
        · refine gx_sub [0, 1, 2] rfl ?_
          exact J23 v1 ((if_neg hc17).symm) 
        · refine gx_iinc X dX2_rows_20 1 rfl (by decide) rfl ?_
          refine gx_sub [1, 0, 2] rfl ?_
          exact J23 (v1 + 1) ((if_pos hc17).symm) 
  refine gx_sub [2, 1, 0] rfl ?_
  refine L4 (61) 0 0 (by omega) (by omega) (by omega) (fun z4 e4 hx4 => ?_)
  refine gx_iload_n X dX2_rows_29 rfl 1 rfl ?_
  exact gx_iret hR (e4) rfl dX2_rows_30
def T_worst_l4 (S : TS) : Nat → Int → Int → Int
  | 0, v2, v3 => v2
  | fu + 1, v2, v3 => if (S.1 0) ≤ v3 then v2 else (fun (m41 : Int) => T_worst_l4 S fu m41 (v3 + 1)) (if (J_abs ((S.2.2.2 v3).1 2)) ≤ (J_abs ((S.2.2.2 v2).1 2)) then v2 else v3)
theorem T_worst_l4_s (S : TS) (fu : Nat) (v2 : Int) (v3 : Int) : T_worst_l4 S (fu + 1) v2 v3 = (if (S.1 0) ≤ v3 then v2 else (fun (m41 : Int) => T_worst_l4 S fu m41 (v3 + 1)) (if (J_abs ((S.2.2.2 v3).1 2)) ≤ (J_abs ((S.2.2.2 v2).1 2)) then v2 else v3)) := rfl
def T_worst_r4 (S : TS) (b : Int) (z4 : Int) : Int := if b = 0 then (J_abs ((S.2.2.2 z4).1 2)) else z4
def T_worst (S : TS) (b : Int) : Int := (fun z4 => T_worst_r4 S b z4) (T_worst_l4 S (17) 0 1)
set_option maxRecDepth 100000 in
theorem c_T_worst {l : Launch} {K : KK} {N : Int} (u r : Nat → Nat) (ca : Nat → Nat → Nat) (S : TS) (b : Int) (hI : InvTC N S) (hT : InvTCT S) (hp2 : ok32 b) : CtI l yX2_worst cX2_worst 4 .int (1, 20) K [.ref (u 0), .int (iI b)] (wT K u r ca S) (T_worst S b) (wT K u r ca S) := by
  refine ctI_of (by decide) (Nat.le_of_ble_eq_true rfl) rfl ?_
  intro x X hD hR
  have hD : ∀ S9 : TS, va_D (cx_A x) (wT K u r ca S9) := fun S9 => va_D_same hD rfl
  have hs0 := InvTC_s0 hI
  have hs1 := InvTC_s1 hI
  have hs2 := InvTC_s2 hI
  have hs3 := InvTC_s3 hI
  refine gx_iconst (z := 0) X dX2_worst_0 rfl ?_
  refine gx_istore_n X dX2_worst_1 rfl (by decide) rfl ?_
  refine gx_iconst (z := 1) X dX2_worst_2 rfl ?_
  refine gx_istore_n X dX2_worst_3 rfl (by decide) rfl ?_
  have L4 : ∀ (fu : Nat) (v2 : Int) (v3 : Int), (1 ≤ v3) → (v3 ≤ 16) → (0 ≤ v2 ∧ v2 < 16) → (16 - v3) < (fu : Int) → (∀ z4 : Int, T_worst_l4 S fu v2 v3 = z4 → (0 ≤ z4 ∧ z4 < 16) → GG l (rmK (1, 20)) K x (wT K u r ca S) 47 [(0, .ref (u 0)), (1, .int (iI b)), (2, .int (iI z4))] []) → GG l (rmK (1, 20)) K x (wT K u r ca S) 4 [(0, .ref (u 0)), (1, .int (iI b)), (2, .int (iI v2)), (3, .int (iI v3))] [] := by
    intro fu
    induction fu with
    | zero => intro v2 v3 hi4_0 hi4_1 hi4_2 hm4 K4; exact absurd hm4 (by omega)
    | succ fu ih =>
      intro v2 v3 hi4_0 hi4_1 hi4_2 hm4 K4
      refine gx_iload_n X dX2_worst_4 rfl 3 rfl ?_
      refine gx_aload_n X dX2_worst_5 rfl 0 rfl ?_
      refine gT_g0 (v := (S.1 0)) X rfl dX2_worst_6 ?_
      refine gx_icmp_ge (tgt := 47) X dX2_worst_9 (by decide) (by omega) (fun hc9 => ?_) (fun hc9 => ?_)
      · refine gx_sub [0, 1, 2] rfl ?_
        exact K4 v2 ((T_worst_l4_s S fu v2 v3).trans (if_pos hc9)) (by omega)
      · refine gx_aload_n X dX2_worst_12 rfl 0 rfl ?_
        refine gT_band X dX2_worst_13 ?_
        refine gx_iload_n X dX2_worst_16 rfl 3 rfl ?_
        refine gT_card X (by omega) dX2_worst_17 ?_
        refine gT_cg2 (v := ((S.2.2.2 v3).1 2)) X (by omega) rfl dX2_worst_18 ?_
        have hg18 := InvC_s2 (hT v3)
        refine gx_callSI (As := [.int (iI ((S.2.2.2 v3).1 2))]) (rest := []) X (hD _) lk_T_133 (c_J_abs ((S.2.2.2 v3).1 2) (by omega)) jn_nil rfl ⟨by decide, by decide⟩ (Nat.le_of_ble_eq_true rfl) dX2_worst_21 ?_
        have hq21_0 := J_abs_sp ((S.2.2.2 v3).1 2)
        refine gx_aload_n X dX2_worst_24 rfl 0 rfl ?_
        refine gT_band X dX2_worst_25 ?_
        refine gx_iload_n X dX2_worst_28 rfl 2 rfl ?_
        refine gT_card X (by omega) dX2_worst_29 ?_
        refine gT_cg2 (v := ((S.2.2.2 v2).1 2)) X (by omega) rfl dX2_worst_30 ?_
        have hg30 := InvC_s2 (hT v2)
        refine gx_callSI (As := [.int (iI ((S.2.2.2 v2).1 2))]) (rest := [.int (iI (J_abs ((S.2.2.2 v3).1 2)))]) X (hD _) lk_T_133 (c_J_abs ((S.2.2.2 v2).1 2) (by omega)) jn_nil rfl ⟨by decide, by decide⟩ (Nat.le_of_ble_eq_true rfl) dX2_worst_33 ?_
        have hq33_0 := J_abs_sp ((S.2.2.2 v2).1 2)
        have J41 : ∀ (m41 : Int), m41 = (if (J_abs ((S.2.2.2 v3).1 2)) ≤ (J_abs ((S.2.2.2 v2).1 2)) then v2 else v3) → GG l (rmK (1, 20)) K x (wT K u r ca S) 41 [(0, .ref (u 0)), (1, .int (iI b)), (2, .int (iI m41)), (3, .int (iI v3))] [] := by
          intro m41 e_m41
          refine gx_iinc X dX2_worst_41 3 rfl (by decide) rfl ?_
          refine gx_goto (tgt := 4) X dX2_worst_44 (by decide) ?_
          refine gx_sub [1, 2, 3, 0] rfl ?_
          subst e_m41
          exact ih _ _ (by omega) (by omega) (by omega) (by omega) (fun z e hx => K4 z ((T_worst_l4_s S fu v2 v3).trans ((if_neg hc9).trans e)) hx)
        refine gx_icmp_le (tgt := 41) X dX2_worst_36 (by decide) (by omega) (fun hc36 => ?_) (fun hc36 => ?_)
        · refine gx_sub [0, 1, 2, 3] rfl ?_
          exact J41 v2 ((if_pos hc36).symm) 
        · refine gx_iload_n X dX2_worst_39 rfl 3 rfl ?_
          refine gx_istore_n X dX2_worst_40 rfl (by decide) rfl ?_
          refine gx_sub [1, 2, 0, 3] rfl ?_
          exact J41 v3 ((if_neg hc36).symm) 
  refine gx_sub [2, 3, 1, 0] rfl ?_
  refine L4 (17) 0 1 (by omega) (by omega) (by omega) (by omega) (fun z4 e4 hx4 => ?_)
  refine gx_iload_n X dX2_worst_47 rfl 1 rfl ?_
  have J67 : ∀ (m67 : Int), m67 = (if b = 0 then (J_abs ((S.2.2.2 z4).1 2)) else z4) → GG l (rmK (1, 20)) K x (wT K u r ca S) 67 [(0, .ref (u 0)), (1, .int (iI b)), (2, .int (iI z4))] [.int (iI m67)] := by
    intro m67 e_m67
    exact gx_iret hR ((congrArg (fun z4 => T_worst_r4 S b z4) e4).trans (e_m67.symm)) rfl dX2_worst_67
  refine gx_if_eq (tgt := 55) X dX2_worst_48 (by decide) (by omega) (fun hc48 => ?_) (fun hc48 => ?_)
  · refine gx_aload_n X dX2_worst_55 rfl 0 rfl ?_
    refine gT_band X dX2_worst_56 ?_
    refine gx_iload_n X dX2_worst_59 rfl 2 rfl ?_
    refine gT_card X (by omega) dX2_worst_60 ?_
    refine gT_cg2 (v := ((S.2.2.2 z4).1 2)) X (by omega) rfl dX2_worst_61 ?_
    have hg61 := InvC_s2 (hT z4)
    refine gx_callSI (As := [.int (iI ((S.2.2.2 z4).1 2))]) (rest := []) X (hD _) lk_T_133 (c_J_abs ((S.2.2.2 z4).1 2) (by omega)) jn_nil rfl ⟨by decide, by decide⟩ (Nat.le_of_ble_eq_true rfl) dX2_worst_64 ?_
    have hq64_0 := J_abs_sp ((S.2.2.2 z4).1 2)
    refine gx_sub [0, 1, 2] rfl ?_
    exact J67 (J_abs ((S.2.2.2 z4).1 2)) ((if_pos hc48).symm) 
  · refine gx_iload_n X dX2_worst_51 rfl 2 rfl ?_
    refine gx_goto (tgt := 67) X dX2_worst_52 (by decide) ?_
    refine gx_sub [0, 1, 2] rfl ?_
    exact J67 z4 ((if_neg hc48).symm) 
def T_evensOut_l3 (S : TS) (p : Int) (t : Int) (m : Int) : Nat → Int → (Int) ⊕ (Unit)
  | 0, v4 => .inr ()
  | fu + 1, v4 => if (S.1 0) ≤ v4 then .inr () else if ((S.2.2.2 v4).1 1) = p then if (J_abs (((S.2.2.2 v4).1 2) + (t * (C_sense (S.2.2.2 v4))))) ≤ m then T_evensOut_l3 S p t m fu (v4 + 1) else .inl 0 else T_evensOut_l3 S p t m fu (v4 + 1)
theorem T_evensOut_l3_s (S : TS) (p : Int) (t : Int) (m : Int) (fu : Nat) (v4 : Int) : T_evensOut_l3 S p t m (fu + 1) v4 = (if (S.1 0) ≤ v4 then .inr () else if ((S.2.2.2 v4).1 1) = p then if (J_abs (((S.2.2.2 v4).1 2) + (t * (C_sense (S.2.2.2 v4))))) ≤ m then T_evensOut_l3 S p t m fu (v4 + 1) else .inl 0 else T_evensOut_l3 S p t m fu (v4 + 1)) := rfl
def T_evensOut_r3  : Int := 1
def T_evensOut (S : TS) (p : Int) (t : Int) (m : Int) : Int := Sum.elim id (fun z3 => T_evensOut_r3 ) (T_evensOut_l3 S p t m (17) 0)
theorem T_evensOut_l3_rg (S : TS) (p t m : Int) : ∀ (n : Nat) (w : Int), T_evensOut_l3 S p t m n w = .inl 0 ∨ T_evensOut_l3 S p t m n w = .inr () := by
  intro n
  induction n with
  | zero => intro w; exact Or.inr rfl
  | succ n ih =>
    intro w
    rw [T_evensOut_l3_s]
    repeat' split
    all_goals first | exact Or.inr rfl | exact Or.inl rfl | exact ih _
theorem T_evensOut_01 (S : TS) (p t m : Int) : T_evensOut S p t m = 0 ∨ T_evensOut S p t m = 1 := by
  rcases T_evensOut_l3_rg S p t m 17 0 with h | h
  · exact Or.inl (congrArg (Sum.elim id _) h)
  · exact Or.inr (congrArg (Sum.elim id _) h)
set_option maxRecDepth 100000 in
theorem c_T_evensOut {l : Launch} {K : KK} {N : Int} (u r : Nat → Nat) (ca : Nat → Nat → Nat) (S : TS) (p : Int) (t : Int) (m : Int) (hI : InvTC N S) (hT : InvTCT S) (hp2 : ok32 p) (hp3 : -60 ≤ t ∧ t ≤ 60) (hp4 : ok32 m) : CtI l yX2_evensOut cX2_evensOut 6 .boolean (1, 20) K [.ref (u 0), .int (iI p), .int (iI t), .int (iI m)] (wT K u r ca S) (T_evensOut S p t m) (wT K u r ca S) := by
  refine ctI_of (by decide) (Nat.le_of_ble_eq_true rfl) (narrow_bool (T_evensOut_01 S p t m)) ?_
  intro x X hD hR
  have hD : ∀ S9 : TS, va_D (cx_A x) (wT K u r ca S9) := fun S9 => va_D_same hD rfl
  have hs0 := InvTC_s0 hI
  have hs1 := InvTC_s1 hI
  have hs2 := InvTC_s2 hI
  have hs3 := InvTC_s3 hI
  refine gx_iconst (z := 0) X dX2_evensOut_0 rfl ?_
  refine gx_istore X dX2_evensOut_1 (by decide) rfl ?_
  have L3 : ∀ (fu : Nat) (v4 : Int), (0 ≤ v4) → (v4 ≤ (S.1 0)) → ((S.1 0) - v4) < (fu : Int) → (∀ z3 : Unit, T_evensOut_l3 S p t m fu v4 = .inr z3 → True → GG l (rmK (1, 20)) K x (wT K u r ca S) 58 [(0, .ref (u 0)), (1, .int (iI p)), (2, .int (iI t)), (3, .int (iI m))] []) → (∀ zz : Int, T_evensOut_l3 S p t m fu v4 = .inl zz → T_evensOut S p t m = zz) → GG l (rmK (1, 20)) K x (wT K u r ca S) 3 [(0, .ref (u 0)), (1, .int (iI p)), (2, .int (iI t)), (3, .int (iI m)), (4, .int (iI v4))] [] := by
    intro fu
    induction fu with
    | zero => intro v4 hi3_0 hi3_1 hm3 K3 KR3; exact absurd hm3 (by omega)
    | succ fu ih =>
      intro v4 hi3_0 hi3_1 hm3 K3 KR3
      refine gx_iload X dX2_evensOut_3 4 rfl ?_
      refine gx_aload_n X dX2_evensOut_5 rfl 0 rfl ?_
      refine gT_g0 (v := (S.1 0)) X rfl dX2_evensOut_6 ?_
      refine gx_icmp_ge (tgt := 58) X dX2_evensOut_9 (by decide) (by omega) (fun hc9 => ?_) (fun hc9 => ?_)
      · refine gx_sub [0, 1, 2, 3] rfl ?_
        exact K3 () ((T_evensOut_l3_s S p t m fu v4).trans (if_pos hc9)) trivial
      · refine gx_aload_n X dX2_evensOut_12 rfl 0 rfl ?_
        refine gT_band X dX2_evensOut_13 ?_
        refine gx_iload X dX2_evensOut_16 4 rfl ?_
        refine gT_card X (by omega) dX2_evensOut_18 ?_
        refine gx_astore X dX2_evensOut_19 (by decide) rfl ?_
        refine gx_aload X dX2_evensOut_21 0 rfl ?_
        refine gT_cg1 (v := ((S.2.2.2 v4).1 1)) X (by omega) rfl dX2_evensOut_23 ?_
        have hg23 := InvC_s1 (InvTC_c hI v4)
        refine gx_iload_n X dX2_evensOut_26 rfl 2 rfl ?_
        refine gx_icmp_ne (tgt := 52) X dX2_evensOut_27 (by decide) (by omega) (fun hc27 => ?_) (fun hc27 => ?_)
        · refine gx_iinc X dX2_evensOut_52 5 rfl (by decide) rfl ?_
          refine gx_goto (tgt := 3) X dX2_evensOut_55 (by decide) ?_
          refine gx_sub [2, 3, 4, 5, 0] rfl ?_
          exact ih (v4 + 1) (by omega) (by omega) (by omega) (fun z e hx => K3 z ((T_evensOut_l3_s S p t m fu v4).trans (((if_neg hc9).trans (if_neg hc27)).trans e)) hx) (fun z e => KR3 z ((T_evensOut_l3_s S p t m fu v4).trans (((if_neg hc9).trans (if_neg hc27)).trans e)))
        · refine gx_aload X dX2_evensOut_30 0 rfl ?_
          refine gT_cg2 (v := ((S.2.2.2 v4).1 2)) X (by omega) rfl dX2_evensOut_32 ?_
          have hg32 := InvC_s2 (hT v4)
          refine gx_iload_n X dX2_evensOut_35 rfl 3 rfl ?_
          refine gx_aload X dX2_evensOut_36 0 rfl ?_
          refine gx_callVI (As := []) (rest := [.int (iI t), .int (iI ((S.2.2.2 v4).1 2))]) X (hD _) lk_T_209 (ci := 0) rfl rfl 0 rfl (c_C_sense (ca v4.toNat) (S.2.2.2 v4) (show 0 ≤ (S.2.2.2 v4).1 0 ∧ (S.2.2.2 v4).1 0 ≤ 1 from InvC_s0 (InvTC_c hI v4))) (jn_cdP K u r ca S (by omega) rfl (hD _)) rfl ⟨by decide, by decide⟩ (Nat.le_of_ble_eq_true rfl) dX2_evensOut_38 ?_
          have hq38_0 := C_sense_sp (S.2.2.2 v4)
          have hmul : t * C_sense (S.2.2.2 v4) = t ∨ t * C_sense (S.2.2.2 v4) = -t := by
            rcases C_sense_sp (S.2.2.2 v4) with h9 | h9
            · rw [h9.2]; omega
            · rw [h9.2]; omega
          refine gx_imul X dX2_evensOut_41 ?_
          refine gx_iadd X dX2_evensOut_42 ?_
          refine gx_callSI (As := [.int (iI (((S.2.2.2 v4).1 2) + (t * (C_sense (S.2.2.2 v4)))))]) (rest := []) X (hD _) lk_T_133 (c_J_abs (((S.2.2.2 v4).1 2) + (t * (C_sense (S.2.2.2 v4)))) (by omega)) jn_nil rfl ⟨by decide, by decide⟩ (Nat.le_of_ble_eq_true rfl) dX2_evensOut_43 ?_
          have hq43_0 := J_abs_sp (((S.2.2.2 v4).1 2) + (t * (C_sense (S.2.2.2 v4))))
          refine gx_iload_n X dX2_evensOut_46 rfl 4 rfl ?_
          refine gx_icmp_le (tgt := 52) X dX2_evensOut_47 (by decide) (by omega) (fun hc47 => ?_) (fun hc47 => ?_)
          · refine gx_iinc X dX2_evensOut_52 5 rfl (by decide) rfl ?_
            refine gx_goto (tgt := 3) X dX2_evensOut_55 (by decide) ?_
            refine gx_sub [2, 3, 4, 5, 0] rfl ?_
            exact ih (v4 + 1) (by omega) (by omega) (by omega) (fun z e hx => K3 z ((T_evensOut_l3_s S p t m fu v4).trans (((if_neg hc9).trans ((if_pos hc27).trans (if_pos hc47))).trans e)) hx) (fun z e => KR3 z ((T_evensOut_l3_s S p t m fu v4).trans (((if_neg hc9).trans ((if_pos hc27).trans (if_pos hc47))).trans e)))
          · refine gx_iconst (z := 0) X dX2_evensOut_50 rfl ?_
            exact gx_iret hR (KR3 0 ((T_evensOut_l3_s S p t m fu v4).trans ((if_neg hc9).trans ((if_pos hc27).trans (if_neg hc47))))) rfl dX2_evensOut_51
  refine gx_sub [1, 2, 3, 4, 0] rfl ?_
  refine L3 (17) 0 (by omega) (by omega) (by omega) (fun z3 e3 hx3 => ?_) (fun z e => congrArg (Sum.elim id (fun z3 => T_evensOut_r3 )) e)
  refine gx_iconst (z := 1) X dX2_evensOut_58 rfl ?_
  exact gx_iret hR (congrArg (Sum.elim id (fun z3 => T_evensOut_r3 )) e3) rfl dX2_evensOut_59
def T_goingOf_l2 (S : TS) (p : Int) (m : Int) : Nat → Int → (Int) ⊕ (Unit)
  | 0, v3 => .inr ()
  | fu + 1, v3 => if 60 < v3 then .inr () else if (T_evensOut S p v3 m) = 0 then if (T_evensOut S p (-v3) m) = 0 then T_goingOf_l2 S p m fu (v3 + 1) else .inl (-v3) else .inl v3
theorem T_goingOf_l2_s (S : TS) (p : Int) (m : Int) (fu : Nat) (v3 : Int) : T_goingOf_l2 S p m (fu + 1) v3 = (if 60 < v3 then .inr () else if (T_evensOut S p v3 m) = 0 then if (T_evensOut S p (-v3) m) = 0 then T_goingOf_l2 S p m fu (v3 + 1) else .inl (-v3) else .inl v3) := rfl
def T_goingOf_r2  : Int := (-99)
def T_goingOf (S : TS) (p : Int) (m : Int) : Int := Sum.elim id (fun z2 => T_goingOf_r2 ) (T_goingOf_l2 S p m (62) 0)
theorem T_goingOf_l2_rg (S : TS) (p m : Int) : ∀ (n : Nat) (v3 : Int), 0 ≤ v3 → v3 ≤ 61 → (∃ z, T_goingOf_l2 S p m n v3 = .inl z ∧ -60 ≤ z ∧ z ≤ 60) ∨ T_goingOf_l2 S p m n v3 = .inr () := by
  intro n
  induction n with
  | zero => intro v3 _ _; exact Or.inr rfl
  | succ n ih =>
    intro v3 h0 h1
    rw [T_goingOf_l2_s]
    split
    · exact Or.inr rfl
    · split
      · split
        · exact ih _ (by omega) (by omega)
        · exact Or.inl ⟨_, rfl, by omega, by omega⟩
      · exact Or.inl ⟨_, rfl, by omega, by omega⟩
theorem T_goingOf_rg (S : TS) (p m : Int) : -99 ≤ T_goingOf S p m ∧ T_goingOf S p m ≤ 60 := by
  rcases T_goingOf_l2_rg S p m 62 0 (by omega) (by omega) with ⟨z, h, h1, h2⟩ | h
  · have e : T_goingOf S p m = z := congrArg (Sum.elim id _) h
    omega
  · have e : T_goingOf S p m = -99 := congrArg (Sum.elim id _) h
    omega
set_option maxRecDepth 100000 in
theorem c_T_goingOf {l : Launch} {K : KK} {N : Int} (u r : Nat → Nat) (ca : Nat → Nat → Nat) (S : TS) (p : Int) (m : Int) (hI : InvTC N S) (hT : InvTCT S) (hp2 : ok32 p) (hp3 : ok32 m) : CtI l yX2_goingOf cX2_goingOf 4 .int (2, 45) K [.ref (u 0), .int (iI p), .int (iI m)] (wT K u r ca S) (T_goingOf S p m) (wT K u r ca S) := by
  refine ctI_of (by decide) (Nat.le_of_ble_eq_true rfl) rfl ?_
  intro x X hD hR
  have hD : ∀ S9 : TS, va_D (cx_A x) (wT K u r ca S9) := fun S9 => va_D_same hD rfl
  have hs0 := InvTC_s0 hI
  have hs1 := InvTC_s1 hI
  have hs2 := InvTC_s2 hI
  have hs3 := InvTC_s3 hI
  refine gx_iconst (z := 0) X dX2_goingOf_0 rfl ?_
  refine gx_istore_n X dX2_goingOf_1 rfl (by decide) rfl ?_
  have L2 : ∀ (fu : Nat) (v3 : Int), (0 ≤ v3) → (v3 ≤ 61) → (61 - v3) < (fu : Int) → (∀ z2 : Unit, T_goingOf_l2 S p m fu v3 = .inr z2 → True → GG l (rmK (2, 45)) K x (wT K u r ca S) 40 [(0, .ref (u 0)), (1, .int (iI p)), (2, .int (iI m))] []) → (∀ zz : Int, T_goingOf_l2 S p m fu v3 = .inl zz → T_goingOf S p m = zz) → GG l (rmK (2, 45)) K x (wT K u r ca S) 2 [(0, .ref (u 0)), (1, .int (iI p)), (2, .int (iI m)), (3, .int (iI v3))] [] := by
    intro fu
    induction fu with
    | zero => intro v3 hi2_0 hi2_1 hm2 K2 KR2; exact absurd hm2 (by omega)
    | succ fu ih =>
      intro v3 hi2_0 hi2_1 hm2 K2 KR2
      refine gx_iload_n X dX2_goingOf_2 rfl 3 rfl ?_
      refine gx_bipush (z := 60) X dX2_goingOf_3 (by decide) ?_
      refine gx_icmp_gt (tgt := 40) X dX2_goingOf_5 (by decide) (by omega) (fun hc5 => ?_) (fun hc5 => ?_)
      · refine gx_sub [0, 1, 2] rfl ?_
        exact K2 () ((T_goingOf_l2_s S p m fu v3).trans (if_pos hc5)) trivial
      · refine gx_aload_n X dX2_goingOf_8 rfl 0 rfl ?_
        refine gx_iload_n X dX2_goingOf_9 rfl 1 rfl ?_
        refine gx_iload_n X dX2_goingOf_10 rfl 3 rfl ?_
        refine gx_iload_n X dX2_goingOf_11 rfl 2 rfl ?_
        refine gx_callVI (As := [.int (iI p), .int (iI v3), .int (iI m)]) (rest := []) X (hD _) lk_T_206 (ci := 2) rfl rfl 0 rfl (c_T_evensOut u r ca S p v3 m hI hT (by omega) (by omega) (by omega)) jn_all rfl ⟨by decide, by decide⟩ (Nat.le_of_ble_eq_true rfl) dX2_goingOf_12 ?_
        have hq12_0 := T_evensOut_01 S p v3 m
        refine gx_if_eq (tgt := 20) X dX2_goingOf_15 (by decide) (by omega) (fun hc15 => ?_) (fun hc15 => ?_)
        · refine gx_aload_n X dX2_goingOf_20 rfl 0 rfl ?_
          refine gx_iload_n X dX2_goingOf_21 rfl 1 rfl ?_
          refine gx_iload_n X dX2_goingOf_22 rfl 3 rfl ?_
          refine gx_ineg X dX2_goingOf_23 ?_
          refine gx_iload_n X dX2_goingOf_24 rfl 2 rfl ?_
          refine gx_callVI (As := [.int (iI p), .int (iI (-v3)), .int (iI m)]) (rest := []) X (hD _) lk_T_206 (ci := 2) rfl rfl 0 rfl (c_T_evensOut u r ca S p (-v3) m hI hT (by omega) (by omega) (by omega)) jn_all rfl ⟨by decide, by decide⟩ (Nat.le_of_ble_eq_true rfl) dX2_goingOf_25 ?_
          have hq25_0 := T_evensOut_01 S p (-v3) m
          refine gx_if_eq (tgt := 34) X dX2_goingOf_28 (by decide) (by omega) (fun hc28 => ?_) (fun hc28 => ?_)
          · refine gx_iinc X dX2_goingOf_34 3 rfl (by decide) rfl ?_
            refine gx_goto (tgt := 2) X dX2_goingOf_37 (by decide) ?_
            refine gx_sub [1, 2, 3, 0] rfl ?_
            exact ih (v3 + 1) (by omega) (by omega) (by omega) (fun z e hx => K2 z ((T_goingOf_l2_s S p m fu v3).trans (((if_neg hc5).trans ((if_pos hc15).trans (if_pos hc28))).trans e)) hx) (fun z e => KR2 z ((T_goingOf_l2_s S p m fu v3).trans (((if_neg hc5).trans ((if_pos hc15).trans (if_pos hc28))).trans e)))
          · refine gx_iload_n X dX2_goingOf_31 rfl 3 rfl ?_
            refine gx_ineg X dX2_goingOf_32 ?_
            exact gx_iret hR (KR2 (-v3) ((T_goingOf_l2_s S p m fu v3).trans ((if_neg hc5).trans ((if_pos hc15).trans (if_neg hc28))))) rfl dX2_goingOf_33
        · refine gx_iload_n X dX2_goingOf_18 rfl 3 rfl ?_
          exact gx_iret hR (KR2 v3 ((T_goingOf_l2_s S p m fu v3).trans ((if_neg hc5).trans (if_neg hc15)))) rfl dX2_goingOf_19
  refine gx_sub [1, 2, 3, 0] rfl ?_
  refine L2 (62) 0 (by omega) (by omega) (by omega) (fun z2 e2 hx2 => ?_) (fun z e => congrArg (Sum.elim id (fun z2 => T_goingOf_r2 )) e)
  refine gx_bipush (z := (-99)) X dX2_goingOf_40 (by decide) ?_
  exact gx_iret hR (congrArg (Sum.elim id (fun z2 => T_goingOf_r2 )) e2) rfl dX2_goingOf_42
def T_going (S : TS) (p : Int) (m : Int) : Int := if (T_isPack p) = 0 then (-1) else if (T_within m 0 60) = 0 then (-2) else (T_goingOf S p m)
set_option maxRecDepth 100000 in
theorem c_T_going {l : Launch} {K : KK} {N : Int} (u r : Nat → Nat) (ca : Nat → Nat → Nat) (S : TS) (p : Int) (m : Int) (hI : InvTC N S) (hT : InvTCT S) (hp2 : ok32 p) (hp3 : ok32 m) : CtI l yX2_going cX2_going 3 .int (3, 68) K [.ref (u 0), .int (iI p), .int (iI m)] (wT K u r ca S) (T_going S p m) (wT K u r ca S) := by
  refine ctI_of (by decide) (Nat.le_of_ble_eq_true rfl) rfl ?_
  intro x X hD hR
  have hD : ∀ S9 : TS, va_D (cx_A x) (wT K u r ca S9) := fun S9 => va_D_same hD rfl
  have hs0 := InvTC_s0 hI
  have hs1 := InvTC_s1 hI
  have hs2 := InvTC_s2 hI
  have hs3 := InvTC_s3 hI
  refine gx_iload_n X dX2_going_0 rfl 1 rfl ?_
  refine gx_callSI (As := [.int (iI p)]) (rest := []) X (hD _) lk_T_68 (c_T_isPack p (by omega)) jn_nil rfl ⟨by decide, by decide⟩ (Nat.le_of_ble_eq_true rfl) dX2_going_1 ?_
  have hq1_0 := T_isPack_sp p
  refine gx_if_ne (tgt := 9) X dX2_going_4 (by decide) (by omega) (fun hc4 => ?_) (fun hc4 => ?_)
  · refine gx_iload_n X dX2_going_9 rfl 2 rfl ?_
    refine gx_iconst (z := 0) X dX2_going_10 rfl ?_
    refine gx_bipush (z := 60) X dX2_going_11 (by decide) ?_
    refine gx_callSI (As := [.int (iI m), .int (iI 0), .int (iI 60)]) (rest := []) X (hD _) lk_T_31 (c_T_within m 0 60 (by omega) (by omega) (by omega)) jn_nil rfl ⟨by decide, by decide⟩ (Nat.le_of_ble_eq_true rfl) dX2_going_13 ?_
    have hq13_0 := T_within_sp m 0 60
    refine gx_if_ne (tgt := 22) X dX2_going_16 (by decide) (by omega) (fun hc16 => ?_) (fun hc16 => ?_)
    · refine gx_aload_n X dX2_going_22 rfl 0 rfl ?_
      refine gx_iload_n X dX2_going_23 rfl 1 rfl ?_
      refine gx_iload_n X dX2_going_24 rfl 2 rfl ?_
      refine gx_callVI (As := [.int (iI p), .int (iI m)]) (rest := []) X (hD _) lk_T_138 (ci := 2) rfl rfl 0 rfl (c_T_goingOf u r ca S p m hI hT (by omega) (by omega)) jn_all rfl ⟨by decide, by decide⟩ (Nat.le_of_ble_eq_true rfl) dX2_going_25 ?_
      have hq25_0 := T_goingOf_rg S p m
      exact gx_iret hR ((if_neg hc4).trans (if_neg hc16)) rfl dX2_going_28
    · refine gx_bipush (z := (-2)) X dX2_going_19 (by decide) ?_
      exact gx_iret hR ((if_neg hc4).trans (if_pos hc16)) rfl dX2_going_21
  · refine gx_iconst (z := (-1)) X dX2_going_7 rfl ?_
    exact gx_iret hR (if_pos hc4) rfl dX2_going_8
def T_evens_l17 (S : TS) (m : Int) : Nat → Int → Int → (Int) ⊕ (Int)
  | 0, v2, v3 => .inr v2
  | fu + 1, v2, v3 => if 4 ≤ v3 then .inr v2 else if (T_goingOf S v3 m) = (-99) then .inl (-99) else T_evens_l17 S m fu (J_max v2 (J_abs (T_goingOf S v3 m))) (v3 + 1)
theorem T_evens_l17_s (S : TS) (m : Int) (fu : Nat) (v2 : Int) (v3 : Int) : T_evens_l17 S m (fu + 1) v2 v3 = (if 4 ≤ v3 then .inr v2 else if (T_goingOf S v3 m) = (-99) then .inl (-99) else T_evens_l17 S m fu (J_max v2 (J_abs (T_goingOf S v3 m))) (v3 + 1)) := rfl
def T_evens_r17 (z17 : Int) : Int := z17
def T_evens (S : TS) (m : Int) : Int := if (T_within m 0 60) = 0 then (-2) else Sum.elim id (fun z17 => T_evens_r17 z17) (T_evens_l17 S m (5) 0 0)
set_option maxRecDepth 100000 in
theorem c_T_evens {l : Launch} {K : KK} {N : Int} (u r : Nat → Nat) (ca : Nat → Nat → Nat) (S : TS) (m : Int) (hI : InvTC N S) (hT : InvTCT S) (hp2 : ok32 m) : CtI l yX2_evens cX2_evens 5 .int (3, 68) K [.ref (u 0), .int (iI m)] (wT K u r ca S) (T_evens S m) (wT K u r ca S) := by
  refine ctI_of (by decide) (Nat.le_of_ble_eq_true rfl) rfl ?_
  intro x X hD hR
  have hD : ∀ S9 : TS, va_D (cx_A x) (wT K u r ca S9) := fun S9 => va_D_same hD rfl
  have hs0 := InvTC_s0 hI
  have hs1 := InvTC_s1 hI
  have hs2 := InvTC_s2 hI
  have hs3 := InvTC_s3 hI
  refine gx_iload_n X dX2_evens_0 rfl 1 rfl ?_
  refine gx_iconst (z := 0) X dX2_evens_1 rfl ?_
  refine gx_bipush (z := 60) X dX2_evens_2 (by decide) ?_
  refine gx_callSI (As := [.int (iI m), .int (iI 0), .int (iI 60)]) (rest := []) X (hD _) lk_T_31 (c_T_within m 0 60 (by omega) (by omega) (by omega)) jn_nil rfl ⟨by decide, by decide⟩ (Nat.le_of_ble_eq_true rfl) dX2_evens_4 ?_
  have hq4_0 := T_within_sp m 0 60
  refine gx_if_ne (tgt := 13) X dX2_evens_7 (by decide) (by omega) (fun hc7 => ?_) (fun hc7 => ?_)
  · refine gx_iconst (z := 0) X dX2_evens_13 rfl ?_
    refine gx_istore_n X dX2_evens_14 rfl (by decide) rfl ?_
    refine gx_iconst (z := 0) X dX2_evens_15 rfl ?_
    refine gx_istore_n X dX2_evens_16 rfl (by decide) rfl ?_
    have L17 : ∀ (fu : Nat) (v2 : Int) (v3 : Int), (0 ≤ v3) → (v3 ≤ 4) → (0 ≤ v2 ∧ v2 ≤ 1000) → (4 - v3) < (fu : Int) → (∀ z17 : Int, T_evens_l17 S m fu v2 v3 = .inr z17 → True → GG l (rmK (3, 68)) K x (wT K u r ca S) 56 [(0, .ref (u 0)), (1, .int (iI m)), (2, .int (iI z17))] []) → (∀ zz : Int, T_evens_l17 S m fu v2 v3 = .inl zz → T_evens S m = zz) → GG l (rmK (3, 68)) K x (wT K u r ca S) 17 [(0, .ref (u 0)), (1, .int (iI m)), (2, .int (iI v2)), (3, .int (iI v3))] [] := by
      intro fu
      induction fu with
      | zero => intro v2 v3 hi17_0 hi17_1 hi17_2 hm17 K17 KR17; exact absurd hm17 (by omega)
      | succ fu ih =>
        intro v2 v3 hi17_0 hi17_1 hi17_2 hm17 K17 KR17
        refine gx_iload_n X dX2_evens_17 rfl 3 rfl ?_
        refine gx_iconst (z := 4) X dX2_evens_18 rfl ?_
        refine gx_icmp_ge (tgt := 56) X dX2_evens_19 (by decide) (by omega) (fun hc19 => ?_) (fun hc19 => ?_)
        · refine gx_sub [0, 1, 2] rfl ?_
          exact K17 v2 ((T_evens_l17_s S m fu v2 v3).trans (if_pos hc19)) trivial
        · refine gx_aload_n X dX2_evens_22 rfl 0 rfl ?_
          refine gx_iload_n X dX2_evens_23 rfl 3 rfl ?_
          refine gx_iload_n X dX2_evens_24 rfl 1 rfl ?_
          refine gx_callVI (As := [.int (iI v3), .int (iI m)]) (rest := []) X (hD _) lk_T_138 (ci := 2) rfl rfl 0 rfl (c_T_goingOf u r ca S v3 m hI hT (by omega) (by omega)) jn_all rfl ⟨by decide, by decide⟩ (Nat.le_of_ble_eq_true rfl) dX2_evens_25 ?_
          have hq25_0 := T_goingOf_rg S v3 m
          refine gx_istore X dX2_evens_28 (by decide) rfl ?_
          refine gx_iload X dX2_evens_30 0 rfl ?_
          refine gx_bipush (z := (-99)) X dX2_evens_32 (by decide) ?_
          refine gx_icmp_ne (tgt := 40) X dX2_evens_34 (by decide) (by omega) (fun hc34 => ?_) (fun hc34 => ?_)
          · refine gx_iload_n X dX2_evens_40 rfl 3 rfl ?_
            refine gx_iload X dX2_evens_41 0 rfl ?_
            refine gx_callSI (As := [.int (iI (T_goingOf S v3 m))]) (rest := [.int (iI v2)]) X (hD _) lk_T_133 (c_J_abs (T_goingOf S v3 m) (by omega)) jn_nil rfl ⟨by decide, by decide⟩ (Nat.le_of_ble_eq_true rfl) dX2_evens_43 ?_
            have hq43_0 := J_abs_sp (T_goingOf S v3 m)
            refine gx_callSI (As := [.int (iI v2), .int (iI (J_abs (T_goingOf S v3 m)))]) (rest := []) X (hD _) lk_T_142 (c_J_max v2 (J_abs (T_goingOf S v3 m)) (by omega) (by omega)) jn_nil rfl ⟨by decide, by decide⟩ (Nat.le_of_ble_eq_true rfl) dX2_evens_46 ?_
            have hq46_0 := J_max_sp v2 (J_abs (T_goingOf S v3 m))
            refine gx_istore_n X dX2_evens_49 rfl (by decide) rfl ?_
            refine gx_iinc X dX2_evens_50 4 rfl (by decide) rfl ?_
            refine gx_goto (tgt := 17) X dX2_evens_53 (by decide) ?_
            refine gx_sub [3, 4, 1, 0] rfl ?_
            exact ih (J_max v2 (J_abs (T_goingOf S v3 m))) (v3 + 1) (by omega) (by omega) (by omega) (by omega) (fun z e hx => K17 z ((T_evens_l17_s S m fu v2 v3).trans (((if_neg hc19).trans (if_neg hc34)).trans e)) hx) (fun z e => KR17 z ((T_evens_l17_s S m fu v2 v3).trans (((if_neg hc19).trans (if_neg hc34)).trans e)))
          · refine gx_bipush (z := (-99)) X dX2_evens_37 (by decide) ?_
            exact gx_iret hR (KR17 (-99) ((T_evens_l17_s S m fu v2 v3).trans ((if_neg hc19).trans (if_pos hc34)))) rfl dX2_evens_39
    refine gx_sub [2, 3, 1, 0] rfl ?_
    refine L17 (5) 0 0 (by omega) (by omega) (by omega) (by omega) (fun z17 e17 hx17 => ?_) (fun z e => (if_neg hc7).trans (congrArg (Sum.elim id (fun z17 => T_evens_r17 z17)) e))
    refine gx_iload_n X dX2_evens_56 rfl 2 rfl ?_
    exact gx_iret hR ((if_neg hc7).trans (congrArg (Sum.elim id (fun z17 => T_evens_r17 z17)) e17)) rfl dX2_evens_57
  · refine gx_bipush (z := (-2)) X dX2_evens_10 (by decide) ?_
    exact gx_iret hR (if_pos hc7) rfl dX2_evens_12
def T_unlike_l14 (S : TS) (v2 : Int) : Nat → Int → Int → Int
  | 0, v1', v3 => v1'
  | fu + 1, v1', v3 => if (S.1 0) ≤ v3 then v1' else (fun (m49 : Int) => T_unlike_l14 S v2 fu m49 (v3 + 1)) (if (C_fits (S.2.2.2 v3) v2 ((S.2.2.2 v3).2 3 v2)) = 0 then (v1' + 1) else v1')
theorem T_unlike_l14_s (S : TS) (v2 : Int) (fu : Nat) (v1' : Int) (v3 : Int) : T_unlike_l14 S v2 (fu + 1) v1' v3 = (if (S.1 0) ≤ v3 then v1' else (fun (m49 : Int) => T_unlike_l14 S v2 fu m49 (v3 + 1)) (if (C_fits (S.2.2.2 v3) v2 ((S.2.2.2 v3).2 3 v2)) = 0 then (v1' + 1) else v1')) := rfl
def T_unlike_l4 (S : TS) : Nat → Int → Int → Int
  | 0, v1, v2 => v1
  | fu + 1, v1, v2 => if (T_wovenRows S) ≤ v2 then v1 else (fun (z14 : Int) => T_unlike_l4 S fu z14 (v2 + 1)) (T_unlike_l14 S v2 (17) v1 0)
theorem T_unlike_l4_s (S : TS) (fu : Nat) (v1 : Int) (v2 : Int) : T_unlike_l4 S (fu + 1) v1 v2 = (if (T_wovenRows S) ≤ v2 then v1 else (fun (z14 : Int) => T_unlike_l4 S fu z14 (v2 + 1)) (T_unlike_l14 S v2 (17) v1 0)) := rfl
def T_unlike (S : TS) : Int := (T_unlike_l4 S (31) 0 0)
set_option maxRecDepth 100000 in
theorem c_T_unlike {l : Launch} {K : KK} {N : Int} (u r : Nat → Nat) (ca : Nat → Nat → Nat) (S : TS) (hI : InvTC N S) : CtI l yX2_unlike cX2_unlike 4 .int (2, 41) K [.ref (u 0)] (wT K u r ca S) (T_unlike S) (wT K u r ca S) := by
  refine ctI_of (by decide) (Nat.le_of_ble_eq_true rfl) rfl ?_
  intro x X hD hR
  have hD : ∀ S9 : TS, va_D (cx_A x) (wT K u r ca S9) := fun S9 => va_D_same hD rfl
  have hs0 := InvTC_s0 hI
  have hs1 := InvTC_s1 hI
  have hs2 := InvTC_s2 hI
  have hs3 := InvTC_s3 hI
  have hw := T_wovenRows_sp S
  refine gx_iconst (z := 0) X dX2_unlike_0 rfl ?_
  refine gx_istore_n X dX2_unlike_1 rfl (by decide) rfl ?_
  refine gx_iconst (z := 0) X dX2_unlike_2 rfl ?_
  refine gx_istore_n X dX2_unlike_3 rfl (by decide) rfl ?_
  have L4 : ∀ (fu : Nat) (v1 : Int) (v2 : Int), (0 ≤ v2) → (v2 ≤ (T_wovenRows S)) → ((T_wovenRows S) - v2) < (fu : Int) → (∀ z4 : Int, T_unlike_l4 S fu v1 v2 = z4 → True → GG l (rmK (2, 41)) K x (wT K u r ca S) 61 [(0, .ref (u 0)), (1, .int (iI z4))] []) → GG l (rmK (2, 41)) K x (wT K u r ca S) 4 [(0, .ref (u 0)), (1, .int (iI v1)), (2, .int (iI v2))] [] := by
    intro fu
    induction fu with
    | zero => intro v1 v2 hi4_0 hi4_1 hm4 K4; exact absurd hm4 (by omega)
    | succ fu ih =>
      intro v1 v2 hi4_0 hi4_1 hm4 K4
      refine gx_iload_n X dX2_unlike_4 rfl 2 rfl ?_
      refine gx_aload_n X dX2_unlike_5 rfl 0 rfl ?_
      refine gx_callVI (As := []) (rest := [.int (iI v2)]) X (hD _) lk_T_157 (ci := 2) rfl rfl 0 rfl (c_T_wovenRows u r ca S  hI) jn_all rfl ⟨by decide, by decide⟩ (Nat.le_of_ble_eq_true rfl) dX2_unlike_6 ?_
      have hq6_0 := T_wovenRows_sp S 
      refine gx_icmp_ge (tgt := 61) X dX2_unlike_9 (by decide) (by omega) (fun hc9 => ?_) (fun hc9 => ?_)
      · refine gx_sub [0, 1] rfl ?_
        exact K4 v1 ((T_unlike_l4_s S fu v1 v2).trans (if_pos hc9)) trivial
      · refine gx_iconst (z := 0) X dX2_unlike_12 rfl ?_
        refine gx_istore_n X dX2_unlike_13 rfl (by decide) rfl ?_
        have L14 : ∀ (fu : Nat) (v1' : Int) (v3 : Int), (0 ≤ v3) → (v3 ≤ (S.1 0)) → ((S.1 0) - v3) < (fu : Int) → (∀ z14 : Int, T_unlike_l14 S v2 fu v1' v3 = z14 → True → GG l (rmK (2, 41)) K x (wT K u r ca S) 55 [(0, .ref (u 0)), (1, .int (iI z14)), (2, .int (iI v2))] []) → GG l (rmK (2, 41)) K x (wT K u r ca S) 14 [(0, .ref (u 0)), (1, .int (iI v1')), (2, .int (iI v2)), (3, .int (iI v3))] [] := by
          intro fu
          induction fu with
          | zero => intro v1' v3 hi14_0 hi14_1 hm14 K14; exact absurd hm14 (by omega)
          | succ fu ih =>
            intro v1' v3 hi14_0 hi14_1 hm14 K14
            refine gx_iload_n X dX2_unlike_14 rfl 3 rfl ?_
            refine gx_aload_n X dX2_unlike_15 rfl 0 rfl ?_
            refine gT_g0 (v := (S.1 0)) X rfl dX2_unlike_16 ?_
            refine gx_icmp_ge (tgt := 55) X dX2_unlike_19 (by decide) (by omega) (fun hc19 => ?_) (fun hc19 => ?_)
            · refine gx_sub [0, 1, 2] rfl ?_
              exact K14 v1' ((T_unlike_l14_s S v2 fu v1' v3).trans (if_pos hc19)) trivial
            · refine gx_aload_n X dX2_unlike_22 rfl 0 rfl ?_
              refine gT_band X dX2_unlike_23 ?_
              refine gx_iload_n X dX2_unlike_26 rfl 3 rfl ?_
              refine gT_card X (by omega) dX2_unlike_27 ?_
              refine gx_iload_n X dX2_unlike_28 rfl 2 rfl ?_
              refine gx_aload_n X dX2_unlike_29 rfl 0 rfl ?_
              refine gT_band X dX2_unlike_30 ?_
              refine gx_iload_n X dX2_unlike_33 rfl 3 rfl ?_
              refine gT_card X (by omega) dX2_unlike_34 ?_
              refine gT_cr3 X (by omega) dX2_unlike_35 ?_
              refine gx_iload_n X dX2_unlike_38 rfl 2 rfl ?_
              refine gT_cl3 (v := ((S.2.2.2 v3).2 3 v2)) X (by omega) (by omega) rfl dX2_unlike_39 ?_
              have hr39 := InvC_a3 (InvTC_c hI v3) v2
              refine gx_callVI (As := [.int (iI v2), .int (iI ((S.2.2.2 v3).2 3 v2))]) (rest := []) X (hD _) lk_T_164 (ci := 0) rfl rfl 0 rfl (c_C_fits (ca v3.toNat) (S.2.2.2 v3) v2 ((S.2.2.2 v3).2 3 v2) (InvTC_c hI v3) (by omega) (by omega)) (jn_cdP K u r ca S (by omega) rfl (hD _)) rfl ⟨by decide, by decide⟩ (Nat.le_of_ble_eq_true rfl) dX2_unlike_40 ?_
              have hq40_0 := C_fits_01 (S.2.2.2 v3) v2 ((S.2.2.2 v3).2 3 v2)
              have J49 : ∀ (m49 : Int), m49 = (if (C_fits (S.2.2.2 v3) v2 ((S.2.2.2 v3).2 3 v2)) = 0 then (v1' + 1) else v1') → GG l (rmK (2, 41)) K x (wT K u r ca S) 49 [(0, .ref (u 0)), (1, .int (iI m49)), (2, .int (iI v2)), (3, .int (iI v3))] [] := by
                intro m49 e_m49
                refine gx_iinc X dX2_unlike_49 3 rfl (by decide) rfl ?_
                refine gx_goto (tgt := 14) X dX2_unlike_52 (by decide) ?_
                refine gx_sub [1, 2, 3, 0] rfl ?_
                subst e_m49
                exact ih _ _ (by omega) (by omega) (by omega) (fun z e hx => K14 z ((T_unlike_l14_s S v2 fu v1' v3).trans ((if_neg hc19).trans e)) hx)
              refine gx_if_ne (tgt := 49) X dX2_unlike_43 (by decide) (by omega) (fun hc43 => ?_) (fun hc43 => ?_)
              · refine gx_sub [0, 1, 2, 3] rfl ?_
                exact J49 v1' ((if_neg hc43).symm) 
              · refine gx_iinc X dX2_unlike_46 1 rfl (by decide) rfl ?_
                refine gx_sub [1, 0, 2, 3] rfl ?_
                exact J49 (v1' + 1) ((if_pos hc43).symm) 
        refine gx_sub [1, 2, 3, 0] rfl ?_
        refine L14 (17) v1 0 (by omega) (by omega) (by omega) (fun z14 e14 hx14 => ?_)
        refine gx_iinc X dX2_unlike_55 2 rfl (by decide) rfl ?_
        refine gx_goto (tgt := 4) X dX2_unlike_58 (by decide) ?_
        refine gx_sub [1, 2, 0] rfl ?_
        subst e14
        exact ih _ _ (by omega) (by omega) (by omega) (fun z e hx => K4 z ((T_unlike_l4_s S fu v1 v2).trans ((if_neg hc9).trans e)) hx)
  refine gx_sub [2, 1, 0] rfl ?_
  refine L4 (31) 0 0 (by omega) (by omega) (by omega) (fun z4 e4 hx4 => ?_)
  refine gx_iload_n X dX2_unlike_61 rfl 1 rfl ?_
  exact gx_iret hR (e4) rfl dX2_unlike_62
def T_threading (S : TS) (c : Int) (t : Int) : Int := if (T_isCard S c) = 0 then (-1) else if (T_isThread t) = 0 then (-1) else if (C_quarrelRow (S.2.2.2 c) (T_wovenRows S)) = (-99) then (C_wantedOf (S.2.2.2 c) t (T_wovenRows S)) else (-3)
set_option maxRecDepth 100000 in
theorem c_T_threading {l : Launch} {K : KK} {N : Int} (u r : Nat → Nat) (ca : Nat → Nat → Nat) (S : TS) (c : Int) (t : Int) (hI : InvTC N S) (hp1 : ok32 c) (hp2 : ok32 t) : CtI l yX2_threading cX2_threading 3 .int (2, 46) K [.ref (u 0), .int (iI c), .int (iI t)] (wT K u r ca S) (T_threading S c t) (wT K u r ca S) := by
  refine ctI_of (by decide) (Nat.le_of_ble_eq_true rfl) rfl ?_
  intro x X hD hR
  have hD : ∀ S9 : TS, va_D (cx_A x) (wT K u r ca S9) := fun S9 => va_D_same hD rfl
  have hs0 := InvTC_s0 hI
  have hs1 := InvTC_s1 hI
  have hs2 := InvTC_s2 hI
  have hs3 := InvTC_s3 hI
  have hw := T_wovenRows_sp S
  refine gx_aload_n X dX2_threading_0 rfl 0 rfl ?_
  refine gx_iload_n X dX2_threading_1 rfl 1 rfl ?_
  refine gx_callVI (As := [.int (iI c)]) (rest := []) X (hD _) lk_T_39 (ci := 2) rfl rfl 0 rfl (c_T_isCard u r ca S c hI (by omega)) jn_all rfl ⟨by decide, by decide⟩ (Nat.le_of_ble_eq_true rfl) dX2_threading_2 ?_
  have hq2_0 := T_isCard_sp S c
  refine gx_if_eq (tgt := 15) X dX2_threading_5 (by decide) (by omega) (fun hc5 => ?_) (fun hc5 => ?_)
  · refine gx_iconst (z := (-1)) X dX2_threading_15 rfl ?_
    exact gx_iret hR (if_pos hc5) rfl dX2_threading_16
  · refine gx_iload_n X dX2_threading_8 rfl 2 rfl ?_
    refine gx_callSI (As := [.int (iI t)]) (rest := []) X (hD _) lk_T_43 (c_T_isThread t (by omega)) jn_nil rfl ⟨by decide, by decide⟩ (Nat.le_of_ble_eq_true rfl) dX2_threading_9 ?_
    have hq9_0 := T_isThread_sp t
    refine gx_if_ne (tgt := 17) X dX2_threading_12 (by decide) (by omega) (fun hc12 => ?_) (fun hc12 => ?_)
    · refine gx_aload_n X dX2_threading_17 rfl 0 rfl ?_
      refine gT_band X dX2_threading_18 ?_
      refine gx_iload_n X dX2_threading_21 rfl 1 rfl ?_
      refine gT_card X (by omega) dX2_threading_22 ?_
      refine gx_aload_n X dX2_threading_23 rfl 0 rfl ?_
      refine gx_callVI (As := []) (rest := [.ref (ca c.toNat 0)]) X (hD _) lk_T_157 (ci := 2) rfl rfl 0 rfl (c_T_wovenRows u r ca S  hI) jn_all rfl ⟨by decide, by decide⟩ (Nat.le_of_ble_eq_true rfl) dX2_threading_24 ?_
      have hq24_0 := T_wovenRows_sp S 
      refine gx_callVI (As := [.int (iI (T_wovenRows S))]) (rest := []) X (hD _) lk_T_181 (ci := 0) rfl rfl 0 rfl (c_C_quarrelRow (ca c.toNat) (S.2.2.2 c) (T_wovenRows S) (InvTC_c hI c) (by omega)) (jn_cdP K u r ca S (by omega) rfl (hD _)) rfl ⟨by decide, by decide⟩ (Nat.le_of_ble_eq_true rfl) dX2_threading_27 ?_
      have hp27_0 := C_quarrelRow_rg (S.2.2.2 c) (T_wovenRows S) (InvTC_c hI c) (by omega)
      refine gx_bipush (z := (-99)) X dX2_threading_30 (by decide) ?_
      refine gx_icmp_eq (tgt := 38) X dX2_threading_32 (by decide) (by omega) (fun hc32 => ?_) (fun hc32 => ?_)
      · refine gx_aload_n X dX2_threading_38 rfl 0 rfl ?_
        refine gT_band X dX2_threading_39 ?_
        refine gx_iload_n X dX2_threading_42 rfl 1 rfl ?_
        refine gT_card X (by omega) dX2_threading_43 ?_
        refine gx_iload_n X dX2_threading_44 rfl 2 rfl ?_
        refine gx_aload_n X dX2_threading_45 rfl 0 rfl ?_
        refine gx_callVI (As := []) (rest := [.int (iI t), .ref (ca c.toNat 0)]) X (hD _) lk_T_157 (ci := 2) rfl rfl 0 rfl (c_T_wovenRows u r ca S  hI) jn_all rfl ⟨by decide, by decide⟩ (Nat.le_of_ble_eq_true rfl) dX2_threading_46 ?_
        have hq46_0 := T_wovenRows_sp S 
        refine gx_callVI (As := [.int (iI t), .int (iI (T_wovenRows S))]) (rest := []) X (hD _) lk_T_184 (ci := 0) rfl rfl 0 rfl (c_C_wantedOf (ca c.toNat) (S.2.2.2 c) t (T_wovenRows S) (InvTC_c hI c) (by omega) (by omega)) (jn_cdP K u r ca S (by omega) rfl (hD _)) rfl ⟨by decide, by decide⟩ (Nat.le_of_ble_eq_true rfl) dX2_threading_49 ?_
        have hp49_0 := C_wantedOf_rg (S.2.2.2 c) t (T_wovenRows S) (InvTC_c hI c) (by omega) (by omega)
        exact gx_iret hR ((if_neg hc5).trans ((if_neg hc12).trans (if_pos hc32))) rfl dX2_threading_52
      · refine gx_bipush (z := (-3)) X dX2_threading_35 (by decide) ?_
        exact gx_iret hR ((if_neg hc5).trans ((if_neg hc12).trans (if_neg hc32))) rfl dX2_threading_37
    · refine gx_iconst (z := (-1)) X dX2_threading_15 rfl ?_
      exact gx_iret hR ((if_neg hc5).trans (if_pos hc12)) rfl dX2_threading_16
def T_quarrel (S : TS) (c : Int) : Int := if (T_isCard S c) = 0 then (-1) else (C_quarrelRow (S.2.2.2 c) (T_wovenRows S))
set_option maxRecDepth 100000 in
theorem c_T_quarrel {l : Launch} {K : KK} {N : Int} (u r : Nat → Nat) (ca : Nat → Nat → Nat) (S : TS) (c : Int) (hI : InvTC N S) (hp1 : ok32 c) : CtI l yX2_quarrel cX2_quarrel 2 .int (2, 46) K [.ref (u 0), .int (iI c)] (wT K u r ca S) (T_quarrel S c) (wT K u r ca S) := by
  refine ctI_of (by decide) (Nat.le_of_ble_eq_true rfl) rfl ?_
  intro x X hD hR
  have hD : ∀ S9 : TS, va_D (cx_A x) (wT K u r ca S9) := fun S9 => va_D_same hD rfl
  have hs0 := InvTC_s0 hI
  have hs1 := InvTC_s1 hI
  have hs2 := InvTC_s2 hI
  have hs3 := InvTC_s3 hI
  have hw := T_wovenRows_sp S
  refine gx_aload_n X dX2_quarrel_0 rfl 0 rfl ?_
  refine gx_iload_n X dX2_quarrel_1 rfl 1 rfl ?_
  refine gx_callVI (As := [.int (iI c)]) (rest := []) X (hD _) lk_T_39 (ci := 2) rfl rfl 0 rfl (c_T_isCard u r ca S c hI (by omega)) jn_all rfl ⟨by decide, by decide⟩ (Nat.le_of_ble_eq_true rfl) dX2_quarrel_2 ?_
  have hq2_0 := T_isCard_sp S c
  refine gx_if_ne (tgt := 10) X dX2_quarrel_5 (by decide) (by omega) (fun hc5 => ?_) (fun hc5 => ?_)
  · refine gx_aload_n X dX2_quarrel_10 rfl 0 rfl ?_
    refine gT_band X dX2_quarrel_11 ?_
    refine gx_iload_n X dX2_quarrel_14 rfl 1 rfl ?_
    refine gT_card X (by omega) dX2_quarrel_15 ?_
    refine gx_aload_n X dX2_quarrel_16 rfl 0 rfl ?_
    refine gx_callVI (As := []) (rest := [.ref (ca c.toNat 0)]) X (hD _) lk_T_157 (ci := 2) rfl rfl 0 rfl (c_T_wovenRows u r ca S  hI) jn_all rfl ⟨by decide, by decide⟩ (Nat.le_of_ble_eq_true rfl) dX2_quarrel_17 ?_
    have hq17_0 := T_wovenRows_sp S 
    refine gx_callVI (As := [.int (iI (T_wovenRows S))]) (rest := []) X (hD _) lk_T_181 (ci := 0) rfl rfl 0 rfl (c_C_quarrelRow (ca c.toNat) (S.2.2.2 c) (T_wovenRows S) (InvTC_c hI c) (by omega)) (jn_cdP K u r ca S (by omega) rfl (hD _)) rfl ⟨by decide, by decide⟩ (Nat.le_of_ble_eq_true rfl) dX2_quarrel_20 ?_
    have hp20_0 := C_quarrelRow_rg (S.2.2.2 c) (T_wovenRows S) (InvTC_c hI c) (by omega)
    exact gx_iret hR (if_neg hc5) rfl dX2_quarrel_23
  · refine gx_iconst (z := (-1)) X dX2_quarrel_8 rfl ?_
    exact gx_iret hR (if_pos hc5) rfl dX2_quarrel_9
def T_paintedCells_l14 (S : TS) (v2 : Int) : Nat → Int → Int → Int
  | 0, v1', v3 => v1'
  | fu + 1, v1', v3 => if 30 ≤ v3 then v1' else (fun (m39 : Int) => T_paintedCells_l14 S v2 fu m39 (v3 + 1)) (if ((S.2.2.2 v2).2 6 v3) = (-99) then v1' else (v1' + 1))
theorem T_paintedCells_l14_s (S : TS) (v2 : Int) (fu : Nat) (v1' : Int) (v3 : Int) : T_paintedCells_l14 S v2 (fu + 1) v1' v3 = (if 30 ≤ v3 then v1' else (fun (m39 : Int) => T_paintedCells_l14 S v2 fu m39 (v3 + 1)) (if ((S.2.2.2 v2).2 6 v3) = (-99) then v1' else (v1' + 1))) := rfl
def T_paintedCells_l4 (S : TS) : Nat → Int → Int → Int
  | 0, v1, v2 => v1
  | fu + 1, v1, v2 => if (S.1 0) ≤ v2 then v1 else (fun (z14 : Int) => T_paintedCells_l4 S fu z14 (v2 + 1)) (T_paintedCells_l14 S v2 (31) v1 0)
theorem T_paintedCells_l4_s (S : TS) (fu : Nat) (v1 : Int) (v2 : Int) : T_paintedCells_l4 S (fu + 1) v1 v2 = (if (S.1 0) ≤ v2 then v1 else (fun (z14 : Int) => T_paintedCells_l4 S fu z14 (v2 + 1)) (T_paintedCells_l14 S v2 (31) v1 0)) := rfl
def T_paintedCells (S : TS) : Int := (T_paintedCells_l4 S (17) 0 0)
set_option maxRecDepth 100000 in
theorem c_T_paintedCells {l : Launch} {K : KK} {N : Int} (u r : Nat → Nat) (ca : Nat → Nat → Nat) (S : TS) (hI : InvTC N S) : CtI l yX2_paintedCells cX2_paintedCells 4 .int (0, 0) K [.ref (u 0)] (wT K u r ca S) (T_paintedCells S) (wT K u r ca S) := by
  refine ctI_of (by decide) (Nat.le_of_ble_eq_true rfl) rfl ?_
  intro x X hD hR
  have hD : ∀ S9 : TS, va_D (cx_A x) (wT K u r ca S9) := fun S9 => va_D_same hD rfl
  have hs0 := InvTC_s0 hI
  have hs1 := InvTC_s1 hI
  have hs2 := InvTC_s2 hI
  have hs3 := InvTC_s3 hI
  refine gx_iconst (z := 0) X dX2_paintedCells_0 rfl ?_
  refine gx_istore_n X dX2_paintedCells_1 rfl (by decide) rfl ?_
  refine gx_iconst (z := 0) X dX2_paintedCells_2 rfl ?_
  refine gx_istore_n X dX2_paintedCells_3 rfl (by decide) rfl ?_
  have L4 : ∀ (fu : Nat) (v1 : Int) (v2 : Int), (0 ≤ v2) → (v2 ≤ (S.1 0)) → ((S.1 0) - v2) < (fu : Int) → (∀ z4 : Int, T_paintedCells_l4 S fu v1 v2 = z4 → True → GG l (rmK (0, 0)) K x (wT K u r ca S) 51 [(0, .ref (u 0)), (1, .int (iI z4))] []) → GG l (rmK (0, 0)) K x (wT K u r ca S) 4 [(0, .ref (u 0)), (1, .int (iI v1)), (2, .int (iI v2))] [] := by
    intro fu
    induction fu with
    | zero => intro v1 v2 hi4_0 hi4_1 hm4 K4; exact absurd hm4 (by omega)
    | succ fu ih =>
      intro v1 v2 hi4_0 hi4_1 hm4 K4
      refine gx_iload_n X dX2_paintedCells_4 rfl 2 rfl ?_
      refine gx_aload_n X dX2_paintedCells_5 rfl 0 rfl ?_
      refine gT_g0 (v := (S.1 0)) X rfl dX2_paintedCells_6 ?_
      refine gx_icmp_ge (tgt := 51) X dX2_paintedCells_9 (by decide) (by omega) (fun hc9 => ?_) (fun hc9 => ?_)
      · refine gx_sub [0, 1] rfl ?_
        exact K4 v1 ((T_paintedCells_l4_s S fu v1 v2).trans (if_pos hc9)) trivial
      · refine gx_iconst (z := 0) X dX2_paintedCells_12 rfl ?_
        refine gx_istore_n X dX2_paintedCells_13 rfl (by decide) rfl ?_
        have L14 : ∀ (fu : Nat) (v1' : Int) (v3 : Int), (0 ≤ v3) → (v3 ≤ 30) → (30 - v3) < (fu : Int) → (∀ z14 : Int, T_paintedCells_l14 S v2 fu v1' v3 = z14 → True → GG l (rmK (0, 0)) K x (wT K u r ca S) 45 [(0, .ref (u 0)), (1, .int (iI z14)), (2, .int (iI v2))] []) → GG l (rmK (0, 0)) K x (wT K u r ca S) 14 [(0, .ref (u 0)), (1, .int (iI v1')), (2, .int (iI v2)), (3, .int (iI v3))] [] := by
          intro fu
          induction fu with
          | zero => intro v1' v3 hi14_0 hi14_1 hm14 K14; exact absurd hm14 (by omega)
          | succ fu ih =>
            intro v1' v3 hi14_0 hi14_1 hm14 K14
            refine gx_iload_n X dX2_paintedCells_14 rfl 3 rfl ?_
            refine gx_bipush (z := 30) X dX2_paintedCells_15 (by decide) ?_
            refine gx_icmp_ge (tgt := 45) X dX2_paintedCells_17 (by decide) (by omega) (fun hc17 => ?_) (fun hc17 => ?_)
            · refine gx_sub [0, 1, 2] rfl ?_
              exact K14 v1' ((T_paintedCells_l14_s S v2 fu v1' v3).trans (if_pos hc17)) trivial
            · refine gx_aload_n X dX2_paintedCells_20 rfl 0 rfl ?_
              refine gT_band X dX2_paintedCells_21 ?_
              refine gx_iload_n X dX2_paintedCells_24 rfl 2 rfl ?_
              refine gT_card X (by omega) dX2_paintedCells_25 ?_
              refine gT_cr6 X (by omega) dX2_paintedCells_26 ?_
              refine gx_iload_n X dX2_paintedCells_29 rfl 3 rfl ?_
              refine gT_cl6 (v := ((S.2.2.2 v2).2 6 v3)) X (by omega) (by omega) rfl dX2_paintedCells_30 ?_
              have hr30 := InvC_a6 (InvTC_c hI v2) v3
              refine gx_bipush (z := (-99)) X dX2_paintedCells_31 (by decide) ?_
              have J39 : ∀ (m39 : Int), m39 = (if ((S.2.2.2 v2).2 6 v3) = (-99) then v1' else (v1' + 1)) → GG l (rmK (0, 0)) K x (wT K u r ca S) 39 [(0, .ref (u 0)), (1, .int (iI m39)), (2, .int (iI v2)), (3, .int (iI v3))] [] := by
                intro m39 e_m39
                refine gx_iinc X dX2_paintedCells_39 3 rfl (by decide) rfl ?_
                refine gx_goto (tgt := 14) X dX2_paintedCells_42 (by decide) ?_
                refine gx_sub [1, 2, 3, 0] rfl ?_
                subst e_m39
                exact ih _ _ (by omega) (by omega) (by omega) (fun z e hx => K14 z ((T_paintedCells_l14_s S v2 fu v1' v3).trans ((if_neg hc17).trans e)) hx)
              refine gx_icmp_eq (tgt := 39) X dX2_paintedCells_33 (by decide) (by omega) (fun hc33 => ?_) (fun hc33 => ?_)
              · refine gx_sub [0, 1, 2, 3] rfl ?_
                exact J39 v1' ((if_pos hc33).symm) 
              · refine gx_iinc X dX2_paintedCells_36 1 rfl (by decide) rfl ?_
                refine gx_sub [1, 0, 2, 3] rfl ?_
                exact J39 (v1' + 1) ((if_neg hc33).symm) 
        refine gx_sub [1, 2, 3, 0] rfl ?_
        refine L14 (31) v1 0 (by omega) (by omega) (by omega) (fun z14 e14 hx14 => ?_)
        refine gx_iinc X dX2_paintedCells_45 2 rfl (by decide) rfl ?_
        refine gx_goto (tgt := 4) X dX2_paintedCells_48 (by decide) ?_
        refine gx_sub [1, 2, 0] rfl ?_
        subst e14
        exact ih _ _ (by omega) (by omega) (by omega) (fun z e hx => K4 z ((T_paintedCells_l4_s S fu v1 v2).trans ((if_neg hc9).trans e)) hx)
  refine gx_sub [2, 1, 0] rfl ?_
  refine L4 (17) 0 0 (by omega) (by omega) (by omega) (fun z4 e4 hx4 => ?_)
  refine gx_iload_n X dX2_paintedCells_51 rfl 1 rfl ?_
  exact gx_iret hR (e4) rfl dX2_paintedCells_52
def T_cardsThreadedZ_l4 (S : TS) : Nat → Int → Int → Int
  | 0, v1, v2 => v1
  | fu + 1, v1, v2 => if (S.1 0) ≤ v2 then v1 else T_cardsThreadedZ_l4 S fu (v1 + ((S.2.2.2 v2).1 0)) (v2 + 1)
theorem T_cardsThreadedZ_l4_s (S : TS) (fu : Nat) (v1 : Int) (v2 : Int) : T_cardsThreadedZ_l4 S (fu + 1) v1 v2 = (if (S.1 0) ≤ v2 then v1 else T_cardsThreadedZ_l4 S fu (v1 + ((S.2.2.2 v2).1 0)) (v2 + 1)) := rfl
def T_cardsThreadedZ (S : TS) : Int := (T_cardsThreadedZ_l4 S (17) 0 0)
set_option maxRecDepth 100000 in
theorem c_T_cardsThreadedZ {l : Launch} {K : KK} {N : Int} (u r : Nat → Nat) (ca : Nat → Nat → Nat) (S : TS) (hI : InvTC N S) : CtI l yX2_cardsThreadedZ cX2_cardsThreadedZ 3 .int (0, 0) K [.ref (u 0)] (wT K u r ca S) (T_cardsThreadedZ S) (wT K u r ca S) := by
  refine ctI_of (by decide) (Nat.le_of_ble_eq_true rfl) rfl ?_
  intro x X hD hR
  have hD : ∀ S9 : TS, va_D (cx_A x) (wT K u r ca S9) := fun S9 => va_D_same hD rfl
  have hs0 := InvTC_s0 hI
  have hs1 := InvTC_s1 hI
  have hs2 := InvTC_s2 hI
  have hs3 := InvTC_s3 hI
  refine gx_iconst (z := 0) X dX2_cardsThreadedZ_0 rfl ?_
  refine gx_istore_n X dX2_cardsThreadedZ_1 rfl (by decide) rfl ?_
  refine gx_iconst (z := 0) X dX2_cardsThreadedZ_2 rfl ?_
  refine gx_istore_n X dX2_cardsThreadedZ_3 rfl (by decide) rfl ?_
  have L4 : ∀ (fu : Nat) (v1 : Int) (v2 : Int), (0 ≤ v2) → (v2 ≤ (S.1 0)) → ((S.1 0) - v2) < (fu : Int) → (∀ z4 : Int, T_cardsThreadedZ_l4 S fu v1 v2 = z4 → True → GG l (rmK (0, 0)) K x (wT K u r ca S) 30 [(0, .ref (u 0)), (1, .int (iI z4))] []) → GG l (rmK (0, 0)) K x (wT K u r ca S) 4 [(0, .ref (u 0)), (1, .int (iI v1)), (2, .int (iI v2))] [] := by
    intro fu
    induction fu with
    | zero => intro v1 v2 hi4_0 hi4_1 hm4 K4; exact absurd hm4 (by omega)
    | succ fu ih =>
      intro v1 v2 hi4_0 hi4_1 hm4 K4
      refine gx_iload_n X dX2_cardsThreadedZ_4 rfl 2 rfl ?_
      refine gx_aload_n X dX2_cardsThreadedZ_5 rfl 0 rfl ?_
      refine gT_g0 (v := (S.1 0)) X rfl dX2_cardsThreadedZ_6 ?_
      refine gx_icmp_ge (tgt := 30) X dX2_cardsThreadedZ_9 (by decide) (by omega) (fun hc9 => ?_) (fun hc9 => ?_)
      · refine gx_sub [0, 1] rfl ?_
        exact K4 v1 ((T_cardsThreadedZ_l4_s S fu v1 v2).trans (if_pos hc9)) trivial
      · refine gx_iload_n X dX2_cardsThreadedZ_12 rfl 1 rfl ?_
        refine gx_aload_n X dX2_cardsThreadedZ_13 rfl 0 rfl ?_
        refine gT_band X dX2_cardsThreadedZ_14 ?_
        refine gx_iload_n X dX2_cardsThreadedZ_17 rfl 2 rfl ?_
        refine gT_card X (by omega) dX2_cardsThreadedZ_18 ?_
        refine gT_cg0 (v := ((S.2.2.2 v2).1 0)) X (by omega) rfl dX2_cardsThreadedZ_19 ?_
        have hg19 := InvC_s0 (InvTC_c hI v2)
        refine gx_iadd X dX2_cardsThreadedZ_22 ?_
        refine gx_istore_n X dX2_cardsThreadedZ_23 rfl (by decide) rfl ?_
        refine gx_iinc X dX2_cardsThreadedZ_24 2 rfl (by decide) rfl ?_
        refine gx_goto (tgt := 4) X dX2_cardsThreadedZ_27 (by decide) ?_
        refine gx_sub [2, 1, 0] rfl ?_
        exact ih (v1 + ((S.2.2.2 v2).1 0)) (v2 + 1) (by omega) (by omega) (by omega) (fun z e hx => K4 z ((T_cardsThreadedZ_l4_s S fu v1 v2).trans ((if_neg hc9).trans e)) hx)
  refine gx_sub [2, 1, 0] rfl ?_
  refine L4 (17) 0 0 (by omega) (by omega) (by omega) (fun z4 e4 hx4 => ?_)
  refine gx_iload_n X dX2_cardsThreadedZ_30 rfl 1 rfl ?_
  exact gx_iret hR (e4) rfl dX2_cardsThreadedZ_31
def T_unlikeColours_l14 (S : TS) (v2 : Int) : Nat → Int → Int → Int
  | 0, v1', v3 => v1'
  | fu + 1, v1', v3 => if 4 ≤ v3 then v1' else T_unlikeColours_l14 S v2 fu (zi_or v1' (zi_shl 1 ((S.2.2.2 v2).2 1 v3))) (v3 + 1)
theorem T_unlikeColours_l14_s (S : TS) (v2 : Int) (fu : Nat) (v1' : Int) (v3 : Int) : T_unlikeColours_l14 S v2 (fu + 1) v1' v3 = (if 4 ≤ v3 then v1' else T_unlikeColours_l14 S v2 fu (zi_or v1' (zi_shl 1 ((S.2.2.2 v2).2 1 v3))) (v3 + 1)) := rfl
def T_unlikeColours_l4 (S : TS) : Nat → Int → Int → Int
  | 0, v1, v2 => v1
  | fu + 1, v1, v2 => if (S.1 0) ≤ v2 then v1 else (fun (z14 : Int) => T_unlikeColours_l4 S fu z14 (v2 + 1)) (T_unlikeColours_l14 S v2 (5) v1 0)
theorem T_unlikeColours_l4_s (S : TS) (fu : Nat) (v1 : Int) (v2 : Int) : T_unlikeColours_l4 S (fu + 1) v1 v2 = (if (S.1 0) ≤ v2 then v1 else (fun (z14 : Int) => T_unlikeColours_l4 S fu z14 (v2 + 1)) (T_unlikeColours_l14 S v2 (5) v1 0)) := rfl
def T_unlikeColours_r4 (z4 : Int) : Int := (J_bitCount z4)
def T_unlikeColours (S : TS) : Int := (fun z4 => T_unlikeColours_r4 z4) (T_unlikeColours_l4 S (17) 0 0)
set_option maxRecDepth 100000 in
theorem c_T_unlikeColours {l : Launch} {K : KK} {N : Int} (u r : Nat → Nat) (ca : Nat → Nat → Nat) (S : TS) (hI : InvTC N S) : CtI l yX2_unlikeColours cX2_unlikeColours 4 .int (1, 20) K [.ref (u 0)] (wT K u r ca S) (T_unlikeColours S) (wT K u r ca S) := by
  refine ctI_of (by decide) (Nat.le_of_ble_eq_true rfl) rfl ?_
  intro x X hD hR
  have hD : ∀ S9 : TS, va_D (cx_A x) (wT K u r ca S9) := fun S9 => va_D_same hD rfl
  have hs0 := InvTC_s0 hI
  have hs1 := InvTC_s1 hI
  have hs2 := InvTC_s2 hI
  have hs3 := InvTC_s3 hI
  refine gx_iconst (z := 0) X dX2_unlikeColours_0 rfl ?_
  refine gx_istore_n X dX2_unlikeColours_1 rfl (by decide) rfl ?_
  refine gx_iconst (z := 0) X dX2_unlikeColours_2 rfl ?_
  refine gx_istore_n X dX2_unlikeColours_3 rfl (by decide) rfl ?_
  have L4 : ∀ (fu : Nat) (v1 : Int) (v2 : Int), (0 ≤ v2) → (v2 ≤ (S.1 0)) → ((S.1 0) - v2) < (fu : Int) → (∀ z4 : Int, T_unlikeColours_l4 S fu v1 v2 = z4 → True → GG l (rmK (1, 20)) K x (wT K u r ca S) 47 [(0, .ref (u 0)), (1, .int (iI z4))] []) → GG l (rmK (1, 20)) K x (wT K u r ca S) 4 [(0, .ref (u 0)), (1, .int (iI v1)), (2, .int (iI v2))] [] := by
    intro fu
    induction fu with
    | zero => intro v1 v2 hi4_0 hi4_1 hm4 K4; exact absurd hm4 (by omega)
    | succ fu ih =>
      intro v1 v2 hi4_0 hi4_1 hm4 K4
      refine gx_iload_n X dX2_unlikeColours_4 rfl 2 rfl ?_
      refine gx_aload_n X dX2_unlikeColours_5 rfl 0 rfl ?_
      refine gT_g0 (v := (S.1 0)) X rfl dX2_unlikeColours_6 ?_
      refine gx_icmp_ge (tgt := 47) X dX2_unlikeColours_9 (by decide) (by omega) (fun hc9 => ?_) (fun hc9 => ?_)
      · refine gx_sub [0, 1] rfl ?_
        exact K4 v1 ((T_unlikeColours_l4_s S fu v1 v2).trans (if_pos hc9)) trivial
      · refine gx_iconst (z := 0) X dX2_unlikeColours_12 rfl ?_
        refine gx_istore_n X dX2_unlikeColours_13 rfl (by decide) rfl ?_
        have L14 : ∀ (fu : Nat) (v1' : Int) (v3 : Int), (0 ≤ v3) → (v3 ≤ 4) → (4 - v3) < (fu : Int) → (∀ z14 : Int, T_unlikeColours_l14 S v2 fu v1' v3 = z14 → True → GG l (rmK (1, 20)) K x (wT K u r ca S) 41 [(0, .ref (u 0)), (1, .int (iI z14)), (2, .int (iI v2))] []) → GG l (rmK (1, 20)) K x (wT K u r ca S) 14 [(0, .ref (u 0)), (1, .int (iI v1')), (2, .int (iI v2)), (3, .int (iI v3))] [] := by
          intro fu
          induction fu with
          | zero => intro v1' v3 hi14_0 hi14_1 hm14 K14; exact absurd hm14 (by omega)
          | succ fu ih =>
            intro v1' v3 hi14_0 hi14_1 hm14 K14
            refine gx_iload_n X dX2_unlikeColours_14 rfl 3 rfl ?_
            refine gx_iconst (z := 4) X dX2_unlikeColours_15 rfl ?_
            refine gx_icmp_ge (tgt := 41) X dX2_unlikeColours_16 (by decide) (by omega) (fun hc16 => ?_) (fun hc16 => ?_)
            · refine gx_sub [0, 1, 2] rfl ?_
              exact K14 v1' ((T_unlikeColours_l14_s S v2 fu v1' v3).trans (if_pos hc16)) trivial
            · refine gx_iload_n X dX2_unlikeColours_19 rfl 1 rfl ?_
              refine gx_iconst (z := 1) X dX2_unlikeColours_20 rfl ?_
              refine gx_aload_n X dX2_unlikeColours_21 rfl 0 rfl ?_
              refine gT_band X dX2_unlikeColours_22 ?_
              refine gx_iload_n X dX2_unlikeColours_25 rfl 2 rfl ?_
              refine gT_card X (by omega) dX2_unlikeColours_26 ?_
              refine gT_cr1 X (by omega) dX2_unlikeColours_27 ?_
              refine gx_iload_n X dX2_unlikeColours_30 rfl 3 rfl ?_
              refine gT_cl1 (v := ((S.2.2.2 v2).2 1 v3)) X (by omega) (by omega) rfl dX2_unlikeColours_31 ?_
              have hr31 := InvC_a1 (InvTC_c hI v2) v3
              refine gx_ishl X dX2_unlikeColours_32 ?_
              have ho32 := ok_shl 1 ((S.2.2.2 v2).2 1 v3)
              refine gx_ior X dX2_unlikeColours_33 ?_
              have ho33 := ok_or v1' (zi_shl 1 ((S.2.2.2 v2).2 1 v3))
              refine gx_istore_n X dX2_unlikeColours_34 rfl (by decide) rfl ?_
              refine gx_iinc X dX2_unlikeColours_35 3 rfl (by decide) rfl ?_
              refine gx_goto (tgt := 14) X dX2_unlikeColours_38 (by decide) ?_
              refine gx_sub [2, 1, 3, 0] rfl ?_
              exact ih (zi_or v1' (zi_shl 1 ((S.2.2.2 v2).2 1 v3))) (v3 + 1) (by omega) (by omega) (by omega) (fun z e hx => K14 z ((T_unlikeColours_l14_s S v2 fu v1' v3).trans ((if_neg hc16).trans e)) hx)
        refine gx_sub [1, 2, 3, 0] rfl ?_
        refine L14 (5) v1 0 (by omega) (by omega) (by omega) (fun z14 e14 hx14 => ?_)
        refine gx_iinc X dX2_unlikeColours_41 2 rfl (by decide) rfl ?_
        refine gx_goto (tgt := 4) X dX2_unlikeColours_44 (by decide) ?_
        refine gx_sub [1, 2, 0] rfl ?_
        subst e14
        exact ih _ _ (by omega) (by omega) (by omega) (fun z e hx => K4 z ((T_unlikeColours_l4_s S fu v1 v2).trans ((if_neg hc9).trans e)) hx)
  refine gx_sub [2, 1, 0] rfl ?_
  refine L4 (17) 0 0 (by omega) (by omega) (by omega) (fun z4 e4 hx4 => ?_)
  refine gx_iload_n X dX2_unlikeColours_47 rfl 1 rfl ?_
  refine gx_callSI (As := [.int (iI z4)]) (rest := []) X (hD _) lk_T_221 (c_J_bitCount z4 ) jn_nil rfl ⟨by decide, by decide⟩ (Nat.le_of_ble_eq_true rfl) dX2_unlikeColours_48 ?_
  exact gx_iret hR (congrArg (fun z4 => T_unlikeColours_r4 z4) e4) rfl dX2_unlikeColours_51
def T_count (S : TS) (w : Int) : Int := if w = 0 then (S.1 0) else if w = 1 then (S.1 1) else if w = 2 then (T_paintedCells S) else if w = 3 then (T_cardsThreadedZ S) else if w = 4 then (T_unlikeColours S) else (-2)
set_option maxRecDepth 100000 in
theorem c_T_count {l : Launch} {K : KK} {N : Int} (u r : Nat → Nat) (ca : Nat → Nat → Nat) (S : TS) (w : Int) (hI : InvTC N S) (hp1 : ok32 w) : CtI l yX2_count cX2_count 2 .int (2, 43) K [.ref (u 0), .int (iI w)] (wT K u r ca S) (T_count S w) (wT K u r ca S) := by
  refine ctI_of (by decide) (Nat.le_of_ble_eq_true rfl) rfl ?_
  intro x X hD hR
  have hD : ∀ S9 : TS, va_D (cx_A x) (wT K u r ca S9) := fun S9 => va_D_same hD rfl
  have hs0 := InvTC_s0 hI
  have hs1 := InvTC_s1 hI
  have hs2 := InvTC_s2 hI
  have hs3 := InvTC_s3 hI
  refine gx_iload_n X dX2_count_0 rfl 1 rfl ?_
  have hsw1 : ok32 w := by omega
  by_cases hc1_0 : w = 0
  · refine gx_switchIn (tgt := 36) X dX2_count_1 (k := 0) hc1_0 (by decide) (by decide) rfl (by decide) ?_
    refine gx_aload_n X dX2_count_36 rfl 0 rfl ?_
    refine gT_g0 (v := (S.1 0)) X rfl dX2_count_37 ?_
    exact gx_iret hR (if_pos hc1_0) rfl dX2_count_40
  by_cases hc1_1 : w = 1
  · refine gx_switchIn (tgt := 41) X dX2_count_1 (k := 1) hc1_1 (by decide) (by decide) rfl (by decide) ?_
    refine gx_aload_n X dX2_count_41 rfl 0 rfl ?_
    refine gT_g1 (v := (S.1 1)) X rfl dX2_count_42 ?_
    exact gx_iret hR ((if_neg hc1_0).trans (if_pos hc1_1)) rfl dX2_count_45
  by_cases hc1_2 : w = 2
  · refine gx_switchIn (tgt := 46) X dX2_count_1 (k := 2) hc1_2 (by decide) (by decide) rfl (by decide) ?_
    refine gx_aload_n X dX2_count_46 rfl 0 rfl ?_
    refine gx_callVI (As := []) (rest := []) X (hD _) lk_T_191 (ci := 2) rfl rfl 0 rfl (c_T_paintedCells u r ca S  hI) jn_all rfl ⟨by decide, by decide⟩ (Nat.le_of_ble_eq_true rfl) dX2_count_47 ?_
    exact gx_iret hR ((if_neg hc1_0).trans ((if_neg hc1_1).trans (if_pos hc1_2))) rfl dX2_count_50
  by_cases hc1_3 : w = 3
  · refine gx_switchIn (tgt := 51) X dX2_count_1 (k := 3) hc1_3 (by decide) (by decide) rfl (by decide) ?_
    refine gx_aload_n X dX2_count_51 rfl 0 rfl ?_
    refine gx_callVI (As := []) (rest := []) X (hD _) lk_T_194 (ci := 2) rfl rfl 0 rfl (c_T_cardsThreadedZ u r ca S  hI) jn_all rfl ⟨by decide, by decide⟩ (Nat.le_of_ble_eq_true rfl) dX2_count_52 ?_
    exact gx_iret hR ((if_neg hc1_0).trans ((if_neg hc1_1).trans ((if_neg hc1_2).trans (if_pos hc1_3)))) rfl dX2_count_55
  by_cases hc1_4 : w = 4
  · refine gx_switchIn (tgt := 56) X dX2_count_1 (k := 4) hc1_4 (by decide) (by decide) rfl (by decide) ?_
    refine gx_aload_n X dX2_count_56 rfl 0 rfl ?_
    refine gx_callVI (As := []) (rest := []) X (hD _) lk_T_197 (ci := 2) rfl rfl 0 rfl (c_T_unlikeColours u r ca S  hI) jn_all rfl ⟨by decide, by decide⟩ (Nat.le_of_ble_eq_true rfl) dX2_count_57 ?_
    exact gx_iret hR ((if_neg hc1_0).trans ((if_neg hc1_1).trans ((if_neg hc1_2).trans ((if_neg hc1_3).trans (if_pos hc1_4))))) rfl dX2_count_60
  refine gx_switchOut (tgt := 61) X dX2_count_1 hsw1 (by omega) (by decide) ?_
  refine gx_bipush (z := (-2)) X dX2_count_61 (by decide) ?_
  exact gx_iret hR ((if_neg hc1_0).trans ((if_neg hc1_1).trans ((if_neg hc1_2).trans ((if_neg hc1_3).trans (if_neg hc1_4))))) rfl dX2_count_63
