def M_by_m138 (S : Sta) (c : Int) (r : Int) (t : Int) (u : Int) (d : Int) (m104 : Int) (m138 : Int) : Int := if (M_in (u + m138) (-30) 30) = 0 then 1000000 else if (M_fits S r c (S.2 0 ((4 * c) + (M_lies S c ((t + m104) % 4) d)))) = 0 then 1000000 else (S.2 17 (M_spot (r + 1) ((t + m104) % 4) (M_lies S c ((t + m104) % 4) d) 0 (u + m138)))
def M_by_m104 (S : Sta) (c : Int) (r : Int) (t : Int) (u : Int) (d : Int) (m104 : Int) : Int := M_by_m138 S c r t u d m104 (if d = (S.2 2 c) then 1 else (-1))
def M_by_m72 (m72 : Int) : Int := if 1000000 ≤ m72 then 1000000 else (m72 + 1000)
def M_by_m40 (S : Sta) (r : Int) (t : Int) (h : Int) (n : Int) (u : Int) (m40 : Int) : Int := M_by_m72 (if m40 = 0 then 1000000 else (S.2 17 (M_spot (r + 1) t h (n + 1) u)))
def M_by (S : Sta) (c : Int) (r : Int) (t : Int) (h : Int) (n : Int) (u : Int) (d : Int) : Int := if d = 2 then M_by_m40 S r t h n u (if (S.1 4) ≤ n then 0 else if (M_fits S r c (S.2 0 ((4 * c) + h))) = 0 then 0 else 1) else M_by_m104 S c r t u d (if d = 0 then 1 else 3)
theorem M_by_rg {N : Int} (S : Sta) (c r t h n u d : Int) (hI : InvW N S) (_ : 0 ≤ c ∧ c < 16) (_ : 0 ≤ r ∧ r < 30) (_ : 0 ≤ t ∧ t ≤ 3) (_ : 0 ≤ h ∧ h ≤ 3) (_ : 0 ≤ n ∧ n ≤ 9) (_ : -r ≤ u ∧ u ≤ r) (_ : (0 ≤ d ∧ d ≤ 2) ∧ (d = 2 → n ≤ 8)) : 0 ≤ M_by S c r t h n u d ∧ M_by S c r t h n u d ≤ 1000999 := by
  have h9 := fun j => InvM_a17 hI j
  unfold M_by
  split
  · unfold M_by_m40 M_by_m72
    have h8 := h9 (M_spot (r + 1) t h (n + 1) u)
    omega
  · unfold M_by_m104 M_by_m138
    have h8 := h9 (M_spot (r + 1) ((t + (if d = 0 then 1 else 3)) % 4) (M_lies S c ((t + (if d = 0 then 1 else 3)) % 4) d) 0 (u + (if d = S.2 2 c then 1 else (-1))))
    omega
set_option maxRecDepth 100000 in
theorem c_M_by {l : Launch} {K : KK} {N : Int} (q : Nat → Nat) (S : Sta) (c : Int) (r : Int) (t : Int) (h : Int) (n : Int) (u : Int) (d : Int) (hI : InvW N S) (hp1 : 0 ≤ c ∧ c < 16) (hp2 : 0 ≤ r ∧ r < 30) (hp3 : 0 ≤ t ∧ t ≤ 3) (hp4 : 0 ≤ h ∧ h ≤ 3) (hp5 : 0 ≤ n ∧ n ≤ 9) (hp6 : -r ≤ u ∧ u ≤ r) (hp7 : (0 ≤ d ∧ d ≤ 2) ∧ (d = 2 → n ≤ 8)) : CtI l yX3_by cX3_by 11 .int (1, 25) K [.ref (q 0), .int (iI c), .int (iI r), .int (iI t), .int (iI h), .int (iI n), .int (iI u), .int (iI d)] (wM K q S) (M_by S c r t h n u d) (wM K q S) := by
  refine ctI_of (by decide) (Nat.le_of_ble_eq_true rfl) rfl ?_
  intro x X hD hR
  have hD : ∀ S9 : Sta, va_D (cx_A x) (wM K q S9) := fun S9 => va_D_same hD rfl
  have hs1 := InvM_s1 hI
  have hs2 := InvM_s2 hI
  have hs3 := InvM_s3 hI
  have hs4 := InvM_s4 hI
  refine gx_iload X dX3_by_0 7 rfl ?_
  refine gx_iconst (z := 2) X dX3_by_2 rfl ?_
  refine gx_icmp_ne (tgt := 93) X dX3_by_3 (by decide) (by omega) (fun hc3 => ?_) (fun hc3 => ?_)
  · refine gx_iload_n X dX3_by_93 rfl 3 rfl ?_
    refine gx_iload X dX3_by_94 7 rfl ?_
    have J104 : ∀ (m104 : Int), m104 = (if d = 0 then 1 else 3) → GG l (rmK (1, 25)) K x (wM K q S) 104 [(0, .ref (q 0)), (1, .int (iI c)), (2, .int (iI r)), (3, .int (iI t)), (4, .int (iI h)), (5, .int (iI n)), (6, .int (iI u)), (7, .int (iI d))] [.int (iI m104), .int (iI t)] := by
      intro m104 e_m104
      refine gx_iadd X dX3_by_104 ?_
      refine gx_iconst (z := 4) X dX3_by_105 rfl ?_
      refine gx_irem X dX3_by_106 (by omega) ?_
      refine gx_istore X dX3_by_107 (by decide) rfl ?_
      refine gx_aload_n X dX3_by_109 rfl 1 rfl ?_
      refine gx_iload_n X dX3_by_110 rfl 2 rfl ?_
      refine gx_iload X dX3_by_111 0 rfl ?_
      refine gx_iload X dX3_by_113 8 rfl ?_
      refine gx_callVI (As := [.int (iI c), .int (iI ((t + m104) % 4)), .int (iI d)]) (rest := []) X (hD _) lk_M_162 (ci := 3) rfl rfl 0 rfl (c_M_lies q S c ((t + m104) % 4) d hI (by omega) (by omega) (by omega)) jn_all rfl ⟨by decide, by decide⟩ (Nat.le_of_ble_eq_true rfl) dX3_by_115 ?_
      have hp115_0 := M_lies_rg S c ((t + m104) % 4) d hI (by omega) (by omega) (by omega)
      refine gx_istore X dX3_by_118 (by decide) rfl ?_
      refine gx_iload X dX3_by_120 8 rfl ?_
      refine gx_iload X dX3_by_122 9 rfl ?_
      refine gx_aload_n X dX3_by_124 rfl 2 rfl ?_
      refine gM_r2 X dX3_by_125 ?_
      refine gx_iload_n X dX3_by_128 rfl 3 rfl ?_
      refine gM_l2 (v := (S.2 2 c)) X (by omega) rfl dX3_by_129 ?_
      have hr129 := InvM_a2 hI c
      have J138 : ∀ (m138 : Int), m138 = (if d = (S.2 2 c) then 1 else (-1)) → GG l (rmK (1, 25)) K x (wM K q S) 138 [(0, .ref (q 0)), (1, .int (iI c)), (2, .int (iI r)), (3, .int (iI t)), (4, .int (iI h)), (5, .int (iI n)), (6, .int (iI u)), (7, .int (iI d)), (8, .int (iI ((t + m104) % 4))), (9, .int (iI (M_lies S c ((t + m104) % 4) d)))] [.int (iI m138), .int (iI u)] := by
        intro m138 e_m138
        refine gx_iadd X dX3_by_138 ?_
        refine gx_istore X dX3_by_139 (by decide) rfl ?_
        refine gx_iload X dX3_by_141 0 rfl ?_
        refine gx_i2l X dX3_by_143 (by omega) ?_
        refine gx_ldc2 (v := lI (-30)) X t_M_166 dX3_by_144 ?_
        refine gx_ldc2 (v := lI 30) X t_M_146 dX3_by_147 ?_
        refine gx_callSI (As := [.long (lI (u + m138)), .long (lI (-30)), .long (lI 30)]) (rest := []) X (hD _) lk_M_88 (c_M_in (u + m138) (-30) 30 (by omega) (by omega) (by omega)) jn_nil rfl ⟨by decide, by decide⟩ (Nat.le_of_ble_eq_true rfl) dX3_by_150 ?_
        have hq150_0 := M_in_sp (u + m138) (-30) 30
        have J199 : ∀ (m199 : Int), m199 = (if (M_in (u + m138) (-30) 30) = 0 then 1000000 else if (M_fits S r c (S.2 0 ((4 * c) + (M_lies S c ((t + m104) % 4) d)))) = 0 then 1000000 else (S.2 17 (M_spot (r + 1) ((t + m104) % 4) (M_lies S c ((t + m104) % 4) d) 0 (u + m138)))) → GG l (rmK (1, 25)) K x (wM K q S) 199 [(0, .ref (q 0)), (1, .int (iI c)), (2, .int (iI r)), (3, .int (iI t)), (4, .int (iI h)), (5, .int (iI n)), (6, .int (iI u)), (7, .int (iI d)), (8, .int (iI ((t + m104) % 4))), (9, .int (iI (M_lies S c ((t + m104) % 4) d))), (10, .int (iI (u + m138)))] [.int (iI m199)] := by
          intro m199 e_m199
          exact gx_iret hR ((if_neg hc3).trans ((congrArg (fun z0 => M_by_m104 S c r t u d z0) e_m104.symm).trans ((congrArg (fun z0 => M_by_m138 S c r t u d m104 z0) e_m138.symm).trans (e_m199.symm)))) rfl dX3_by_199
        refine gx_if_eq (tgt := 197) X dX3_by_153 (by decide) (by omega) (fun hc153 => ?_) (fun hc153 => ?_)
        · refine gx_ldc (z := 1000000) X t_M_161 dX3_by_197 (by decide) ?_
          refine gx_sub [1, 2, 3, 4, 5, 6, 7, 8, 9, 10, 0] rfl ?_
          exact J199 1000000 ((if_pos hc153).symm) 
        · refine gx_aload_n X dX3_by_156 rfl 1 rfl ?_
          refine gx_iload_n X dX3_by_157 rfl 3 rfl ?_
          refine gx_iload_n X dX3_by_158 rfl 2 rfl ?_
          refine gx_aload_n X dX3_by_159 rfl 1 rfl ?_
          refine gM_r0 X dX3_by_160 ?_
          refine gx_iconst (z := 4) X dX3_by_163 rfl ?_
          refine gx_iload_n X dX3_by_164 rfl 2 rfl ?_
          refine gx_imul X dX3_by_165 ?_
          refine gx_iload X dX3_by_166 10 rfl ?_
          refine gx_iadd X dX3_by_168 ?_
          refine gM_l0 (v := (S.2 0 ((4 * c) + (M_lies S c ((t + m104) % 4) d)))) X (by omega) rfl dX3_by_169 ?_
          have hr169 := InvM_a0 hI ((4 * c) + (M_lies S c ((t + m104) % 4) d))
          refine gx_callVI (As := [.int (iI r), .int (iI c), .int (iI (S.2 0 ((4 * c) + (M_lies S c ((t + m104) % 4) d))))]) (rest := []) X (hD _) lk_M_154 (ci := 3) rfl rfl 0 rfl (c_M_fits q S r c (S.2 0 ((4 * c) + (M_lies S c ((t + m104) % 4) d))) hI (by omega) (by omega) (by omega)) jn_all rfl ⟨by decide, by decide⟩ (Nat.le_of_ble_eq_true rfl) dX3_by_170 ?_
          have hq170_0 := M_fits_01 S r c (S.2 0 ((4 * c) + (M_lies S c ((t + m104) % 4) d)))
          refine gx_if_eq (tgt := 197) X dX3_by_173 (by decide) (by omega) (fun hc173 => ?_) (fun hc173 => ?_)
          · refine gx_ldc (z := 1000000) X t_M_161 dX3_by_197 (by decide) ?_
            refine gx_sub [1, 2, 3, 4, 5, 6, 7, 8, 9, 10, 0] rfl ?_
            exact J199 1000000 (((if_neg hc153).trans (if_pos hc173)).symm) 
          · refine gx_aload_n X dX3_by_176 rfl 1 rfl ?_
            refine gM_r17 X dX3_by_177 ?_
            refine gx_iload_n X dX3_by_180 rfl 3 rfl ?_
            refine gx_iconst (z := 1) X dX3_by_181 rfl ?_
            refine gx_iadd X dX3_by_182 ?_
            refine gx_iload X dX3_by_183 9 rfl ?_
            refine gx_iload X dX3_by_185 10 rfl ?_
            refine gx_iconst (z := 0) X dX3_by_187 rfl ?_
            refine gx_iload X dX3_by_188 0 rfl ?_
            refine gx_callSI (As := [.int (iI (r + 1)), .int (iI ((t + m104) % 4)), .int (iI (M_lies S c ((t + m104) % 4) d)), .int (iI 0), .int (iI (u + m138))]) (rest := [.ref (q 18)]) X (hD _) lk_M_157 (c_M_spot (r + 1) ((t + m104) % 4) (M_lies S c ((t + m104) % 4) d) 0 (u + m138) ) jn_nil rfl ⟨by decide, by decide⟩ (Nat.le_of_ble_eq_true rfl) dX3_by_190 ?_
            have hq190_0 := M_spot_sp (r + 1) ((t + m104) % 4) (M_lies S c ((t + m104) % 4) d) 0 (u + m138)
            refine gM_l17 (v := (S.2 17 (M_spot (r + 1) ((t + m104) % 4) (M_lies S c ((t + m104) % 4) d) 0 (u + m138)))) X (by omega) rfl dX3_by_193 ?_
            have hr193 := InvM_a17 hI (M_spot (r + 1) ((t + m104) % 4) (M_lies S c ((t + m104) % 4) d) 0 (u + m138))
            refine gx_goto (tgt := 199) X dX3_by_194 (by decide) ?_
            refine gx_sub [1, 2, 3, 4, 5, 6, 7, 8, 9, 10, 0] rfl ?_
            exact J199 (S.2 17 (M_spot (r + 1) ((t + m104) % 4) (M_lies S c ((t + m104) % 4) d) 0 (u + m138))) (((if_neg hc153).trans (if_neg hc173)).symm) 
      refine gx_icmp_ne (tgt := 137) X dX3_by_130 (by decide) (by omega) (fun hc130 => ?_) (fun hc130 => ?_)
      · refine gx_iconst (z := (-1)) X dX3_by_137 rfl ?_
        refine gx_sub [2, 3, 4, 5, 6, 7, 8, 9, 1, 0] rfl ?_
        exact J138 (-1) ((if_neg hc130).symm) 
      · refine gx_iconst (z := 1) X dX3_by_133 rfl ?_
        refine gx_goto (tgt := 138) X dX3_by_134 (by decide) ?_
        refine gx_sub [2, 3, 4, 5, 6, 7, 8, 9, 1, 0] rfl ?_
        exact J138 1 ((if_pos hc130).symm) 
    refine gx_if_ne (tgt := 103) X dX3_by_96 (by decide) (by omega) (fun hc96 => ?_) (fun hc96 => ?_)
    · refine gx_iconst (z := 3) X dX3_by_103 rfl ?_
      refine gx_sub [0, 1, 2, 3, 4, 5, 6, 7] rfl ?_
      exact J104 3 ((if_neg hc96).symm) 
    · refine gx_iconst (z := 1) X dX3_by_99 rfl ?_
      refine gx_goto (tgt := 104) X dX3_by_100 (by decide) ?_
      refine gx_sub [0, 1, 2, 3, 4, 5, 6, 7] rfl ?_
      exact J104 1 ((if_pos hc96).symm) 
  · refine gx_iload X dX3_by_6 5 rfl ?_
    refine gx_aload_n X dX3_by_8 rfl 0 rfl ?_
    refine gM_g4 (v := (S.1 4)) X rfl dX3_by_9 ?_
    have J40 : ∀ (m40 : Int), m40 = (if (S.1 4) ≤ n then 0 else if (M_fits S r c (S.2 0 ((4 * c) + h))) = 0 then 0 else 1) → GG l (rmK (1, 25)) K x (wM K q S) 40 [(0, .ref (q 0)), (1, .int (iI c)), (2, .int (iI r)), (3, .int (iI t)), (4, .int (iI h)), (5, .int (iI n)), (6, .int (iI u)), (7, .int (iI d))] [.int (iI m40)] := by
      intro m40 e_m40
      refine gx_istore X dX3_by_40 (by decide) rfl ?_
      refine gx_iload X dX3_by_42 0 rfl ?_
      have J72 : ∀ (m72 : Int), m72 = (if m40 = 0 then 1000000 else (S.2 17 (M_spot (r + 1) t h (n + 1) u))) → (0 ≤ m72 ∧ m72 ≤ 1000000) → GG l (rmK (1, 25)) K x (wM K q S) 72 [(0, .ref (q 0)), (1, .int (iI c)), (2, .int (iI r)), (3, .int (iI t)), (4, .int (iI h)), (5, .int (iI n)), (6, .int (iI u)), (7, .int (iI d)), (8, .int (iI m40))] [.int (iI m72)] := by
        intro m72 e_m72 hf72_0
        refine gx_istore X dX3_by_72 (by decide) rfl ?_
        refine gx_iload X dX3_by_74 0 rfl ?_
        refine gx_ldc (z := 1000000) X t_M_161 dX3_by_76 (by decide) ?_
        have J92 : ∀ (m92 : Int), m92 = (if 1000000 ≤ m72 then 1000000 else (m72 + 1000)) → GG l (rmK (1, 25)) K x (wM K q S) 92 [(0, .ref (q 0)), (1, .int (iI c)), (2, .int (iI r)), (3, .int (iI t)), (4, .int (iI h)), (5, .int (iI n)), (6, .int (iI u)), (7, .int (iI d)), (8, .int (iI m40)), (9, .int (iI m72))] [.int (iI m92)] := by
          intro m92 e_m92
          exact gx_iret hR ((if_pos hc3).trans ((congrArg (fun z0 => M_by_m40 S r t h n u z0) e_m40.symm).trans ((congrArg (fun z0 => M_by_m72 z0) e_m72.symm).trans (e_m92.symm)))) rfl dX3_by_92
        refine gx_icmp_ge (tgt := 90) X dX3_by_78 (by decide) (by omega) (fun hc78 => ?_) (fun hc78 => ?_)
        · refine gx_ldc (z := 1000000) X t_M_161 dX3_by_90 (by decide) ?_
          refine gx_sub [1, 2, 3, 4, 5, 6, 7, 8, 9, 0] rfl ?_
          exact J92 1000000 ((if_pos hc78).symm) 
        · refine gx_iload X dX3_by_81 0 rfl ?_
          refine gx_sipush (z := 1000) X dX3_by_83 (by decide) ?_
          refine gx_iadd X dX3_by_86 ?_
          refine gx_goto (tgt := 92) X dX3_by_87 (by decide) ?_
          refine gx_sub [1, 2, 3, 4, 5, 6, 7, 8, 9, 0] rfl ?_
          exact J92 (m72 + 1000) ((if_neg hc78).symm) 
      refine gx_if_eq (tgt := 70) X dX3_by_44 (by decide) (by omega) (fun hc44 => ?_) (fun hc44 => ?_)
      · refine gx_ldc (z := 1000000) X t_M_161 dX3_by_70 (by decide) ?_
        refine gx_sub [1, 2, 3, 4, 5, 6, 7, 8, 0] rfl ?_
        exact J72 1000000 ((if_pos hc44).symm) (by omega)
      · refine gx_aload_n X dX3_by_47 rfl 1 rfl ?_
        refine gM_r17 X dX3_by_48 ?_
        refine gx_iload_n X dX3_by_51 rfl 3 rfl ?_
        refine gx_iconst (z := 1) X dX3_by_52 rfl ?_
        refine gx_iadd X dX3_by_53 ?_
        refine gx_iload_n X dX3_by_54 rfl 4 rfl ?_
        refine gx_iload X dX3_by_55 5 rfl ?_
        refine gx_iload X dX3_by_57 6 rfl ?_
        refine gx_iconst (z := 1) X dX3_by_59 rfl ?_
        refine gx_iadd X dX3_by_60 ?_
        refine gx_iload X dX3_by_61 7 rfl ?_
        refine gx_callSI (As := [.int (iI (r + 1)), .int (iI t), .int (iI h), .int (iI (n + 1)), .int (iI u)]) (rest := [.ref (q 18)]) X (hD _) lk_M_157 (c_M_spot (r + 1) t h (n + 1) u ) jn_nil rfl ⟨by decide, by decide⟩ (Nat.le_of_ble_eq_true rfl) dX3_by_63 ?_
        have hq63_0 := M_spot_sp (r + 1) t h (n + 1) u
        refine gM_l17 (v := (S.2 17 (M_spot (r + 1) t h (n + 1) u))) X (by omega) rfl dX3_by_66 ?_
        have hr66 := InvM_a17 hI (M_spot (r + 1) t h (n + 1) u)
        refine gx_goto (tgt := 72) X dX3_by_67 (by decide) ?_
        refine gx_sub [1, 2, 3, 4, 5, 6, 7, 8, 0] rfl ?_
        exact J72 (S.2 17 (M_spot (r + 1) t h (n + 1) u)) ((if_neg hc44).symm) (by omega)
    refine gx_icmp_ge (tgt := 39) X dX3_by_12 (by decide) (by omega) (fun hc12 => ?_) (fun hc12 => ?_)
    · refine gx_iconst (z := 0) X dX3_by_39 rfl ?_
      refine gx_sub [0, 1, 2, 3, 4, 5, 6, 7] rfl ?_
      exact J40 0 ((if_pos hc12).symm) 
    · refine gx_aload_n X dX3_by_15 rfl 0 rfl ?_
      refine gx_iload_n X dX3_by_16 rfl 2 rfl ?_
      refine gx_iload_n X dX3_by_17 rfl 1 rfl ?_
      refine gx_aload_n X dX3_by_18 rfl 0 rfl ?_
      refine gM_r0 X dX3_by_19 ?_
      refine gx_iconst (z := 4) X dX3_by_22 rfl ?_
      refine gx_iload_n X dX3_by_23 rfl 1 rfl ?_
      refine gx_imul X dX3_by_24 ?_
      refine gx_iload X dX3_by_25 4 rfl ?_
      refine gx_iadd X dX3_by_27 ?_
      refine gM_l0 (v := (S.2 0 ((4 * c) + h))) X (by omega) rfl dX3_by_28 ?_
      have hr28 := InvM_a0 hI ((4 * c) + h)
      refine gx_callVI (As := [.int (iI r), .int (iI c), .int (iI (S.2 0 ((4 * c) + h)))]) (rest := []) X (hD _) lk_M_154 (ci := 3) rfl rfl 0 rfl (c_M_fits q S r c (S.2 0 ((4 * c) + h)) hI (by omega) (by omega) (by omega)) jn_all rfl ⟨by decide, by decide⟩ (Nat.le_of_ble_eq_true rfl) dX3_by_29 ?_
      have hq29_0 := M_fits_01 S r c (S.2 0 ((4 * c) + h))
      refine gx_if_eq (tgt := 39) X dX3_by_32 (by decide) (by omega) (fun hc32 => ?_) (fun hc32 => ?_)
      · refine gx_iconst (z := 0) X dX3_by_39 rfl ?_
        refine gx_sub [0, 1, 2, 3, 4, 5, 6, 7] rfl ?_
        exact J40 0 (((if_neg hc12).trans (if_pos hc32)).symm) 
      · refine gx_iconst (z := 1) X dX3_by_35 rfl ?_
        refine gx_goto (tgt := 40) X dX3_by_36 (by decide) ?_
        refine gx_sub [0, 1, 2, 3, 4, 5, 6, 7] rfl ?_
        exact J40 1 (((if_neg hc12).trans (if_neg hc32)).symm) 
def M_quarrelOf_l12 (S : Sta) (c : Int) (v2 : Int) : Nat → Int → (Int) ⊕ (Unit)
  | 0, v3 => .inr ()
  | fu + 1, v3 => if v2 ≤ v3 then .inr () else (fun (m79 : Int) => if m79 = 0 then M_quarrelOf_l12 S c v2 fu (v3 + 1) else if (S.2 16 ((16 * v2) + c)) = (S.2 16 ((16 * v3) + c)) then M_quarrelOf_l12 S c v2 fu (v3 + 1) else .inl v2) (if (S.2 13 ((16 * v2) + c)) = (S.2 13 ((16 * v3) + c)) then if (S.2 16 ((16 * v2) + c)) = (-99) then 0 else if (S.2 16 ((16 * v3) + c)) = (-99) then 0 else 1 else 0)
theorem M_quarrelOf_l12_s (S : Sta) (c : Int) (v2 : Int) (fu : Nat) (v3 : Int) : M_quarrelOf_l12 S c v2 (fu + 1) v3 = (if v2 ≤ v3 then .inr () else (fun (m79 : Int) => if m79 = 0 then M_quarrelOf_l12 S c v2 fu (v3 + 1) else if (S.2 16 ((16 * v2) + c)) = (S.2 16 ((16 * v3) + c)) then M_quarrelOf_l12 S c v2 fu (v3 + 1) else .inl v2) (if (S.2 13 ((16 * v2) + c)) = (S.2 13 ((16 * v3) + c)) then if (S.2 16 ((16 * v2) + c)) = (-99) then 0 else if (S.2 16 ((16 * v3) + c)) = (-99) then 0 else 1 else 0)) := rfl
def M_quarrelOf_l2 (S : Sta) (c : Int) : Nat → Int → (Int) ⊕ (Unit)
  | 0, v2 => .inr ()
  | fu + 1, v2 => if (M_seenRows S) ≤ v2 then .inr () else Sum.elim Sum.inl (fun (z12 : Unit) => M_quarrelOf_l2 S c fu (v2 + 1)) (M_quarrelOf_l12 S c v2 (31) 0)
theorem M_quarrelOf_l2_s (S : Sta) (c : Int) (fu : Nat) (v2 : Int) : M_quarrelOf_l2 S c (fu + 1) v2 = (if (M_seenRows S) ≤ v2 then .inr () else Sum.elim Sum.inl (fun (z12 : Unit) => M_quarrelOf_l2 S c fu (v2 + 1)) (M_quarrelOf_l12 S c v2 (31) 0)) := rfl
def M_quarrelOf_r2  : Int := (-99)
def M_quarrelOf (S : Sta) (c : Int) : Int := Sum.elim id (fun z2 => M_quarrelOf_r2 ) (M_quarrelOf_l2 S c (31) 0)
theorem M_quarrelOf_l12_rg (S : Sta) (c v2 : Int) : ∀ (n : Nat) (v3 : Int), M_quarrelOf_l12 S c v2 n v3 = .inl v2 ∨ M_quarrelOf_l12 S c v2 n v3 = .inr () := by
  intro n
  induction n with
  | zero => intro v3; exact Or.inr rfl
  | succ n ih =>
    intro v3
    rw [M_quarrelOf_l12_s]
    split
    · exact Or.inr rfl
    · generalize (if (S.2 13 ((16 * v2) + c)) = (S.2 13 ((16 * v3) + c)) then if (S.2 16 ((16 * v2) + c)) = (-99) then (0 : Int) else if (S.2 16 ((16 * v3) + c)) = (-99) then 0 else 1 else 0) = m
      show (if m = 0 then _ else _) = _ ∨ (if m = 0 then _ else _) = _
      split
      · exact ih _
      · split
        · exact ih _
        · exact Or.inl rfl
theorem M_quarrelOf_l2_rg (S : Sta) (c : Int) : ∀ (n : Nat) (v2 : Int), 0 ≤ v2 → (∃ z, M_quarrelOf_l2 S c n v2 = .inl z ∧ 0 ≤ z ∧ z < M_seenRows S) ∨ M_quarrelOf_l2 S c n v2 = .inr () := by
  intro n
  induction n with
  | zero => intro v2 _; exact Or.inr rfl
  | succ n ih =>
    intro v2 h0
    rw [M_quarrelOf_l2_s]
    split
    · exact Or.inr rfl
    · rcases M_quarrelOf_l12_rg S c v2 31 0 with e | e
      · rw [e]; exact Or.inl ⟨v2, rfl, h0, by omega⟩
      · rw [e]; exact ih _ (by omega)
theorem M_quarrelOf_rg {N : Int} (S : Sta) (c : Int) (hI : InvW N S) (_ : 0 ≤ c ∧ c < 16) : -99 ≤ M_quarrelOf S c ∧ M_quarrelOf S c ≤ 60 := by
  have h1 := InvM_s2 hI
  have h2 := M_seenRows_sp S
  rcases M_quarrelOf_l2_rg S c 31 0 (by omega) with ⟨z, h, h3, h4⟩ | h
  · have e : M_quarrelOf S c = z := congrArg (Sum.elim id _) h
    omega
  · have e : M_quarrelOf S c = -99 := congrArg (Sum.elim id _) h
    omega
set_option maxRecDepth 100000 in
theorem c_M_quarrelOf {l : Launch} {K : KK} {N : Int} (q : Nat → Nat) (S : Sta) (c : Int) (hI : InvW N S) (hp1 : 0 ≤ c ∧ c < 16) : CtI l yX3_quarrelOf cX3_quarrelOf 5 .int (1, 20) K [.ref (q 0), .int (iI c)] (wM K q S) (M_quarrelOf S c) (wM K q S) := by
  refine ctI_of (by decide) (Nat.le_of_ble_eq_true rfl) rfl ?_
  intro x X hD hR
  have hD : ∀ S9 : Sta, va_D (cx_A x) (wM K q S9) := fun S9 => va_D_same hD rfl
  have hs1 := InvM_s1 hI
  have hs2 := InvM_s2 hI
  have hs3 := InvM_s3 hI
  have hs4 := InvM_s4 hI
  have hw := M_seenRows_sp S
  refine gx_iconst (z := 0) X dX3_quarrelOf_0 rfl ?_
  refine gx_istore_n X dX3_quarrelOf_1 rfl (by decide) rfl ?_
  have L2 : ∀ (fu : Nat) (v2 : Int), (0 ≤ v2) → (v2 ≤ (M_seenRows S)) → ((M_seenRows S) - v2) < (fu : Int) → (∀ z2 : Unit, M_quarrelOf_l2 S c fu v2 = .inr z2 → True → GG l (rmK (1, 20)) K x (wM K q S) 125 [(0, .ref (q 0)), (1, .int (iI c))] []) → (∀ zz : Int, M_quarrelOf_l2 S c fu v2 = .inl zz → M_quarrelOf S c = zz) → GG l (rmK (1, 20)) K x (wM K q S) 2 [(0, .ref (q 0)), (1, .int (iI c)), (2, .int (iI v2))] [] := by
    intro fu
    induction fu with
    | zero => intro v2 hi2_0 hi2_1 hm2 K2 KR2; exact absurd hm2 (by omega)
    | succ fu ih =>
      intro v2 hi2_0 hi2_1 hm2 K2 KR2
      refine gx_iload_n X dX3_quarrelOf_2 rfl 2 rfl ?_
      refine gx_aload_n X dX3_quarrelOf_3 rfl 0 rfl ?_
      refine gx_callVI (As := []) (rest := [.int (iI v2)]) X (hD _) lk_M_150 (ci := 3) rfl rfl 0 rfl (c_M_seenRows q S  hI) jn_all rfl ⟨by decide, by decide⟩ (Nat.le_of_ble_eq_true rfl) dX3_quarrelOf_4 ?_
      have hq4_0 := M_seenRows_sp S 
      refine gx_icmp_ge (tgt := 125) X dX3_quarrelOf_7 (by decide) (by omega) (fun hc7 => ?_) (fun hc7 => ?_)
      · refine gx_sub [0, 1] rfl ?_
        exact K2 () ((M_quarrelOf_l2_s S c fu v2).trans (if_pos hc7)) trivial
      · refine gx_iconst (z := 0) X dX3_quarrelOf_10 rfl ?_
        refine gx_istore_n X dX3_quarrelOf_11 rfl (by decide) rfl ?_
        have L12 : ∀ (fu : Nat) (v3 : Int), (0 ≤ v3) → (v3 ≤ v2) → (v2 - v3) < (fu : Int) → (∀ z12 : Unit, M_quarrelOf_l12 S c v2 fu v3 = .inr z12 → True → GG l (rmK (1, 20)) K x (wM K q S) 119 [(0, .ref (q 0)), (1, .int (iI c)), (2, .int (iI v2))] []) → (∀ zz : Int, M_quarrelOf_l12 S c v2 fu v3 = .inl zz → M_quarrelOf S c = zz) → GG l (rmK (1, 20)) K x (wM K q S) 12 [(0, .ref (q 0)), (1, .int (iI c)), (2, .int (iI v2)), (3, .int (iI v3))] [] := by
          intro fu
          induction fu with
          | zero => intro v3 hi12_0 hi12_1 hm12 K12 KR12; exact absurd hm12 (by omega)
          | succ fu ih =>
            intro v3 hi12_0 hi12_1 hm12 K12 KR12
            refine gx_iload_n X dX3_quarrelOf_12 rfl 3 rfl ?_
            refine gx_iload_n X dX3_quarrelOf_13 rfl 2 rfl ?_
            refine gx_icmp_ge (tgt := 119) X dX3_quarrelOf_14 (by decide) (by omega) (fun hc14 => ?_) (fun hc14 => ?_)
            · refine gx_sub [0, 1, 2] rfl ?_
              exact K12 () ((M_quarrelOf_l12_s S c v2 fu v3).trans (if_pos hc14)) trivial
            · refine gx_aload_n X dX3_quarrelOf_17 rfl 0 rfl ?_
              refine gM_r13 X dX3_quarrelOf_18 ?_
              refine gx_bipush (z := 16) X dX3_quarrelOf_21 (by decide) ?_
              refine gx_iload_n X dX3_quarrelOf_23 rfl 2 rfl ?_
              refine gx_imul X dX3_quarrelOf_24 ?_
              refine gx_iload_n X dX3_quarrelOf_25 rfl 1 rfl ?_
              refine gx_iadd X dX3_quarrelOf_26 ?_
              refine gM_l13 (v := (S.2 13 ((16 * v2) + c))) X (by omega) rfl dX3_quarrelOf_27 ?_
              have hr27 := InvM_a13 hI ((16 * v2) + c)
              refine gx_aload_n X dX3_quarrelOf_28 rfl 0 rfl ?_
              refine gM_r13 X dX3_quarrelOf_29 ?_
              refine gx_bipush (z := 16) X dX3_quarrelOf_32 (by decide) ?_
              refine gx_iload_n X dX3_quarrelOf_34 rfl 3 rfl ?_
              refine gx_imul X dX3_quarrelOf_35 ?_
              refine gx_iload_n X dX3_quarrelOf_36 rfl 1 rfl ?_
              refine gx_iadd X dX3_quarrelOf_37 ?_
              refine gM_l13 (v := (S.2 13 ((16 * v3) + c))) X (by omega) rfl dX3_quarrelOf_38 ?_
              have hr38 := InvM_a13 hI ((16 * v3) + c)
              have J79 : ∀ (m79 : Int), m79 = (if (S.2 13 ((16 * v2) + c)) = (S.2 13 ((16 * v3) + c)) then if (S.2 16 ((16 * v2) + c)) = (-99) then 0 else if (S.2 16 ((16 * v3) + c)) = (-99) then 0 else 1 else 0) → GG l (rmK (1, 20)) K x (wM K q S) 79 [(0, .ref (q 0)), (1, .int (iI c)), (2, .int (iI v2)), (3, .int (iI v3))] [.int (iI m79)] := by
                intro m79 e_m79
                refine gx_istore X dX3_quarrelOf_79 (by decide) rfl ?_
                refine gx_iload X dX3_quarrelOf_81 0 rfl ?_
                refine gx_if_eq (tgt := 113) X dX3_quarrelOf_83 (by decide) (by omega) (fun hc83 => ?_) (fun hc83 => ?_)
                · refine gx_iinc X dX3_quarrelOf_113 4 rfl (by decide) rfl ?_
                  refine gx_goto (tgt := 12) X dX3_quarrelOf_116 (by decide) ?_
                  refine gx_sub [2, 3, 4, 0] rfl ?_
                  subst e_m79
                  exact ih _ (by omega) (by omega) (by omega) (fun z e hx => K12 z ((M_quarrelOf_l12_s S c v2 fu v3).trans (((if_neg hc14).trans (if_pos hc83)).trans e)) hx) (fun z e => KR12 z ((M_quarrelOf_l12_s S c v2 fu v3).trans (((if_neg hc14).trans (if_pos hc83)).trans e)))
                · refine gx_aload_n X dX3_quarrelOf_86 rfl 1 rfl ?_
                  refine gM_r16 X dX3_quarrelOf_87 ?_
                  refine gx_bipush (z := 16) X dX3_quarrelOf_90 (by decide) ?_
                  refine gx_iload_n X dX3_quarrelOf_92 rfl 3 rfl ?_
                  refine gx_imul X dX3_quarrelOf_93 ?_
                  refine gx_iload_n X dX3_quarrelOf_94 rfl 2 rfl ?_
                  refine gx_iadd X dX3_quarrelOf_95 ?_
                  refine gM_l16 (v := (S.2 16 ((16 * v2) + c))) X (by omega) rfl dX3_quarrelOf_96 ?_
                  have hr96 := InvM_a16 hI ((16 * v2) + c)
                  refine gx_aload_n X dX3_quarrelOf_97 rfl 1 rfl ?_
                  refine gM_r16 X dX3_quarrelOf_98 ?_
                  refine gx_bipush (z := 16) X dX3_quarrelOf_101 (by decide) ?_
                  refine gx_iload_n X dX3_quarrelOf_103 rfl 4 rfl ?_
                  refine gx_imul X dX3_quarrelOf_104 ?_
                  refine gx_iload_n X dX3_quarrelOf_105 rfl 2 rfl ?_
                  refine gx_iadd X dX3_quarrelOf_106 ?_
                  refine gM_l16 (v := (S.2 16 ((16 * v3) + c))) X (by omega) rfl dX3_quarrelOf_107 ?_
                  have hr107 := InvM_a16 hI ((16 * v3) + c)
                  refine gx_icmp_eq (tgt := 113) X dX3_quarrelOf_108 (by decide) (by omega) (fun hc108 => ?_) (fun hc108 => ?_)
                  · refine gx_iinc X dX3_quarrelOf_113 4 rfl (by decide) rfl ?_
                    refine gx_goto (tgt := 12) X dX3_quarrelOf_116 (by decide) ?_
                    refine gx_sub [2, 3, 4, 0] rfl ?_
                    subst e_m79
                    exact ih _ (by omega) (by omega) (by omega) (fun z e hx => K12 z ((M_quarrelOf_l12_s S c v2 fu v3).trans (((if_neg hc14).trans ((if_neg hc83).trans (if_pos hc108))).trans e)) hx) (fun z e => KR12 z ((M_quarrelOf_l12_s S c v2 fu v3).trans (((if_neg hc14).trans ((if_neg hc83).trans (if_pos hc108))).trans e)))
                  · refine gx_iload_n X dX3_quarrelOf_111 rfl 3 rfl ?_
                    subst e_m79
                    exact gx_iret hR (KR12 _ ((M_quarrelOf_l12_s S c v2 fu v3).trans ((if_neg hc14).trans ((if_neg hc83).trans (if_neg hc108))))) rfl dX3_quarrelOf_112
              refine gx_icmp_ne (tgt := 78) X dX3_quarrelOf_39 (by decide) (by omega) (fun hc39 => ?_) (fun hc39 => ?_)
              · refine gx_iconst (z := 0) X dX3_quarrelOf_78 rfl ?_
                refine gx_sub [0, 1, 2, 3] rfl ?_
                exact J79 0 ((if_neg hc39).symm) 
              · refine gx_aload_n X dX3_quarrelOf_42 rfl 0 rfl ?_
                refine gM_r16 X dX3_quarrelOf_43 ?_
                refine gx_bipush (z := 16) X dX3_quarrelOf_46 (by decide) ?_
                refine gx_iload_n X dX3_quarrelOf_48 rfl 2 rfl ?_
                refine gx_imul X dX3_quarrelOf_49 ?_
                refine gx_iload_n X dX3_quarrelOf_50 rfl 1 rfl ?_
                refine gx_iadd X dX3_quarrelOf_51 ?_
                refine gM_l16 (v := (S.2 16 ((16 * v2) + c))) X (by omega) rfl dX3_quarrelOf_52 ?_
                have hr52 := InvM_a16 hI ((16 * v2) + c)
                refine gx_bipush (z := (-99)) X dX3_quarrelOf_53 (by decide) ?_
                refine gx_icmp_eq (tgt := 78) X dX3_quarrelOf_55 (by decide) (by omega) (fun hc55 => ?_) (fun hc55 => ?_)
                · refine gx_iconst (z := 0) X dX3_quarrelOf_78 rfl ?_
                  refine gx_sub [0, 1, 2, 3] rfl ?_
                  exact J79 0 (((if_pos hc39).trans (if_pos hc55)).symm) 
                · refine gx_aload_n X dX3_quarrelOf_58 rfl 0 rfl ?_
                  refine gM_r16 X dX3_quarrelOf_59 ?_
                  refine gx_bipush (z := 16) X dX3_quarrelOf_62 (by decide) ?_
                  refine gx_iload_n X dX3_quarrelOf_64 rfl 3 rfl ?_
                  refine gx_imul X dX3_quarrelOf_65 ?_
                  refine gx_iload_n X dX3_quarrelOf_66 rfl 1 rfl ?_
                  refine gx_iadd X dX3_quarrelOf_67 ?_
                  refine gM_l16 (v := (S.2 16 ((16 * v3) + c))) X (by omega) rfl dX3_quarrelOf_68 ?_
                  have hr68 := InvM_a16 hI ((16 * v3) + c)
                  refine gx_bipush (z := (-99)) X dX3_quarrelOf_69 (by decide) ?_
                  refine gx_icmp_eq (tgt := 78) X dX3_quarrelOf_71 (by decide) (by omega) (fun hc71 => ?_) (fun hc71 => ?_)
                  · refine gx_iconst (z := 0) X dX3_quarrelOf_78 rfl ?_
                    refine gx_sub [0, 1, 2, 3] rfl ?_
                    exact J79 0 (((if_pos hc39).trans ((if_neg hc55).trans (if_pos hc71))).symm) 
                  · refine gx_iconst (z := 1) X dX3_quarrelOf_74 rfl ?_
                    refine gx_goto (tgt := 79) X dX3_quarrelOf_75 (by decide) ?_
                    refine gx_sub [0, 1, 2, 3] rfl ?_
                    exact J79 1 (((if_pos hc39).trans ((if_neg hc55).trans (if_neg hc71))).symm) 
        refine gx_sub [1, 2, 3, 0] rfl ?_
        refine L12 (31) 0 (by omega) (by omega) (by omega) (fun z12 e12 hx12 => ?_) (fun z e => KR2 z ((M_quarrelOf_l2_s S c fu v2).trans ((if_neg hc7).trans (congrArg (Sum.elim Sum.inl _) e))))
        refine gx_iinc X dX3_quarrelOf_119 2 rfl (by decide) rfl ?_
        refine gx_goto (tgt := 2) X dX3_quarrelOf_122 (by decide) ?_
        refine gx_sub [1, 2, 0] rfl ?_
        exact ih (v2 + 1) (by omega) (by omega) (by omega) (fun z e hx => K2 z ((M_quarrelOf_l2_s S c fu v2).trans (((if_neg hc7).trans (congrArg (Sum.elim Sum.inl _) e12)).trans e)) hx) (fun z e => KR2 z ((M_quarrelOf_l2_s S c fu v2).trans (((if_neg hc7).trans (congrArg (Sum.elim Sum.inl _) e12)).trans e)))
  refine gx_sub [1, 2, 0] rfl ?_
  refine L2 (31) 0 (by omega) (by omega) (by omega) (fun z2 e2 hx2 => ?_) (fun z e => congrArg (Sum.elim id (fun z2 => M_quarrelOf_r2 )) e)
  refine gx_bipush (z := (-99)) X dX3_quarrelOf_125 (by decide) ?_
  exact gx_iret hR (congrArg (Sum.elim id (fun z2 => M_quarrelOf_r2 )) e2) rfl dX3_quarrelOf_127
def M_threading_l46 (S : Sta) (c : Int) (t : Int) : Nat → Int → Int → Int
  | 0, v3, v4 => v3
  | fu + 1, v3, v4 => if (M_seenRows S) ≤ v4 then v3 else (fun (m104 : Int) => M_threading_l46 S c t fu m104 (v4 + 1)) (if (S.2 13 ((16 * v4) + c)) = t then if (S.2 16 ((16 * v4) + c)) = (-99) then v3 else (S.2 16 ((16 * v4) + c)) else v3)
theorem M_threading_l46_s (S : Sta) (c : Int) (t : Int) (fu : Nat) (v3 : Int) (v4 : Int) : M_threading_l46 S c t (fu + 1) v3 v4 = (if (M_seenRows S) ≤ v4 then v3 else (fun (m104 : Int) => M_threading_l46 S c t fu m104 (v4 + 1)) (if (S.2 13 ((16 * v4) + c)) = t then if (S.2 16 ((16 * v4) + c)) = (-99) then v3 else (S.2 16 ((16 * v4) + c)) else v3)) := rfl
def M_threading (S : Sta) (c : Int) (t : Int) : Int := if (M_noCard S c) = 0 then if (M_in t 0 3) = 0 then (-1) else if (M_quarrelOf S c) = (-99) then (M_threading_l46 S c t (31) (-99) 0) else (-3) else (-1)
set_option maxRecDepth 100000 in
theorem c_M_threading {l : Launch} {K : KK} {N : Int} (q : Nat → Nat) (S : Sta) (c : Int) (t : Int) (hI : InvW N S) (hp1 : ok32 c) (hp2 : ok32 t) : CtI l yX3_threading cX3_threading 5 .int (2, 46) K [.ref (q 0), .int (iI c), .int (iI t)] (wM K q S) (M_threading S c t) (wM K q S) := by
  refine ctI_of (by decide) (Nat.le_of_ble_eq_true rfl) rfl ?_
  intro x X hD hR
  have hD : ∀ S9 : Sta, va_D (cx_A x) (wM K q S9) := fun S9 => va_D_same hD rfl
  have hs1 := InvM_s1 hI
  have hs2 := InvM_s2 hI
  have hs3 := InvM_s3 hI
  have hs4 := InvM_s4 hI
  have hw := M_seenRows_sp S
  refine gx_aload_n X dX3_threading_0 rfl 0 rfl ?_
  refine gx_iconst (z := 0) X dX3_threading_1 rfl ?_
  refine gM_t0 X (hD _) (InvM_t hI) dX3_threading_2 ?_
  refine gx_aload_n X dX3_threading_5 rfl 0 rfl ?_
  refine gx_iload_n X dX3_threading_6 rfl 1 rfl ?_
  refine gx_callVI (As := [.int (iI c)]) (rest := []) X (hD _) lk_M_97 (ci := 3) rfl rfl 0 rfl (c_M_noCard q S c hI (by omega)) jn_all rfl ⟨by decide, by decide⟩ (Nat.le_of_ble_eq_true rfl) dX3_threading_7 ?_
  have hq7_0 := M_noCard_sp S c
  refine gx_if_ne (tgt := 25) X dX3_threading_10 (by decide) (by omega) (fun hc10 => ?_) (fun hc10 => ?_)
  · refine gx_iconst (z := (-1)) X dX3_threading_25 rfl ?_
    exact gx_iret hR (if_neg hc10) rfl dX3_threading_26
  · refine gx_iload_n X dX3_threading_13 rfl 2 rfl ?_
    refine gx_i2l X dX3_threading_14 (by omega) ?_
    refine gx_lconst (v := lI 0) X dX3_threading_15 rfl ?_
    refine gx_ldc2 (v := lI 3) X t_M_101 dX3_threading_16 ?_
    refine gx_callSI (As := [.long (lI t), .long (lI 0), .long (lI 3)]) (rest := []) X (hD _) lk_M_88 (c_M_in t 0 3 (by omega) (by omega) (by omega)) jn_nil rfl ⟨by decide, by decide⟩ (Nat.le_of_ble_eq_true rfl) dX3_threading_19 ?_
    have hq19_0 := M_in_sp t 0 3
    refine gx_if_ne (tgt := 27) X dX3_threading_22 (by decide) (by omega) (fun hc22 => ?_) (fun hc22 => ?_)
    · refine gx_aload_n X dX3_threading_27 rfl 0 rfl ?_
      refine gx_iload_n X dX3_threading_28 rfl 1 rfl ?_
      refine gx_callVI (As := [.int (iI c)]) (rest := []) X (hD _) lk_M_178 (ci := 3) rfl rfl 0 rfl (c_M_quarrelOf q S c hI (by omega)) jn_all rfl ⟨by decide, by decide⟩ (Nat.le_of_ble_eq_true rfl) dX3_threading_29 ?_
      have hp29_0 := M_quarrelOf_rg S c hI (by omega)
      refine gx_bipush (z := (-99)) X dX3_threading_32 (by decide) ?_
      refine gx_icmp_eq (tgt := 40) X dX3_threading_34 (by decide) (by omega) (fun hc34 => ?_) (fun hc34 => ?_)
      · refine gx_bipush (z := (-99)) X dX3_threading_40 (by decide) ?_
        refine gx_istore_n X dX3_threading_42 rfl (by decide) rfl ?_
        refine gx_iconst (z := 0) X dX3_threading_43 rfl ?_
        refine gx_istore X dX3_threading_44 (by decide) rfl ?_
        have L46 : ∀ (fu : Nat) (v3 : Int) (v4 : Int), (0 ≤ v4) → (v4 ≤ (M_seenRows S)) → ((M_seenRows S) - v4) < (fu : Int) → (∀ z46 : Int, M_threading_l46 S c t fu v3 v4 = z46 → True → GG l (rmK (2, 46)) K x (wM K q S) 111 [(0, .ref (q 0)), (1, .int (iI c)), (2, .int (iI t)), (3, .int (iI z46))] []) → GG l (rmK (2, 46)) K x (wM K q S) 46 [(0, .ref (q 0)), (1, .int (iI c)), (2, .int (iI t)), (3, .int (iI v3)), (4, .int (iI v4))] [] := by
          intro fu
          induction fu with
          | zero => intro v3 v4 hi46_0 hi46_1 hm46 K46; exact absurd hm46 (by omega)
          | succ fu ih =>
            intro v3 v4 hi46_0 hi46_1 hm46 K46
            refine gx_iload X dX3_threading_46 4 rfl ?_
            refine gx_aload_n X dX3_threading_48 rfl 0 rfl ?_
            refine gx_callVI (As := []) (rest := [.int (iI v4)]) X (hD _) lk_M_150 (ci := 3) rfl rfl 0 rfl (c_M_seenRows q S  hI) jn_all rfl ⟨by decide, by decide⟩ (Nat.le_of_ble_eq_true rfl) dX3_threading_49 ?_
            have hq49_0 := M_seenRows_sp S 
            refine gx_icmp_ge (tgt := 111) X dX3_threading_52 (by decide) (by omega) (fun hc52 => ?_) (fun hc52 => ?_)
            · refine gx_sub [0, 1, 2, 3] rfl ?_
              exact K46 v3 ((M_threading_l46_s S c t fu v3 v4).trans (if_pos hc52)) trivial
            · refine gx_aload_n X dX3_threading_55 rfl 0 rfl ?_
              refine gM_r13 X dX3_threading_56 ?_
              refine gx_bipush (z := 16) X dX3_threading_59 (by decide) ?_
              refine gx_iload X dX3_threading_61 4 rfl ?_
              refine gx_imul X dX3_threading_63 ?_
              refine gx_iload_n X dX3_threading_64 rfl 1 rfl ?_
              refine gx_iadd X dX3_threading_65 ?_
              refine gM_l13 (v := (S.2 13 ((16 * v4) + c))) X (by omega) rfl dX3_threading_66 ?_
              have hr66 := InvM_a13 hI ((16 * v4) + c)
              refine gx_iload_n X dX3_threading_67 rfl 2 rfl ?_
              have J104 : ∀ (m104 : Int), m104 = (if (S.2 13 ((16 * v4) + c)) = t then if (S.2 16 ((16 * v4) + c)) = (-99) then v3 else (S.2 16 ((16 * v4) + c)) else v3) → GG l (rmK (2, 46)) K x (wM K q S) 104 [(0, .ref (q 0)), (1, .int (iI c)), (2, .int (iI t)), (3, .int (iI v3)), (4, .int (iI v4))] [.int (iI m104)] := by
                intro m104 e_m104
                refine gx_istore_n X dX3_threading_104 rfl (by decide) rfl ?_
                refine gx_iinc X dX3_threading_105 4 rfl (by decide) rfl ?_
                refine gx_goto (tgt := 46) X dX3_threading_108 (by decide) ?_
                refine gx_sub [2, 3, 4, 1, 0] rfl ?_
                subst e_m104
                exact ih _ _ (by omega) (by omega) (by omega) (fun z e hx => K46 z ((M_threading_l46_s S c t fu v3 v4).trans ((if_neg hc52).trans e)) hx)
              refine gx_icmp_ne (tgt := 103) X dX3_threading_68 (by decide) (by omega) (fun hc68 => ?_) (fun hc68 => ?_)
              · refine gx_iload_n X dX3_threading_103 rfl 3 rfl ?_
                refine gx_sub [0, 1, 2, 3, 4] rfl ?_
                exact J104 v3 ((if_neg hc68).symm) 
              · refine gx_aload_n X dX3_threading_71 rfl 0 rfl ?_
                refine gM_r16 X dX3_threading_72 ?_
                refine gx_bipush (z := 16) X dX3_threading_75 (by decide) ?_
                refine gx_iload X dX3_threading_77 4 rfl ?_
                refine gx_imul X dX3_threading_79 ?_
                refine gx_iload_n X dX3_threading_80 rfl 1 rfl ?_
                refine gx_iadd X dX3_threading_81 ?_
                refine gM_l16 (v := (S.2 16 ((16 * v4) + c))) X (by omega) rfl dX3_threading_82 ?_
                have hr82 := InvM_a16 hI ((16 * v4) + c)
                refine gx_bipush (z := (-99)) X dX3_threading_83 (by decide) ?_
                refine gx_icmp_eq (tgt := 103) X dX3_threading_85 (by decide) (by omega) (fun hc85 => ?_) (fun hc85 => ?_)
                · refine gx_iload_n X dX3_threading_103 rfl 3 rfl ?_
                  refine gx_sub [0, 1, 2, 3, 4] rfl ?_
                  exact J104 v3 (((if_pos hc68).trans (if_pos hc85)).symm) 
                · refine gx_aload_n X dX3_threading_88 rfl 0 rfl ?_
                  refine gM_r16 X dX3_threading_89 ?_
                  refine gx_bipush (z := 16) X dX3_threading_92 (by decide) ?_
                  refine gx_iload X dX3_threading_94 4 rfl ?_
                  refine gx_imul X dX3_threading_96 ?_
                  refine gx_iload_n X dX3_threading_97 rfl 1 rfl ?_
                  refine gx_iadd X dX3_threading_98 ?_
                  refine gM_l16 (v := (S.2 16 ((16 * v4) + c))) X (by omega) rfl dX3_threading_99 ?_
                  refine gx_goto (tgt := 104) X dX3_threading_100 (by decide) ?_
                  refine gx_sub [0, 1, 2, 3, 4] rfl ?_
                  exact J104 (S.2 16 ((16 * v4) + c)) (((if_pos hc68).trans (if_neg hc85)).symm) 
        refine gx_sub [2, 3, 4, 1, 0] rfl ?_
        refine L46 (31) (-99) 0 (by omega) (by omega) (by omega) (fun z46 e46 hx46 => ?_)
        refine gx_iload_n X dX3_threading_111 rfl 3 rfl ?_
        exact gx_iret hR ((if_pos hc10).trans ((if_neg hc22).trans ((if_pos hc34).trans (e46)))) rfl dX3_threading_112
      · refine gx_bipush (z := (-3)) X dX3_threading_37 (by decide) ?_
        exact gx_iret hR ((if_pos hc10).trans ((if_neg hc22).trans (if_neg hc34))) rfl dX3_threading_39
    · refine gx_iconst (z := (-1)) X dX3_threading_25 rfl ?_
      exact gx_iret hR ((if_pos hc10).trans (if_pos hc22)) rfl dX3_threading_26
def M_quarrel (S : Sta) (c : Int) : Int := if (M_noCard S c) = 0 then (M_quarrelOf S c) else (-1)
set_option maxRecDepth 100000 in
theorem c_M_quarrel {l : Launch} {K : KK} {N : Int} (q : Nat → Nat) (S : Sta) (c : Int) (hI : InvW N S) (hp1 : ok32 c) : CtI l yX3_quarrel cX3_quarrel 2 .int (2, 46) K [.ref (q 0), .int (iI c)] (wM K q S) (M_quarrel S c) (wM K q S) := by
  refine ctI_of (by decide) (Nat.le_of_ble_eq_true rfl) rfl ?_
  intro x X hD hR
  have hD : ∀ S9 : Sta, va_D (cx_A x) (wM K q S9) := fun S9 => va_D_same hD rfl
  have hs1 := InvM_s1 hI
  have hs2 := InvM_s2 hI
  have hs3 := InvM_s3 hI
  have hs4 := InvM_s4 hI
  refine gx_aload_n X dX3_quarrel_0 rfl 0 rfl ?_
  refine gx_iconst (z := 0) X dX3_quarrel_1 rfl ?_
  refine gM_t0 X (hD _) (InvM_t hI) dX3_quarrel_2 ?_
  refine gx_aload_n X dX3_quarrel_5 rfl 0 rfl ?_
  refine gx_iload_n X dX3_quarrel_6 rfl 1 rfl ?_
  refine gx_callVI (As := [.int (iI c)]) (rest := []) X (hD _) lk_M_97 (ci := 3) rfl rfl 0 rfl (c_M_noCard q S c hI (by omega)) jn_all rfl ⟨by decide, by decide⟩ (Nat.le_of_ble_eq_true rfl) dX3_quarrel_7 ?_
  have hq7_0 := M_noCard_sp S c
  have J22 : ∀ (m22 : Int), m22 = (if (M_noCard S c) = 0 then (M_quarrelOf S c) else (-1)) → GG l (rmK (2, 46)) K x (wM K q S) 22 [(0, .ref (q 0)), (1, .int (iI c))] [.int (iI m22)] := by
    intro m22 e_m22
    exact gx_iret hR (e_m22.symm) rfl dX3_quarrel_22
  refine gx_if_eq (tgt := 17) X dX3_quarrel_10 (by decide) (by omega) (fun hc10 => ?_) (fun hc10 => ?_)
  · refine gx_aload_n X dX3_quarrel_17 rfl 0 rfl ?_
    refine gx_iload_n X dX3_quarrel_18 rfl 1 rfl ?_
    refine gx_callVI (As := [.int (iI c)]) (rest := []) X (hD _) lk_M_178 (ci := 3) rfl rfl 0 rfl (c_M_quarrelOf q S c hI (by omega)) jn_all rfl ⟨by decide, by decide⟩ (Nat.le_of_ble_eq_true rfl) dX3_quarrel_19 ?_
    have hp19_0 := M_quarrelOf_rg S c hI (by omega)
    refine gx_sub [0, 1] rfl ?_
    exact J22 (M_quarrelOf S c) ((if_pos hc10).symm) 
  · refine gx_iconst (z := (-1)) X dX3_quarrel_13 rfl ?_
    refine gx_goto (tgt := 22) X dX3_quarrel_14 (by decide) ?_
    refine gx_sub [0, 1] rfl ?_
    exact J22 (-1) ((if_neg hc10).symm) 
def M_would_l12 (S : Sta) (c : Int) (p : Int) (t : Int) : Nat → Int → Int → Int → Int → Int
  | 0, v4, v5, v6, v7 => v6
  | fu + 1, v4, v5, v6, v7 => if (M_seenRows S) ≤ v7 then v6 else (fun (m43 : Int) => (fun (m96a : Int) (m96b : Int) => (fun (m127 : Int) => M_would_l12 S c p t fu m96a m96b m127 (v7 + 1)) (if v6 = 0 then 0 else if (M_fits S v7 c (S.2 0 ((4 * c) + m96b))) = 0 then 0 else 1)) (if m43 = 2 then v4 else ((v4 + ((if m43 = 0 then 1 else 3) : Int)) % 4)) (if m43 = 2 then ((if v7 = 0 then 0 else v5) : Int) else (((m43 + 8) - ((v4 + ((if m43 = 0 then 1 else 3) : Int)) % 4)) % 4))) (if v7 = p then t else (S.2 12 ((16 * v7) + c)))
theorem M_would_l12_s (S : Sta) (c : Int) (p : Int) (t : Int) (fu : Nat) (v4 : Int) (v5 : Int) (v6 : Int) (v7 : Int) : M_would_l12 S c p t (fu + 1) v4 v5 v6 v7 = (if (M_seenRows S) ≤ v7 then v6 else (fun (m43 : Int) => (fun (m96a : Int) (m96b : Int) => (fun (m127 : Int) => M_would_l12 S c p t fu m96a m96b m127 (v7 + 1)) (if v6 = 0 then 0 else if (M_fits S v7 c (S.2 0 ((4 * c) + m96b))) = 0 then 0 else 1)) (if m43 = 2 then v4 else ((v4 + ((if m43 = 0 then 1 else 3) : Int)) % 4)) (if m43 = 2 then ((if v7 = 0 then 0 else v5) : Int) else (((m43 + 8) - ((v4 + ((if m43 = 0 then 1 else 3) : Int)) % 4)) % 4))) (if v7 = p then t else (S.2 12 ((16 * v7) + c)))) := rfl
def M_would (S : Sta) (c : Int) (p : Int) (t : Int) : Int := (M_would_l12 S c p t (31) 0 0 1 0)
theorem M_would_l12_01 (S : Sta) (c p t : Int) : ∀ (n : Nat) (v4 v5 v6 v7 : Int), (v6 = 0 ∨ v6 = 1) → (M_would_l12 S c p t n v4 v5 v6 v7 = 0 ∨ M_would_l12 S c p t n v4 v5 v6 v7 = 1) := by
  intro n
  induction n with
  | zero => intro v4 v5 v6 v7 h; exact h
  | succ n ih =>
    intro v4 v5 v6 v7 h
    rw [M_would_l12_s]
    split
    · exact h
    · refine ih _ _ _ _ ?_
      omega
theorem M_would_01 (S : Sta) (c p t : Int) : M_would S c p t = 0 ∨ M_would S c p t = 1 := M_would_l12_01 S c p t 31 0 0 1 0 (Or.inr rfl)
set_option maxRecDepth 100000 in
theorem c_M_would {l : Launch} {K : KK} {N : Int} (q : Nat → Nat) (S : Sta) (c : Int) (p : Int) (t : Int) (hI : InvW N S) (hp1 : 0 ≤ c ∧ c < 16) (hp2 : ok32 p) (hp3 : 0 ≤ t ∧ t ≤ 2) : CtI l yX3_would cX3_would 9 .boolean (1, 23) K [.ref (q 0), .int (iI c), .int (iI p), .int (iI t)] (wM K q S) (M_would S c p t) (wM K q S) := by
  refine ctI_of (by decide) (Nat.le_of_ble_eq_true rfl) (narrow_bool (M_would_01 S c p t)) ?_
  intro x X hD hR
  have hD : ∀ S9 : Sta, va_D (cx_A x) (wM K q S9) := fun S9 => va_D_same hD rfl
  have hs1 := InvM_s1 hI
  have hs2 := InvM_s2 hI
  have hs3 := InvM_s3 hI
  have hs4 := InvM_s4 hI
  have hw := M_seenRows_sp S
  refine gx_iconst (z := 0) X dX3_would_0 rfl ?_
  refine gx_istore X dX3_would_1 (by decide) rfl ?_
  refine gx_iconst (z := 0) X dX3_would_3 rfl ?_
  refine gx_istore X dX3_would_4 (by decide) rfl ?_
  refine gx_iconst (z := 1) X dX3_would_6 rfl ?_
  refine gx_istore X dX3_would_7 (by decide) rfl ?_
  refine gx_iconst (z := 0) X dX3_would_9 rfl ?_
  refine gx_istore X dX3_would_10 (by decide) rfl ?_
  have L12 : ∀ (fu : Nat) (v4 : Int) (v5 : Int) (v6 : Int) (v7 : Int), (0 ≤ v7) → (v7 ≤ (M_seenRows S)) → (0 ≤ v4 ∧ v4 ≤ 3) → (0 ≤ v5 ∧ v5 ≤ 3) → (0 ≤ v6 ∧ v6 ≤ 1) → ((M_seenRows S) - v7) < (fu : Int) → (∀ z12 : Int, M_would_l12 S c p t fu v4 v5 v6 v7 = z12 → True → GG l (rmK (1, 23)) K x (wM K q S) 135 [(0, .ref (q 0)), (1, .int (iI c)), (2, .int (iI p)), (3, .int (iI t)), (6, .int (iI z12))] []) → GG l (rmK (1, 23)) K x (wM K q S) 12 [(0, .ref (q 0)), (1, .int (iI c)), (2, .int (iI p)), (3, .int (iI t)), (4, .int (iI v4)), (5, .int (iI v5)), (6, .int (iI v6)), (7, .int (iI v7))] [] := by
    intro fu
    induction fu with
    | zero => intro v4 v5 v6 v7 hi12_0 hi12_1 hi12_2 hi12_3 hi12_4 hm12 K12; exact absurd hm12 (by omega)
    | succ fu ih =>
      intro v4 v5 v6 v7 hi12_0 hi12_1 hi12_2 hi12_3 hi12_4 hm12 K12
      refine gx_iload X dX3_would_12 7 rfl ?_
      refine gx_aload_n X dX3_would_14 rfl 0 rfl ?_
      refine gx_callVI (As := []) (rest := [.int (iI v7)]) X (hD _) lk_M_150 (ci := 3) rfl rfl 0 rfl (c_M_seenRows q S  hI) jn_all rfl ⟨by decide, by decide⟩ (Nat.le_of_ble_eq_true rfl) dX3_would_15 ?_
      have hq15_0 := M_seenRows_sp S 
      refine gx_icmp_ge (tgt := 135) X dX3_would_18 (by decide) (by omega) (fun hc18 => ?_) (fun hc18 => ?_)
      · refine gx_sub [0, 1, 2, 3, 6] rfl ?_
        exact K12 v6 ((M_would_l12_s S c p t fu v4 v5 v6 v7).trans (if_pos hc18)) trivial
      · refine gx_iload X dX3_would_21 7 rfl ?_
        refine gx_iload_n X dX3_would_23 rfl 2 rfl ?_
        have J43 : ∀ (m43 : Int), m43 = (if v7 = p then t else (S.2 12 ((16 * v7) + c))) → (0 ≤ m43 ∧ m43 ≤ 2) → GG l (rmK (1, 23)) K x (wM K q S) 43 [(0, .ref (q 0)), (1, .int (iI c)), (2, .int (iI p)), (3, .int (iI t)), (4, .int (iI v4)), (5, .int (iI v5)), (6, .int (iI v6)), (7, .int (iI v7))] [.int (iI m43)] := by
          intro m43 e_m43 hf43_0
          refine gx_istore X dX3_would_43 (by decide) rfl ?_
          refine gx_iload X dX3_would_45 0 rfl ?_
          refine gx_iconst (z := 2) X dX3_would_47 rfl ?_
          have J96 : ∀ (m96a : Int) (m96b : Int), m96a = (if m43 = 2 then v4 else ((v4 + ((if m43 = 0 then 1 else 3) : Int)) % 4)) → m96b = (if m43 = 2 then ((if v7 = 0 then 0 else v5) : Int) else (((m43 + 8) - ((v4 + ((if m43 = 0 then 1 else 3) : Int)) % 4)) % 4)) → GG l (rmK (1, 23)) K x (wM K q S) 96 [(0, .ref (q 0)), (1, .int (iI c)), (2, .int (iI p)), (3, .int (iI t)), (4, .int (iI m96a)), (5, .int (iI m96b)), (6, .int (iI v6)), (7, .int (iI v7)), (8, .int (iI m43))] [] := by
            intro m96a m96b e_m96a e_m96b
            refine gx_iload X dX3_would_96 6 rfl ?_
            have J127 : ∀ (m127 : Int), m127 = (if v6 = 0 then 0 else if (M_fits S v7 c (S.2 0 ((4 * c) + m96b))) = 0 then 0 else 1) → GG l (rmK (1, 23)) K x (wM K q S) 127 [(0, .ref (q 0)), (1, .int (iI c)), (2, .int (iI p)), (3, .int (iI t)), (4, .int (iI m96a)), (5, .int (iI m96b)), (6, .int (iI v6)), (7, .int (iI v7)), (8, .int (iI m43))] [.int (iI m127)] := by
              intro m127 e_m127
              refine gx_istore X dX3_would_127 (by decide) rfl ?_
              refine gx_iinc X dX3_would_129 7 rfl (by decide) rfl ?_
              refine gx_goto (tgt := 12) X dX3_would_132 (by decide) ?_
              refine gx_sub [2, 3, 4, 5, 6, 7, 1, 0] rfl ?_
              subst e_m43
              subst e_m96a
              subst e_m96b
              subst e_m127
              exact ih _ _ _ _ (by omega) (by omega) (by omega) (by omega) (by omega) (by omega) (fun z e hx => K12 z ((M_would_l12_s S c p t fu v4 v5 v6 v7).trans ((if_neg hc18).trans e)) hx)
            refine gx_if_eq (tgt := 126) X dX3_would_98 (by decide) (by omega) (fun hc98 => ?_) (fun hc98 => ?_)
            · refine gx_iconst (z := 0) X dX3_would_126 rfl ?_
              refine gx_sub [0, 1, 2, 3, 4, 5, 6, 7, 8] rfl ?_
              exact J127 0 ((if_pos hc98).symm) 
            · refine gx_aload_n X dX3_would_101 rfl 0 rfl ?_
              refine gx_iload X dX3_would_102 7 rfl ?_
              refine gx_iload_n X dX3_would_104 rfl 1 rfl ?_
              refine gx_aload_n X dX3_would_105 rfl 0 rfl ?_
              refine gM_r0 X dX3_would_106 ?_
              refine gx_iconst (z := 4) X dX3_would_109 rfl ?_
              refine gx_iload_n X dX3_would_110 rfl 1 rfl ?_
              refine gx_imul X dX3_would_111 ?_
              refine gx_iload X dX3_would_112 5 rfl ?_
              refine gx_iadd X dX3_would_114 ?_
              refine gM_l0 (v := (S.2 0 ((4 * c) + m96b))) X (by omega) rfl dX3_would_115 ?_
              have hr115 := InvM_a0 hI ((4 * c) + m96b)
              refine gx_callVI (As := [.int (iI v7), .int (iI c), .int (iI (S.2 0 ((4 * c) + m96b)))]) (rest := []) X (hD _) lk_M_154 (ci := 3) rfl rfl 0 rfl (c_M_fits q S v7 c (S.2 0 ((4 * c) + m96b)) hI (by omega) (by omega) (by omega)) jn_all rfl ⟨by decide, by decide⟩ (Nat.le_of_ble_eq_true rfl) dX3_would_116 ?_
              have hq116_0 := M_fits_01 S v7 c (S.2 0 ((4 * c) + m96b))
              refine gx_if_eq (tgt := 126) X dX3_would_119 (by decide) (by omega) (fun hc119 => ?_) (fun hc119 => ?_)
              · refine gx_iconst (z := 0) X dX3_would_126 rfl ?_
                refine gx_sub [0, 1, 2, 3, 4, 5, 6, 7, 8] rfl ?_
                exact J127 0 (((if_neg hc98).trans (if_pos hc119)).symm) 
              · refine gx_iconst (z := 1) X dX3_would_122 rfl ?_
                refine gx_goto (tgt := 127) X dX3_would_123 (by decide) ?_
                refine gx_sub [0, 1, 2, 3, 4, 5, 6, 7, 8] rfl ?_
                exact J127 1 (((if_neg hc98).trans (if_neg hc119)).symm) 
          refine gx_icmp_ne (tgt := 67) X dX3_would_48 (by decide) (by omega) (fun hc48 => ?_) (fun hc48 => ?_)
          · refine gx_iload X dX3_would_67 5 rfl ?_
            refine gx_iload X dX3_would_69 0 rfl ?_
            have J79 : ∀ (m79 : Int), m79 = (if m43 = 0 then 1 else 3) → GG l (rmK (1, 23)) K x (wM K q S) 79 [(0, .ref (q 0)), (1, .int (iI c)), (2, .int (iI p)), (3, .int (iI t)), (4, .int (iI v4)), (5, .int (iI v5)), (6, .int (iI v6)), (7, .int (iI v7)), (8, .int (iI m43))] [.int (iI m79), .int (iI v4)] := by
              intro m79 e_m79
              refine gx_iadd X dX3_would_79 ?_
              refine gx_iconst (z := 4) X dX3_would_80 rfl ?_
              refine gx_irem X dX3_would_81 (by omega) ?_
              refine gx_istore X dX3_would_82 (by decide) rfl ?_
              refine gx_iload X dX3_would_84 8 rfl ?_
              refine gx_bipush (z := 8) X dX3_would_86 (by decide) ?_
              refine gx_iadd X dX3_would_88 ?_
              refine gx_iload X dX3_would_89 0 rfl ?_
              refine gx_isub X dX3_would_91 ?_
              refine gx_iconst (z := 4) X dX3_would_92 rfl ?_
              refine gx_irem X dX3_would_93 (by omega) ?_
              refine gx_istore X dX3_would_94 (by decide) rfl ?_
              refine gx_sub [2, 3, 4, 5, 1, 0, 6, 7, 8] rfl ?_
              subst e_m79
              exact J96 _ _ ((if_neg hc48).symm) ((if_neg hc48).symm) 
            refine gx_if_ne (tgt := 78) X dX3_would_71 (by decide) (by omega) (fun hc71 => ?_) (fun hc71 => ?_)
            · refine gx_iconst (z := 3) X dX3_would_78 rfl ?_
              refine gx_sub [1, 2, 3, 4, 5, 6, 7, 8, 0] rfl ?_
              exact J79 3 ((if_neg hc71).symm) 
            · refine gx_iconst (z := 1) X dX3_would_74 rfl ?_
              refine gx_goto (tgt := 79) X dX3_would_75 (by decide) ?_
              refine gx_sub [1, 2, 3, 4, 5, 6, 7, 8, 0] rfl ?_
              exact J79 1 ((if_pos hc71).symm) 
          · refine gx_iload X dX3_would_51 8 rfl ?_
            have J62 : ∀ (m62 : Int), m62 = (if v7 = 0 then 0 else v5) → GG l (rmK (1, 23)) K x (wM K q S) 62 [(0, .ref (q 0)), (1, .int (iI c)), (2, .int (iI p)), (3, .int (iI t)), (4, .int (iI v4)), (5, .int (iI v5)), (6, .int (iI v6)), (7, .int (iI v7)), (8, .int (iI m43))] [.int (iI m62)] := by
              intro m62 e_m62
              refine gx_istore X dX3_would_62 (by decide) rfl ?_
              refine gx_goto (tgt := 96) X dX3_would_64 (by decide) ?_
              refine gx_sub [1, 2, 3, 4, 5, 0, 6, 7, 8] rfl ?_
              subst e_m62
              exact J96 _ _ ((if_pos hc48).symm) ((if_pos hc48).symm) 
            refine gx_if_ne (tgt := 60) X dX3_would_53 (by decide) (by omega) (fun hc53 => ?_) (fun hc53 => ?_)
            · refine gx_iload X dX3_would_60 6 rfl ?_
              refine gx_sub [1, 2, 3, 4, 5, 6, 7, 8, 0] rfl ?_
              exact J62 v5 ((if_neg hc53).symm) 
            · refine gx_iconst (z := 0) X dX3_would_56 rfl ?_
              refine gx_goto (tgt := 62) X dX3_would_57 (by decide) ?_
              refine gx_sub [1, 2, 3, 4, 5, 6, 7, 8, 0] rfl ?_
              exact J62 0 ((if_pos hc53).symm) 
        refine gx_icmp_ne (tgt := 31) X dX3_would_24 (by decide) (by omega) (fun hc24 => ?_) (fun hc24 => ?_)
        · refine gx_aload_n X dX3_would_31 rfl 0 rfl ?_
          refine gM_r12 X dX3_would_32 ?_
          refine gx_bipush (z := 16) X dX3_would_35 (by decide) ?_
          refine gx_iload X dX3_would_37 7 rfl ?_
          refine gx_imul X dX3_would_39 ?_
          refine gx_iload_n X dX3_would_40 rfl 1 rfl ?_
          refine gx_iadd X dX3_would_41 ?_
          refine gM_l12 (v := (S.2 12 ((16 * v7) + c))) X (by omega) rfl dX3_would_42 ?_
          have hr42 := InvM_a12 hI ((16 * v7) + c)
          refine gx_sub [0, 1, 2, 3, 4, 5, 6, 7] rfl ?_
          exact J43 (S.2 12 ((16 * v7) + c)) ((if_neg hc24).symm) (by omega)
        · refine gx_iload_n X dX3_would_27 rfl 3 rfl ?_
          refine gx_goto (tgt := 43) X dX3_would_28 (by decide) ?_
          refine gx_sub [0, 1, 2, 3, 4, 5, 6, 7] rfl ?_
          exact J43 t ((if_pos hc24).symm) (by omega)
  refine gx_sub [4, 5, 6, 7, 3, 2, 1, 0] rfl ?_
  refine L12 (31) 0 0 1 0 (by omega) (by omega) (by omega) (by omega) (by omega) (by omega) (fun z12 e12 hx12 => ?_)
  refine gx_iload X dX3_would_135 4 rfl ?_
  exact gx_iret hR (e12) rfl dX3_would_137
def M_wrongOf_l18 (S : Sta) (c : Int) (i : Int) (b : Int) (v5 : Int) : Nat → Int → Int → (Int) ⊕ (Int)
  | 0, v4', v6 => .inr v4'
  | fu + 1, v4', v6 => if 3 ≤ v6 then .inr v4' else if v6 = (S.2 12 ((16 * v5) + c)) then M_wrongOf_l18 S c i b v5 fu v4' (v6 + 1) else if (M_would S c v5 v6) = 0 then M_wrongOf_l18 S c i b v5 fu v4' (v6 + 1) else if v4' = i then if b = 0 then .inl ((10 * v5) + v6) else M_wrongOf_l18 S c i b v5 fu (v4' + 1) (v6 + 1) else M_wrongOf_l18 S c i b v5 fu (v4' + 1) (v6 + 1)
theorem M_wrongOf_l18_s (S : Sta) (c : Int) (i : Int) (b : Int) (v5 : Int) (fu : Nat) (v4' : Int) (v6 : Int) : M_wrongOf_l18 S c i b v5 (fu + 1) v4' v6 = (if 3 ≤ v6 then .inr v4' else if v6 = (S.2 12 ((16 * v5) + c)) then M_wrongOf_l18 S c i b v5 fu v4' (v6 + 1) else if (M_would S c v5 v6) = 0 then M_wrongOf_l18 S c i b v5 fu v4' (v6 + 1) else if v4' = i then if b = 0 then .inl ((10 * v5) + v6) else M_wrongOf_l18 S c i b v5 fu (v4' + 1) (v6 + 1) else M_wrongOf_l18 S c i b v5 fu (v4' + 1) (v6 + 1)) := rfl
def M_wrongOf_l6 (S : Sta) (c : Int) (i : Int) (b : Int) : Nat → Int → Int → (Int) ⊕ (Int)
  | 0, v4, v5 => .inr v4
  | fu + 1, v4, v5 => if (M_seenRows S) ≤ v5 then .inr v4 else Sum.elim Sum.inl (fun (z18 : Int) => M_wrongOf_l6 S c i b fu z18 (v5 + 1)) (M_wrongOf_l18 S c i b v5 (4) v4 0)
theorem M_wrongOf_l6_s (S : Sta) (c : Int) (i : Int) (b : Int) (fu : Nat) (v4 : Int) (v5 : Int) : M_wrongOf_l6 S c i b (fu + 1) v4 v5 = (if (M_seenRows S) ≤ v5 then .inr v4 else Sum.elim Sum.inl (fun (z18 : Int) => M_wrongOf_l6 S c i b fu z18 (v5 + 1)) (M_wrongOf_l18 S c i b v5 (4) v4 0)) := rfl
def M_wrongOf_r6 (b : Int) (z6 : Int) : Int := if b = 0 then (-99) else z6
def M_wrongOf (S : Sta) (c : Int) (i : Int) (b : Int) : Int := Sum.elim id (fun z6 => M_wrongOf_r6 b z6) (M_wrongOf_l6 S c i b (31) 0 0)
set_option maxRecDepth 100000 in
theorem c_M_wrongOf {l : Launch} {K : KK} {N : Int} (q : Nat → Nat) (S : Sta) (c : Int) (i : Int) (b : Int) (hI : InvW N S) (hp1 : 0 ≤ c ∧ c < 16) (hp2 : ok32 i) (hp3 : ok32 b) : CtI l yX3_wrongOf cX3_wrongOf 7 .int (2, 51) K [.ref (q 0), .int (iI c), .int (iI i), .int (iI b)] (wM K q S) (M_wrongOf S c i b) (wM K q S) := by
  refine ctI_of (by decide) (Nat.le_of_ble_eq_true rfl) rfl ?_
  intro x X hD hR
  have hD : ∀ S9 : Sta, va_D (cx_A x) (wM K q S9) := fun S9 => va_D_same hD rfl
  have hs1 := InvM_s1 hI
  have hs2 := InvM_s2 hI
  have hs3 := InvM_s3 hI
  have hs4 := InvM_s4 hI
  have hw := M_seenRows_sp S
  refine gx_iconst (z := 0) X dX3_wrongOf_0 rfl ?_
  refine gx_istore X dX3_wrongOf_1 (by decide) rfl ?_
  refine gx_iconst (z := 0) X dX3_wrongOf_3 rfl ?_
  refine gx_istore X dX3_wrongOf_4 (by decide) rfl ?_
  have L6 : ∀ (fu : Nat) (v4 : Int) (v5 : Int), (0 ≤ v5) → (v5 ≤ (M_seenRows S)) → (0 ≤ v4 ∧ v4 ≤ 3 * v5) → ((M_seenRows S) - v5) < (fu : Int) → (∀ z6 : Int, M_wrongOf_l6 S c i b fu v4 v5 = .inr z6 → True → GG l (rmK (2, 51)) K x (wM K q S) 87 [(0, .ref (q 0)), (1, .int (iI c)), (2, .int (iI i)), (3, .int (iI b)), (4, .int (iI z6))] []) → (∀ zz : Int, M_wrongOf_l6 S c i b fu v4 v5 = .inl zz → M_wrongOf S c i b = zz) → GG l (rmK (2, 51)) K x (wM K q S) 6 [(0, .ref (q 0)), (1, .int (iI c)), (2, .int (iI i)), (3, .int (iI b)), (4, .int (iI v4)), (5, .int (iI v5))] [] := by
    intro fu
    induction fu with
    | zero => intro v4 v5 hi6_0 hi6_1 hi6_2 hm6 K6 KR6; exact absurd hm6 (by omega)
    | succ fu ih =>
      intro v4 v5 hi6_0 hi6_1 hi6_2 hm6 K6 KR6
      refine gx_iload X dX3_wrongOf_6 5 rfl ?_
      refine gx_aload_n X dX3_wrongOf_8 rfl 0 rfl ?_
      refine gx_callVI (As := []) (rest := [.int (iI v5)]) X (hD _) lk_M_150 (ci := 3) rfl rfl 0 rfl (c_M_seenRows q S  hI) jn_all rfl ⟨by decide, by decide⟩ (Nat.le_of_ble_eq_true rfl) dX3_wrongOf_9 ?_
      have hq9_0 := M_seenRows_sp S 
      refine gx_icmp_ge (tgt := 87) X dX3_wrongOf_12 (by decide) (by omega) (fun hc12 => ?_) (fun hc12 => ?_)
      · refine gx_sub [0, 1, 2, 3, 4] rfl ?_
        exact K6 v4 ((M_wrongOf_l6_s S c i b fu v4 v5).trans (if_pos hc12)) trivial
      · refine gx_iconst (z := 0) X dX3_wrongOf_15 rfl ?_
        refine gx_istore X dX3_wrongOf_16 (by decide) rfl ?_
        have L18 : ∀ (fu : Nat) (v4' : Int) (v6 : Int), (0 ≤ v6) → (v6 ≤ 3) → (0 ≤ v4' ∧ v4' ≤ 3 * v5 + v6) → (3 - v6) < (fu : Int) → (∀ z18 : Int, M_wrongOf_l18 S c i b v5 fu v4' v6 = .inr z18 → (0 ≤ z18 ∧ z18 ≤ 3 * v5 + 3) → GG l (rmK (2, 51)) K x (wM K q S) 81 [(0, .ref (q 0)), (1, .int (iI c)), (2, .int (iI i)), (3, .int (iI b)), (4, .int (iI z18)), (5, .int (iI v5))] []) → (∀ zz : Int, M_wrongOf_l18 S c i b v5 fu v4' v6 = .inl zz → M_wrongOf S c i b = zz) → GG l (rmK (2, 51)) K x (wM K q S) 18 [(0, .ref (q 0)), (1, .int (iI c)), (2, .int (iI i)), (3, .int (iI b)), (4, .int (iI v4')), (5, .int (iI v5)), (6, .int (iI v6))] [] := by
          intro fu
          induction fu with
          | zero => intro v4' v6 hi18_0 hi18_1 hi18_2 hm18 K18 KR18; exact absurd hm18 (by omega)
          | succ fu ih =>
            intro v4' v6 hi18_0 hi18_1 hi18_2 hm18 K18 KR18
            refine gx_iload X dX3_wrongOf_18 6 rfl ?_
            refine gx_iconst (z := 3) X dX3_wrongOf_20 rfl ?_
            refine gx_icmp_ge (tgt := 81) X dX3_wrongOf_21 (by decide) (by omega) (fun hc21 => ?_) (fun hc21 => ?_)
            · refine gx_sub [0, 1, 2, 3, 4, 5] rfl ?_
              exact K18 v4' ((M_wrongOf_l18_s S c i b v5 fu v4' v6).trans (if_pos hc21)) (by omega)
            · refine gx_iload X dX3_wrongOf_24 6 rfl ?_
              refine gx_aload_n X dX3_wrongOf_26 rfl 0 rfl ?_
              refine gM_r12 X dX3_wrongOf_27 ?_
              refine gx_bipush (z := 16) X dX3_wrongOf_30 (by decide) ?_
              refine gx_iload X dX3_wrongOf_32 5 rfl ?_
              refine gx_imul X dX3_wrongOf_34 ?_
              refine gx_iload_n X dX3_wrongOf_35 rfl 1 rfl ?_
              refine gx_iadd X dX3_wrongOf_36 ?_
              refine gM_l12 (v := (S.2 12 ((16 * v5) + c))) X (by omega) rfl dX3_wrongOf_37 ?_
              have hr37 := InvM_a12 hI ((16 * v5) + c)
              refine gx_icmp_eq (tgt := 75) X dX3_wrongOf_38 (by decide) (by omega) (fun hc38 => ?_) (fun hc38 => ?_)
              · refine gx_iinc X dX3_wrongOf_75 6 rfl (by decide) rfl ?_
                refine gx_goto (tgt := 18) X dX3_wrongOf_78 (by decide) ?_
                refine gx_sub [1, 2, 3, 4, 5, 6, 0] rfl ?_
                exact ih v4' (v6 + 1) (by omega) (by omega) (by omega) (by omega) (fun z e hx => K18 z ((M_wrongOf_l18_s S c i b v5 fu v4' v6).trans (((if_neg hc21).trans (if_pos hc38)).trans e)) hx) (fun z e => KR18 z ((M_wrongOf_l18_s S c i b v5 fu v4' v6).trans (((if_neg hc21).trans (if_pos hc38)).trans e)))
              · refine gx_aload_n X dX3_wrongOf_41 rfl 0 rfl ?_
                refine gx_iload_n X dX3_wrongOf_42 rfl 1 rfl ?_
                refine gx_iload X dX3_wrongOf_43 5 rfl ?_
                refine gx_iload X dX3_wrongOf_45 6 rfl ?_
                refine gx_callVI (As := [.int (iI c), .int (iI v5), .int (iI v6)]) (rest := []) X (hD _) lk_M_181 (ci := 3) rfl rfl 0 rfl (c_M_would q S c v5 v6 hI (by omega) (by omega) (by omega)) jn_all rfl ⟨by decide, by decide⟩ (Nat.le_of_ble_eq_true rfl) dX3_wrongOf_47 ?_
                have hq47_0 := M_would_01 S c v5 v6
                refine gx_if_eq (tgt := 75) X dX3_wrongOf_50 (by decide) (by omega) (fun hc50 => ?_) (fun hc50 => ?_)
                · refine gx_iinc X dX3_wrongOf_75 6 rfl (by decide) rfl ?_
                  refine gx_goto (tgt := 18) X dX3_wrongOf_78 (by decide) ?_
                  refine gx_sub [1, 2, 3, 4, 5, 6, 0] rfl ?_
                  exact ih v4' (v6 + 1) (by omega) (by omega) (by omega) (by omega) (fun z e hx => K18 z ((M_wrongOf_l18_s S c i b v5 fu v4' v6).trans (((if_neg hc21).trans ((if_neg hc38).trans (if_pos hc50))).trans e)) hx) (fun z e => KR18 z ((M_wrongOf_l18_s S c i b v5 fu v4' v6).trans (((if_neg hc21).trans ((if_neg hc38).trans (if_pos hc50))).trans e)))
                · refine gx_iload X dX3_wrongOf_53 4 rfl ?_
                  refine gx_iload_n X dX3_wrongOf_55 rfl 2 rfl ?_
                  refine gx_icmp_ne (tgt := 72) X dX3_wrongOf_56 (by decide) (by omega) (fun hc56 => ?_) (fun hc56 => ?_)
                  · refine gx_iinc X dX3_wrongOf_72 4 rfl (by decide) rfl ?_
                    refine gx_iinc X dX3_wrongOf_75 6 rfl (by decide) rfl ?_
                    refine gx_goto (tgt := 18) X dX3_wrongOf_78 (by decide) ?_
                    refine gx_sub [2, 3, 4, 5, 1, 6, 0] rfl ?_
                    exact ih (v4' + 1) (v6 + 1) (by omega) (by omega) (by omega) (by omega) (fun z e hx => K18 z ((M_wrongOf_l18_s S c i b v5 fu v4' v6).trans (((if_neg hc21).trans ((if_neg hc38).trans ((if_neg hc50).trans (if_neg hc56)))).trans e)) hx) (fun z e => KR18 z ((M_wrongOf_l18_s S c i b v5 fu v4' v6).trans (((if_neg hc21).trans ((if_neg hc38).trans ((if_neg hc50).trans (if_neg hc56)))).trans e)))
                  · refine gx_iload_n X dX3_wrongOf_59 rfl 3 rfl ?_
                    refine gx_if_ne (tgt := 72) X dX3_wrongOf_60 (by decide) (by omega) (fun hc60 => ?_) (fun hc60 => ?_)
                    · refine gx_iinc X dX3_wrongOf_72 4 rfl (by decide) rfl ?_
                      refine gx_iinc X dX3_wrongOf_75 6 rfl (by decide) rfl ?_
                      refine gx_goto (tgt := 18) X dX3_wrongOf_78 (by decide) ?_
                      refine gx_sub [2, 3, 4, 5, 1, 6, 0] rfl ?_
                      exact ih (v4' + 1) (v6 + 1) (by omega) (by omega) (by omega) (by omega) (fun z e hx => K18 z ((M_wrongOf_l18_s S c i b v5 fu v4' v6).trans (((if_neg hc21).trans ((if_neg hc38).trans ((if_neg hc50).trans ((if_pos hc56).trans (if_neg hc60))))).trans e)) hx) (fun z e => KR18 z ((M_wrongOf_l18_s S c i b v5 fu v4' v6).trans (((if_neg hc21).trans ((if_neg hc38).trans ((if_neg hc50).trans ((if_pos hc56).trans (if_neg hc60))))).trans e)))
                    · refine gx_bipush (z := 10) X dX3_wrongOf_63 (by decide) ?_
                      refine gx_iload X dX3_wrongOf_65 5 rfl ?_
                      refine gx_imul X dX3_wrongOf_67 ?_
                      refine gx_iload X dX3_wrongOf_68 6 rfl ?_
                      refine gx_iadd X dX3_wrongOf_70 ?_
                      exact gx_iret hR (KR18 ((10 * v5) + v6) ((M_wrongOf_l18_s S c i b v5 fu v4' v6).trans ((if_neg hc21).trans ((if_neg hc38).trans ((if_neg hc50).trans ((if_pos hc56).trans (if_pos hc60))))))) rfl dX3_wrongOf_71
        refine gx_sub [1, 2, 3, 4, 5, 6, 0] rfl ?_
        refine L18 (4) v4 0 (by omega) (by omega) (by omega) (by omega) (fun z18 e18 hx18 => ?_) (fun z e => KR6 z ((M_wrongOf_l6_s S c i b fu v4 v5).trans ((if_neg hc12).trans (congrArg (Sum.elim Sum.inl _) e))))
        refine gx_iinc X dX3_wrongOf_81 5 rfl (by decide) rfl ?_
        refine gx_goto (tgt := 6) X dX3_wrongOf_84 (by decide) ?_
        refine gx_sub [1, 2, 3, 4, 5, 0] rfl ?_
        exact ih z18 (v5 + 1) (by omega) (by omega) (by omega) (by omega) (fun z e hx => K6 z ((M_wrongOf_l6_s S c i b fu v4 v5).trans (((if_neg hc12).trans (congrArg (Sum.elim Sum.inl _) e18)).trans e)) hx) (fun z e => KR6 z ((M_wrongOf_l6_s S c i b fu v4 v5).trans (((if_neg hc12).trans (congrArg (Sum.elim Sum.inl _) e18)).trans e)))
  refine gx_sub [2, 3, 4, 5, 1, 0] rfl ?_
  refine L6 (31) 0 0 (by omega) (by omega) (by omega) (by omega) (fun z6 e6 hx6 => ?_) (fun z e => congrArg (Sum.elim id (fun z6 => M_wrongOf_r6 b z6)) e)
  refine gx_iload_n X dX3_wrongOf_87 rfl 3 rfl ?_
  have J98 : ∀ (m98 : Int), m98 = (if b = 0 then (-99) else z6) → GG l (rmK (2, 51)) K x (wM K q S) 98 [(0, .ref (q 0)), (1, .int (iI c)), (2, .int (iI i)), (3, .int (iI b)), (4, .int (iI z6))] [.int (iI m98)] := by
    intro m98 e_m98
    exact gx_iret hR ((congrArg (Sum.elim id (fun z6 => M_wrongOf_r6 b z6)) e6).trans (e_m98.symm)) rfl dX3_wrongOf_98
  refine gx_if_eq (tgt := 96) X dX3_wrongOf_88 (by decide) (by omega) (fun hc88 => ?_) (fun hc88 => ?_)
  · refine gx_bipush (z := (-99)) X dX3_wrongOf_96 (by decide) ?_
    refine gx_sub [0, 1, 2, 3, 4] rfl ?_
    exact J98 (-99) ((if_pos hc88).symm) 
  · refine gx_iload X dX3_wrongOf_91 4 rfl ?_
    refine gx_goto (tgt := 98) X dX3_wrongOf_93 (by decide) ?_
    refine gx_sub [0, 1, 2, 3, 4] rfl ?_
    exact J98 z6 ((if_neg hc88).symm) 
def M_wrongs (S : Sta) (c : Int) : Int := if (M_noCard S c) = 0 then if (S.2 6 c) ≤ 0 then (M_wrongOf S c 0 1) else (-3) else (-1)
set_option maxRecDepth 100000 in
theorem c_M_wrongs {l : Launch} {K : KK} {N : Int} (q : Nat → Nat) (S : Sta) (c : Int) (hI : InvW N S) (hp1 : ok32 c) : CtI l yX3_wrongs cX3_wrongs 2 .int (3, 77) K [.ref (q 0), .int (iI c)] (wM K q S) (M_wrongs S c) (wM K q S) := by
  refine ctI_of (by decide) (Nat.le_of_ble_eq_true rfl) rfl ?_
  intro x X hD hR
  have hD : ∀ S9 : Sta, va_D (cx_A x) (wM K q S9) := fun S9 => va_D_same hD rfl
  have hs1 := InvM_s1 hI
  have hs2 := InvM_s2 hI
  have hs3 := InvM_s3 hI
  have hs4 := InvM_s4 hI
  refine gx_aload_n X dX3_wrongs_0 rfl 0 rfl ?_
  refine gx_iconst (z := 0) X dX3_wrongs_1 rfl ?_
  refine gM_t0 X (hD _) (InvM_t hI) dX3_wrongs_2 ?_
  refine gx_aload_n X dX3_wrongs_5 rfl 0 rfl ?_
  refine gx_iload_n X dX3_wrongs_6 rfl 1 rfl ?_
  refine gx_callVI (As := [.int (iI c)]) (rest := []) X (hD _) lk_M_97 (ci := 3) rfl rfl 0 rfl (c_M_noCard q S c hI (by omega)) jn_all rfl ⟨by decide, by decide⟩ (Nat.le_of_ble_eq_true rfl) dX3_wrongs_7 ?_
  have hq7_0 := M_noCard_sp S c
  refine gx_if_eq (tgt := 15) X dX3_wrongs_10 (by decide) (by omega) (fun hc10 => ?_) (fun hc10 => ?_)
  · refine gx_aload_n X dX3_wrongs_15 rfl 0 rfl ?_
    refine gM_r6 X dX3_wrongs_16 ?_
    refine gx_iload_n X dX3_wrongs_19 rfl 1 rfl ?_
    refine gM_l6 (v := (S.2 6 c)) X (by omega) rfl dX3_wrongs_20 ?_
    have hr20 := InvM_a6 hI c
    have J36 : ∀ (m36 : Int), m36 = (if (S.2 6 c) ≤ 0 then (M_wrongOf S c 0 1) else (-3)) → GG l (rmK (3, 77)) K x (wM K q S) 36 [(0, .ref (q 0)), (1, .int (iI c))] [.int (iI m36)] := by
      intro m36 e_m36
      exact gx_iret hR ((if_pos hc10).trans (e_m36.symm)) rfl dX3_wrongs_36
    refine gx_if_le (tgt := 29) X dX3_wrongs_21 (by decide) (by omega) (fun hc21 => ?_) (fun hc21 => ?_)
    · refine gx_aload_n X dX3_wrongs_29 rfl 0 rfl ?_
      refine gx_iload_n X dX3_wrongs_30 rfl 1 rfl ?_
      refine gx_iconst (z := 0) X dX3_wrongs_31 rfl ?_
      refine gx_iconst (z := 1) X dX3_wrongs_32 rfl ?_
      refine gx_callVI (As := [.int (iI c), .int (iI 0), .int (iI 1)]) (rest := []) X (hD _) lk_M_184 (ci := 3) rfl rfl 0 rfl (c_M_wrongOf q S c 0 1 hI (by omega) (by omega) (by omega)) jn_all rfl ⟨by decide, by decide⟩ (Nat.le_of_ble_eq_true rfl) dX3_wrongs_33 ?_
      refine gx_sub [0, 1] rfl ?_
      exact J36 (M_wrongOf S c 0 1) ((if_pos hc21).symm) 
    · refine gx_bipush (z := (-3)) X dX3_wrongs_24 (by decide) ?_
      refine gx_goto (tgt := 36) X dX3_wrongs_26 (by decide) ?_
      refine gx_sub [0, 1] rfl ?_
      exact J36 (-3) ((if_neg hc21).symm) 
  · refine gx_iconst (z := (-1)) X dX3_wrongs_13 rfl ?_
    exact gx_iret hR (if_neg hc10) rfl dX3_wrongs_14
def M_wrong (S : Sta) (c : Int) (i : Int) : Int := if (M_noCard S c) = 0 then if (S.2 6 c) ≤ 0 then (M_wrongOf S c i 0) else (-3) else (-1)
set_option maxRecDepth 100000 in
theorem c_M_wrong {l : Launch} {K : KK} {N : Int} (q : Nat → Nat) (S : Sta) (c : Int) (i : Int) (hI : InvW N S) (hp1 : ok32 c) (hp2 : ok32 i) : CtI l yX3_wrong cX3_wrong 3 .int (3, 77) K [.ref (q 0), .int (iI c), .int (iI i)] (wM K q S) (M_wrong S c i) (wM K q S) := by
  refine ctI_of (by decide) (Nat.le_of_ble_eq_true rfl) rfl ?_
  intro x X hD hR
  have hD : ∀ S9 : Sta, va_D (cx_A x) (wM K q S9) := fun S9 => va_D_same hD rfl
  have hs1 := InvM_s1 hI
  have hs2 := InvM_s2 hI
  have hs3 := InvM_s3 hI
  have hs4 := InvM_s4 hI
  refine gx_aload_n X dX3_wrong_0 rfl 0 rfl ?_
  refine gx_iconst (z := 0) X dX3_wrong_1 rfl ?_
  refine gM_t0 X (hD _) (InvM_t hI) dX3_wrong_2 ?_
  refine gx_aload_n X dX3_wrong_5 rfl 0 rfl ?_
  refine gx_iload_n X dX3_wrong_6 rfl 1 rfl ?_
  refine gx_callVI (As := [.int (iI c)]) (rest := []) X (hD _) lk_M_97 (ci := 3) rfl rfl 0 rfl (c_M_noCard q S c hI (by omega)) jn_all rfl ⟨by decide, by decide⟩ (Nat.le_of_ble_eq_true rfl) dX3_wrong_7 ?_
  have hq7_0 := M_noCard_sp S c
  refine gx_if_eq (tgt := 15) X dX3_wrong_10 (by decide) (by omega) (fun hc10 => ?_) (fun hc10 => ?_)
  · refine gx_aload_n X dX3_wrong_15 rfl 0 rfl ?_
    refine gM_r6 X dX3_wrong_16 ?_
    refine gx_iload_n X dX3_wrong_19 rfl 1 rfl ?_
    refine gM_l6 (v := (S.2 6 c)) X (by omega) rfl dX3_wrong_20 ?_
    have hr20 := InvM_a6 hI c
    have J36 : ∀ (m36 : Int), m36 = (if (S.2 6 c) ≤ 0 then (M_wrongOf S c i 0) else (-3)) → GG l (rmK (3, 77)) K x (wM K q S) 36 [(0, .ref (q 0)), (1, .int (iI c)), (2, .int (iI i))] [.int (iI m36)] := by
      intro m36 e_m36
      exact gx_iret hR ((if_pos hc10).trans (e_m36.symm)) rfl dX3_wrong_36
    refine gx_if_le (tgt := 29) X dX3_wrong_21 (by decide) (by omega) (fun hc21 => ?_) (fun hc21 => ?_)
    · refine gx_aload_n X dX3_wrong_29 rfl 0 rfl ?_
      refine gx_iload_n X dX3_wrong_30 rfl 1 rfl ?_
      refine gx_iload_n X dX3_wrong_31 rfl 2 rfl ?_
      refine gx_iconst (z := 0) X dX3_wrong_32 rfl ?_
      refine gx_callVI (As := [.int (iI c), .int (iI i), .int (iI 0)]) (rest := []) X (hD _) lk_M_184 (ci := 3) rfl rfl 0 rfl (c_M_wrongOf q S c i 0 hI (by omega) (by omega) (by omega)) jn_all rfl ⟨by decide, by decide⟩ (Nat.le_of_ble_eq_true rfl) dX3_wrong_33 ?_
      refine gx_sub [0, 1, 2] rfl ?_
      exact J36 (M_wrongOf S c i 0) ((if_pos hc21).symm) 
    · refine gx_bipush (z := (-3)) X dX3_wrong_24 (by decide) ?_
      refine gx_goto (tgt := 36) X dX3_wrong_26 (by decide) ?_
      refine gx_sub [0, 1, 2] rfl ?_
      exact J36 (-3) ((if_neg hc21).symm) 
  · refine gx_iconst (z := (-1)) X dX3_wrong_13 rfl ?_
    exact gx_iret hR (if_neg hc10) rfl dX3_wrong_14
def M_count_l37 (S : Sta) (v5 : Int) : Nat → Int → Int → Int
  | 0, v4', v6 => v4'
  | fu + 1, v4', v6 => if 4 ≤ v6 then v4' else M_count_l37 S v5 fu (zi_or v4' (zi_shl 1 (S.2 0 ((4 * v5) + v6)))) (v6 + 1)
theorem M_count_l37_s (S : Sta) (v5 : Int) (fu : Nat) (v4' : Int) (v6 : Int) : M_count_l37 S v5 (fu + 1) v4' v6 = (if 4 ≤ v6 then v4' else M_count_l37 S v5 fu (zi_or v4' (zi_shl 1 (S.2 0 ((4 * v5) + v6)))) (v6 + 1)) := rfl
def M_count_l71 (S : Sta) (v5 : Int) : Nat → Int → Int → Int
  | 0, v2', v6 => v2'
  | fu + 1, v2', v6 => if 30 ≤ v6 then v2' else (fun (m102 : Int) => M_count_l71 S v5 fu (v2' + m102) (v6 + 1)) (if (S.2 16 ((16 * v6) + v5)) = (-99) then 0 else 1)
theorem M_count_l71_s (S : Sta) (v5 : Int) (fu : Nat) (v2' : Int) (v6 : Int) : M_count_l71 S v5 (fu + 1) v2' v6 = (if 30 ≤ v6 then v2' else (fun (m102 : Int) => M_count_l71 S v5 fu (v2' + m102) (v6 + 1)) (if (S.2 16 ((16 * v6) + v5)) = (-99) then 0 else 1)) := rfl
def M_count_l15 (S : Sta) : Nat → Int → Int → Int → Int → Int × Int × Int
  | 0, v2, v3, v4, v5 => (v2, v3, v4)
  | fu + 1, v2, v3, v4, v5 => if (S.1 1) ≤ v5 then (v2, v3, v4) else (fun (z37 : Int) => (fun (z71 : Int) => M_count_l15 S fu z71 (v3 + (S.2 2 v5)) z37 (v5 + 1)) (M_count_l71 S v5 (31) v2 0)) (M_count_l37 S v5 (5) v4 0)
theorem M_count_l15_s (S : Sta) (fu : Nat) (v2 : Int) (v3 : Int) (v4 : Int) (v5 : Int) : M_count_l15 S (fu + 1) v2 v3 v4 v5 = (if (S.1 1) ≤ v5 then (v2, v3, v4) else (fun (z37 : Int) => (fun (z71 : Int) => M_count_l15 S fu z71 (v3 + (S.2 2 v5)) z37 (v5 + 1)) (M_count_l71 S v5 (31) v2 0)) (M_count_l37 S v5 (5) v4 0)) := rfl
def M_count_l122 (z15 : Int × Int × Int) : Nat → Int → Int → Int
  | 0, v5, v6 => v5
  | fu + 1, v5, v6 => if 8 ≤ v6 then v5 else M_count_l122 z15 fu (v5 + (zi_and (zi_shr z15.2.2 v6) 1)) (v6 + 1)
theorem M_count_l122_s (z15 : Int × Int × Int) (fu : Nat) (v5 : Int) (v6 : Int) : M_count_l122 z15 (fu + 1) v5 v6 = (if 8 ≤ v6 then v5 else M_count_l122 z15 fu (v5 + (zi_and (zi_shr z15.2.2 v6) 1)) (v6 + 1)) := rfl
def M_count_r122 (S : Sta) (w : Int) (z15 : Int × Int × Int) (z122 : Int) : Int := if w = 0 then (S.1 1) else if w = 1 then (S.1 2) else if w = 2 then z15.1 else if w = 3 then z15.2.1 else if w = 4 then z122 else (-2)
def M_count_r15 (S : Sta) (w : Int) (z15 : Int × Int × Int) : Int := (fun z122 => M_count_r122 S w z15 z122) (M_count_l122 z15 (9) 0 0)
def M_count (S : Sta) (w : Int) : Int := (fun z15 => M_count_r15 S w z15) (M_count_l15 S (17) 0 0 0 0)
set_option maxRecDepth 100000 in
theorem c_M_count {l : Launch} {K : KK} {N : Int} (q : Nat → Nat) (S : Sta) (w : Int) (hI : InvW N S) (hp1 : ok32 w) : CtI l yX3_count cX3_count 7 .int (0, 0) K [.ref (q 0), .int (iI w)] (wM K q S) (M_count S w) (wM K q S) := by
  refine ctI_of (by decide) (Nat.le_of_ble_eq_true rfl) rfl ?_
  intro x X hD hR
  have hD : ∀ S9 : Sta, va_D (cx_A x) (wM K q S9) := fun S9 => va_D_same hD rfl
  have hs1 := InvM_s1 hI
  have hs2 := InvM_s2 hI
  have hs3 := InvM_s3 hI
  have hs4 := InvM_s4 hI
  refine gx_aload_n X dX3_count_0 rfl 0 rfl ?_
  refine gx_iconst (z := 0) X dX3_count_1 rfl ?_
  refine gM_t0 X (hD _) (InvM_t hI) dX3_count_2 ?_
  refine gx_iconst (z := 0) X dX3_count_5 rfl ?_
  refine gx_istore_n X dX3_count_6 rfl (by decide) rfl ?_
  refine gx_iconst (z := 0) X dX3_count_7 rfl ?_
  refine gx_istore_n X dX3_count_8 rfl (by decide) rfl ?_
  refine gx_iconst (z := 0) X dX3_count_9 rfl ?_
  refine gx_istore X dX3_count_10 (by decide) rfl ?_
  refine gx_iconst (z := 0) X dX3_count_12 rfl ?_
  refine gx_istore X dX3_count_13 (by decide) rfl ?_
  have L15 : ∀ (fu : Nat) (v2 : Int) (v3 : Int) (v4 : Int) (v5 : Int), (0 ≤ v5) → (v5 ≤ (S.1 1)) → ((S.1 1) - v5) < (fu : Int) → (∀ z15 : Int × Int × Int, M_count_l15 S fu v2 v3 v4 v5 = z15 → True → GG l (rmK (0, 0)) K x (wM K q S) 116 [(0, .ref (q 0)), (1, .int (iI w)), (2, .int (iI z15.1)), (3, .int (iI z15.2.1)), (4, .int (iI z15.2.2))] []) → GG l (rmK (0, 0)) K x (wM K q S) 15 [(0, .ref (q 0)), (1, .int (iI w)), (2, .int (iI v2)), (3, .int (iI v3)), (4, .int (iI v4)), (5, .int (iI v5))] [] := by
    intro fu
    induction fu with
    | zero => intro v2 v3 v4 v5 hi15_0 hi15_1 hm15 K15; exact absurd hm15 (by omega)
    | succ fu ih =>
      intro v2 v3 v4 v5 hi15_0 hi15_1 hm15 K15
      refine gx_iload X dX3_count_15 5 rfl ?_
      refine gx_aload_n X dX3_count_17 rfl 0 rfl ?_
      refine gM_g1 (v := (S.1 1)) X rfl dX3_count_18 ?_
      refine gx_icmp_ge (tgt := 116) X dX3_count_21 (by decide) (by omega) (fun hc21 => ?_) (fun hc21 => ?_)
      · refine gx_sub [0, 1, 2, 3, 4] rfl ?_
        exact K15 (v2, v3, v4) ((M_count_l15_s S fu v2 v3 v4 v5).trans (if_pos hc21)) trivial
      · refine gx_iload_n X dX3_count_24 rfl 3 rfl ?_
        refine gx_aload_n X dX3_count_25 rfl 0 rfl ?_
        refine gM_r2 X dX3_count_26 ?_
        refine gx_iload X dX3_count_29 5 rfl ?_
        refine gM_l2 (v := (S.2 2 v5)) X (by omega) rfl dX3_count_31 ?_
        have hr31 := InvM_a2 hI v5
        refine gx_iadd X dX3_count_32 ?_
        refine gx_istore_n X dX3_count_33 rfl (by decide) rfl ?_
        refine gx_iconst (z := 0) X dX3_count_34 rfl ?_
        refine gx_istore X dX3_count_35 (by decide) rfl ?_
        have L37 : ∀ (fu : Nat) (v4' : Int) (v6 : Int), (0 ≤ v6) → (v6 ≤ 4) → (4 - v6) < (fu : Int) → (∀ z37 : Int, M_count_l37 S v5 fu v4' v6 = z37 → True → GG l (rmK (0, 0)) K x (wM K q S) 68 [(0, .ref (q 0)), (1, .int (iI w)), (2, .int (iI v2)), (3, .int (iI (v3 + (S.2 2 v5)))), (4, .int (iI z37)), (5, .int (iI v5))] []) → GG l (rmK (0, 0)) K x (wM K q S) 37 [(0, .ref (q 0)), (1, .int (iI w)), (2, .int (iI v2)), (3, .int (iI (v3 + (S.2 2 v5)))), (4, .int (iI v4')), (5, .int (iI v5)), (6, .int (iI v6))] [] := by
          intro fu
          induction fu with
          | zero => intro v4' v6 hi37_0 hi37_1 hm37 K37; exact absurd hm37 (by omega)
          | succ fu ih =>
            intro v4' v6 hi37_0 hi37_1 hm37 K37
            refine gx_iload X dX3_count_37 6 rfl ?_
            refine gx_iconst (z := 4) X dX3_count_39 rfl ?_
            refine gx_icmp_ge (tgt := 68) X dX3_count_40 (by decide) (by omega) (fun hc40 => ?_) (fun hc40 => ?_)
            · refine gx_sub [0, 1, 2, 3, 4, 5] rfl ?_
              exact K37 v4' ((M_count_l37_s S v5 fu v4' v6).trans (if_pos hc40)) trivial
            · refine gx_iload X dX3_count_43 4 rfl ?_
              refine gx_iconst (z := 1) X dX3_count_45 rfl ?_
              refine gx_aload_n X dX3_count_46 rfl 0 rfl ?_
              refine gM_r0 X dX3_count_47 ?_
              refine gx_iconst (z := 4) X dX3_count_50 rfl ?_
              refine gx_iload X dX3_count_51 5 rfl ?_
              refine gx_imul X dX3_count_53 ?_
              refine gx_iload X dX3_count_54 6 rfl ?_
              refine gx_iadd X dX3_count_56 ?_
              refine gM_l0 (v := (S.2 0 ((4 * v5) + v6))) X (by omega) rfl dX3_count_57 ?_
              have hr57 := InvM_a0 hI ((4 * v5) + v6)
              refine gx_ishl X dX3_count_58 ?_
              have ho58 := ok_shl 1 (S.2 0 ((4 * v5) + v6))
              refine gx_ior X dX3_count_59 ?_
              have ho59 := ok_or v4' (zi_shl 1 (S.2 0 ((4 * v5) + v6)))
              refine gx_istore X dX3_count_60 (by decide) rfl ?_
              refine gx_iinc X dX3_count_62 6 rfl (by decide) rfl ?_
              refine gx_goto (tgt := 37) X dX3_count_65 (by decide) ?_
              refine gx_sub [2, 3, 4, 5, 1, 6, 0] rfl ?_
              exact ih (zi_or v4' (zi_shl 1 (S.2 0 ((4 * v5) + v6)))) (v6 + 1) (by omega) (by omega) (by omega) (fun z e hx => K37 z ((M_count_l37_s S v5 fu v4' v6).trans ((if_neg hc40).trans e)) hx)
        refine gx_sub [2, 3, 4, 1, 5, 6, 0] rfl ?_
        refine L37 (5) v4 0 (by omega) (by omega) (by omega) (fun z37 e37 hx37 => ?_)
        refine gx_iconst (z := 0) X dX3_count_68 rfl ?_
        refine gx_istore X dX3_count_69 (by decide) rfl ?_
        have L71 : ∀ (fu : Nat) (v2' : Int) (v6 : Int), (0 ≤ v6) → (v6 ≤ 30) → (30 - v6) < (fu : Int) → (∀ z71 : Int, M_count_l71 S v5 fu v2' v6 = z71 → True → GG l (rmK (0, 0)) K x (wM K q S) 110 [(0, .ref (q 0)), (1, .int (iI w)), (2, .int (iI z71)), (3, .int (iI (v3 + (S.2 2 v5)))), (4, .int (iI z37)), (5, .int (iI v5))] []) → GG l (rmK (0, 0)) K x (wM K q S) 71 [(0, .ref (q 0)), (1, .int (iI w)), (2, .int (iI v2')), (3, .int (iI (v3 + (S.2 2 v5)))), (4, .int (iI z37)), (5, .int (iI v5)), (6, .int (iI v6))] [] := by
          intro fu
          induction fu with
          | zero => intro v2' v6 hi71_0 hi71_1 hm71 K71; exact absurd hm71 (by omega)
          | succ fu ih =>
            intro v2' v6 hi71_0 hi71_1 hm71 K71
            refine gx_iload X dX3_count_71 6 rfl ?_
            refine gx_bipush (z := 30) X dX3_count_73 (by decide) ?_
            refine gx_icmp_ge (tgt := 110) X dX3_count_75 (by decide) (by omega) (fun hc75 => ?_) (fun hc75 => ?_)
            · refine gx_sub [0, 1, 2, 3, 4, 5] rfl ?_
              exact K71 v2' ((M_count_l71_s S v5 fu v2' v6).trans (if_pos hc75)) trivial
            · refine gx_iload_n X dX3_count_78 rfl 2 rfl ?_
              refine gx_aload_n X dX3_count_79 rfl 0 rfl ?_
              refine gM_r16 X dX3_count_80 ?_
              refine gx_bipush (z := 16) X dX3_count_83 (by decide) ?_
              refine gx_iload X dX3_count_85 6 rfl ?_
              refine gx_imul X dX3_count_87 ?_
              refine gx_iload X dX3_count_88 5 rfl ?_
              refine gx_iadd X dX3_count_90 ?_
              refine gM_l16 (v := (S.2 16 ((16 * v6) + v5))) X (by omega) rfl dX3_count_91 ?_
              have hr91 := InvM_a16 hI ((16 * v6) + v5)
              refine gx_bipush (z := (-99)) X dX3_count_92 (by decide) ?_
              have J102 : ∀ (m102 : Int), m102 = (if (S.2 16 ((16 * v6) + v5)) = (-99) then 0 else 1) → GG l (rmK (0, 0)) K x (wM K q S) 102 [(0, .ref (q 0)), (1, .int (iI w)), (2, .int (iI v2')), (3, .int (iI (v3 + (S.2 2 v5)))), (4, .int (iI z37)), (5, .int (iI v5)), (6, .int (iI v6))] [.int (iI m102), .int (iI v2')] := by
                intro m102 e_m102
                refine gx_iadd X dX3_count_102 ?_
                refine gx_istore_n X dX3_count_103 rfl (by decide) rfl ?_
                refine gx_iinc X dX3_count_104 6 rfl (by decide) rfl ?_
                refine gx_goto (tgt := 71) X dX3_count_107 (by decide) ?_
                refine gx_sub [2, 3, 1, 4, 5, 6, 0] rfl ?_
                subst e_m102
                exact ih _ _ (by omega) (by omega) (by omega) (fun z e hx => K71 z ((M_count_l71_s S v5 fu v2' v6).trans ((if_neg hc75).trans e)) hx)
              refine gx_icmp_ne (tgt := 101) X dX3_count_94 (by decide) (by omega) (fun hc94 => ?_) (fun hc94 => ?_)
              · refine gx_iconst (z := 1) X dX3_count_101 rfl ?_
                refine gx_sub [0, 1, 2, 3, 4, 5, 6] rfl ?_
                exact J102 1 ((if_neg hc94).symm) 
              · refine gx_iconst (z := 0) X dX3_count_97 rfl ?_
                refine gx_goto (tgt := 102) X dX3_count_98 (by decide) ?_
                refine gx_sub [0, 1, 2, 3, 4, 5, 6] rfl ?_
                exact J102 0 ((if_pos hc94).symm) 
        refine gx_sub [1, 2, 3, 4, 5, 6, 0] rfl ?_
        refine L71 (31) v2 0 (by omega) (by omega) (by omega) (fun z71 e71 hx71 => ?_)
        refine gx_iinc X dX3_count_110 5 rfl (by decide) rfl ?_
        refine gx_goto (tgt := 15) X dX3_count_113 (by decide) ?_
        refine gx_sub [1, 2, 3, 4, 5, 0] rfl ?_
        subst e37
        subst e71
        exact ih _ _ _ _ (by omega) (by omega) (by omega) (fun z e hx => K15 z ((M_count_l15_s S fu v2 v3 v4 v5).trans ((if_neg hc21).trans e)) hx)
  refine gx_sub [4, 5, 3, 2, 1, 0] rfl ?_
  refine L15 (17) 0 0 0 0 (by omega) (by omega) (by omega) (fun z15 e15 hx15 => ?_)
  refine gx_iconst (z := 0) X dX3_count_116 rfl ?_
  refine gx_istore X dX3_count_117 (by decide) rfl ?_
  refine gx_iconst (z := 0) X dX3_count_119 rfl ?_
  refine gx_istore X dX3_count_120 (by decide) rfl ?_
  have L122 : ∀ (fu : Nat) (v5 : Int) (v6 : Int), (0 ≤ v6) → (v6 ≤ 8) → (8 - v6) < (fu : Int) → (∀ z122 : Int, M_count_l122 z15 fu v5 v6 = z122 → True → GG l (rmK (0, 0)) K x (wM K q S) 147 [(0, .ref (q 0)), (1, .int (iI w)), (2, .int (iI z15.1)), (3, .int (iI z15.2.1)), (4, .int (iI z15.2.2)), (5, .int (iI z122))] []) → GG l (rmK (0, 0)) K x (wM K q S) 122 [(0, .ref (q 0)), (1, .int (iI w)), (2, .int (iI z15.1)), (3, .int (iI z15.2.1)), (4, .int (iI z15.2.2)), (5, .int (iI v5)), (6, .int (iI v6))] [] := by
    intro fu
    induction fu with
    | zero => intro v5 v6 hi122_0 hi122_1 hm122 K122; exact absurd hm122 (by omega)
    | succ fu ih =>
      intro v5 v6 hi122_0 hi122_1 hm122 K122
      refine gx_iload X dX3_count_122 6 rfl ?_
      refine gx_bipush (z := 8) X dX3_count_124 (by decide) ?_
      refine gx_icmp_ge (tgt := 147) X dX3_count_126 (by decide) (by omega) (fun hc126 => ?_) (fun hc126 => ?_)
      · refine gx_sub [0, 1, 2, 3, 4, 5] rfl ?_
        exact K122 v5 ((M_count_l122_s z15 fu v5 v6).trans (if_pos hc126)) trivial
      · refine gx_iload X dX3_count_129 5 rfl ?_
        refine gx_iload X dX3_count_131 4 rfl ?_
        refine gx_iload X dX3_count_133 6 rfl ?_
        refine gx_ishr X dX3_count_135 ?_
        have ho135 := ok_shr z15.2.2 v6
        refine gx_iconst (z := 1) X dX3_count_136 rfl ?_
        refine gx_iand X dX3_count_137 ?_
        have ho137 := ok_and (zi_shr z15.2.2 v6) 1
        refine gx_iadd X dX3_count_138 ?_
        refine gx_istore X dX3_count_139 (by decide) rfl ?_
        refine gx_iinc X dX3_count_141 6 rfl (by decide) rfl ?_
        refine gx_goto (tgt := 122) X dX3_count_144 (by decide) ?_
        refine gx_sub [2, 3, 4, 5, 6, 1, 0] rfl ?_
        exact ih (v5 + (zi_and (zi_shr z15.2.2 v6) 1)) (v6 + 1) (by omega) (by omega) (by omega) (fun z e hx => K122 z ((M_count_l122_s z15 fu v5 v6).trans ((if_neg hc126).trans e)) hx)
  refine gx_sub [2, 3, 4, 5, 6, 1, 0] rfl ?_
  refine L122 (9) 0 0 (by omega) (by omega) (by omega) (fun z122 e122 hx122 => ?_)
  refine gx_iload_n X dX3_count_147 rfl 1 rfl ?_
  have hsw148 : ok32 w := by omega
  by_cases hc148_0 : w = 0
  · refine gx_switchIn (tgt := 184) X dX3_count_148 (k := 0) hc148_0 (by decide) (by decide) rfl (by decide) ?_
    refine gx_aload_n X dX3_count_184 rfl 0 rfl ?_
    refine gM_g1 (v := (S.1 1)) X rfl dX3_count_185 ?_
    exact gx_iret hR ((congrArg (fun z15 => M_count_r15 S w z15) e15).trans ((congrArg (fun z122 => M_count_r122 S w z15 z122) e122).trans (if_pos hc148_0))) rfl dX3_count_188
  by_cases hc148_1 : w = 1
  · refine gx_switchIn (tgt := 189) X dX3_count_148 (k := 1) hc148_1 (by decide) (by decide) rfl (by decide) ?_
    refine gx_aload_n X dX3_count_189 rfl 0 rfl ?_
    refine gM_g2 (v := (S.1 2)) X rfl dX3_count_190 ?_
    exact gx_iret hR ((congrArg (fun z15 => M_count_r15 S w z15) e15).trans ((congrArg (fun z122 => M_count_r122 S w z15 z122) e122).trans ((if_neg hc148_0).trans (if_pos hc148_1)))) rfl dX3_count_193
  by_cases hc148_2 : w = 2
  · refine gx_switchIn (tgt := 194) X dX3_count_148 (k := 2) hc148_2 (by decide) (by decide) rfl (by decide) ?_
    refine gx_iload_n X dX3_count_194 rfl 2 rfl ?_
    exact gx_iret hR ((congrArg (fun z15 => M_count_r15 S w z15) e15).trans ((congrArg (fun z122 => M_count_r122 S w z15 z122) e122).trans ((if_neg hc148_0).trans ((if_neg hc148_1).trans (if_pos hc148_2))))) rfl dX3_count_195
  by_cases hc148_3 : w = 3
  · refine gx_switchIn (tgt := 196) X dX3_count_148 (k := 3) hc148_3 (by decide) (by decide) rfl (by decide) ?_
    refine gx_iload_n X dX3_count_196 rfl 3 rfl ?_
    exact gx_iret hR ((congrArg (fun z15 => M_count_r15 S w z15) e15).trans ((congrArg (fun z122 => M_count_r122 S w z15 z122) e122).trans ((if_neg hc148_0).trans ((if_neg hc148_1).trans ((if_neg hc148_2).trans (if_pos hc148_3)))))) rfl dX3_count_197
  by_cases hc148_4 : w = 4
  · refine gx_switchIn (tgt := 198) X dX3_count_148 (k := 4) hc148_4 (by decide) (by decide) rfl (by decide) ?_
    refine gx_iload X dX3_count_198 5 rfl ?_
    exact gx_iret hR ((congrArg (fun z15 => M_count_r15 S w z15) e15).trans ((congrArg (fun z122 => M_count_r122 S w z15 z122) e122).trans ((if_neg hc148_0).trans ((if_neg hc148_1).trans ((if_neg hc148_2).trans ((if_neg hc148_3).trans (if_pos hc148_4))))))) rfl dX3_count_200
  refine gx_switchOut (tgt := 201) X dX3_count_148 hsw148 (by omega) (by decide) ?_
  refine gx_bipush (z := (-2)) X dX3_count_201 (by decide) ?_
  exact gx_iret hR ((congrArg (fun z15 => M_count_r15 S w z15) e15).trans ((congrArg (fun z122 => M_count_r122 S w z15 z122) e122).trans ((if_neg hc148_0).trans ((if_neg hc148_1).trans ((if_neg hc148_2).trans ((if_neg hc148_3).trans (if_neg hc148_4))))))) rfl dX3_count_203
