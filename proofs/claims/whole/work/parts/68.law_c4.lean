set_option maxRecDepth 100000 in
theorem law_27 {l : Launch} {K : KK} {x : Cx} {b L : Nat} {xs : Nat → Int32} {u r q : Nat → Nat} {ca : Nat → Nat → Nat} {N i : Int} {T : TS} {S : Sta} (Z : LwX l K x b L xs u r ca q) (h : Rel N T S) (hN : N + 1 ≤ 1000) (hi : 0 ≤ i ∧ i + 5 ≤ (L : Int) ∧ (L : Int) ≤ 2560) (next : ∀ (T' : TS) (S' : Sta), Rel (N + 1) T' S' → GG l room_1 K x (wT K u r ca T' ++ wM K q S') 1204 [(3, .int (iI i)), (2, .ref (q 0)), (1, .ref (u 0)), (0, .ref b)] []) : GG l room_1 K x (wT K u r ca T ++ wM K q S) 1033 [(3, .int (iI i)), (2, .ref (q 0)), (1, .ref (u 0)), (0, .ref b)] [] := by
  obtain ⟨X, hX, hbl, hbA, hD⟩ := Z
  obtain ⟨a1, ha1, e1⟩ : ∃ a : Int, ok32 a ∧ xs (i + 1).toNat = iI a := ⟨_, ok_toInt _, iI_of _⟩
  obtain ⟨a2, ha2, e2⟩ : ∃ a : Int, ok32 a ∧ xs (i + 2).toNat = iI a := ⟨_, ok_toInt _, iI_of _⟩
  obtain ⟨a3, ha3, e3⟩ : ∃ a : Int, ok32 a ∧ xs (i + 3).toNat = iI a := ⟨_, ok_toInt _, iI_of _⟩
  obtain ⟨a4, ha4, e4⟩ : ∃ a : Int, ok32 a ∧ xs (i + 4).toNat = iI a := ⟨_, ok_toInt _, iI_of _⟩
  refine gx_aload_n X dL_law_1033 rfl 2 rfl ?_
  refine gx_aload_n X dL_law_1034 rfl 3 rfl ?_
  refine gx_iload_n X dL_law_1035 rfl 0 rfl ?_
  refine gx_iconst (z := 1) X dL_law_1036 rfl ?_
  refine gx_iadd X dL_law_1037 ?_
  refine gx_sld X hX hbl hbA ⟨by omega, by omega, by omega⟩ e1 dL_law_1038 ?_
  refine gx_callVI (As := [.int (iI a1)]) (rest := []) X (hD _ _) lk_L_128 (ci := 2) rfl rfl 0 rfl (c_T_behind u r ca T a1 h.it h.itt ha1) (jn_l (hD _ _)) rfl ⟨by decide, by decide⟩ (Nat.le_of_ble_eq_true rfl) dL_law_1039 ?_
  refine gx_aload_n X dL_law_1042 rfl 1 rfl ?_
  refine gx_aload_n X dL_law_1043 rfl 3 rfl ?_
  refine gx_iload_n X dL_law_1044 rfl 0 rfl ?_
  refine gx_iconst (z := 1) X dL_law_1045 rfl ?_
  refine gx_iadd X dL_law_1046 ?_
  refine gx_sld X hX hbl hbA ⟨by omega, by omega, by omega⟩ e1 dL_law_1047 ?_
  refine gx_callVI (As := [.int (iI a1)]) (rest := [.int (iI (T_behind T a1).1)]) X (hD _ _) lk_L_131 (ci := 3) rfl rfl 0 rfl (c_M_behind q S a1 h.iw h.iwt ha1) (jn_r (hD _ _)) rfl ⟨by decide, by decide⟩ (Nat.le_of_ble_eq_true rfl) dL_law_1048 ?_
  have e9 := s_behind h a1
  exact gx_same (tgt := 1204) X dL_law_1051 (by decide) e9.1 (next _ _ (e9.2.mono (by omega) hN))
set_option maxRecDepth 100000 in
theorem law_28 {l : Launch} {K : KK} {x : Cx} {b L : Nat} {xs : Nat → Int32} {u r q : Nat → Nat} {ca : Nat → Nat → Nat} {N i : Int} {T : TS} {S : Sta} (Z : LwX l K x b L xs u r ca q) (h : Rel N T S) (hN : N + 1 ≤ 1000) (hi : 0 ≤ i ∧ i + 5 ≤ (L : Int) ∧ (L : Int) ≤ 2560) (next : ∀ (T' : TS) (S' : Sta), Rel (N + 1) T' S' → GG l room_1 K x (wT K u r ca T' ++ wM K q S') 1204 [(3, .int (iI i)), (2, .ref (q 0)), (1, .ref (u 0)), (0, .ref b)] []) : GG l room_1 K x (wT K u r ca T ++ wM K q S) 1056 [(3, .int (iI i)), (2, .ref (q 0)), (1, .ref (u 0)), (0, .ref b)] [] := by
  obtain ⟨X, hX, hbl, hbA, hD⟩ := Z
  obtain ⟨a1, ha1, e1⟩ : ∃ a : Int, ok32 a ∧ xs (i + 1).toNat = iI a := ⟨_, ok_toInt _, iI_of _⟩
  obtain ⟨a2, ha2, e2⟩ : ∃ a : Int, ok32 a ∧ xs (i + 2).toNat = iI a := ⟨_, ok_toInt _, iI_of _⟩
  obtain ⟨a3, ha3, e3⟩ : ∃ a : Int, ok32 a ∧ xs (i + 3).toNat = iI a := ⟨_, ok_toInt _, iI_of _⟩
  obtain ⟨a4, ha4, e4⟩ : ∃ a : Int, ok32 a ∧ xs (i + 4).toNat = iI a := ⟨_, ok_toInt _, iI_of _⟩
  refine gx_aload_n X dL_law_1056 rfl 2 rfl ?_
  refine gx_callVI (As := []) (rest := []) X (hD _ _) lk_L_132 (ci := 2) rfl rfl 0 rfl (c_T_weave u r ca T  h.it h.itt) (jn_l (hD _ _)) rfl ⟨by decide, by decide⟩ (Nat.le_of_ble_eq_true rfl) dL_law_1057 ?_
  refine gx_aload_n X dL_law_1060 rfl 1 rfl ?_
  refine gx_callVI (As := []) (rest := [.int (iI (T_weave T).1)]) X (hD _ _) lk_L_135 (ci := 3) rfl rfl 0 rfl (c_M_weave q S  h.iw h.iwt) (jn_r (hD _ _)) rfl ⟨by decide, by decide⟩ (Nat.le_of_ble_eq_true rfl) dL_law_1061 ?_
  have e9 := s_weave h
  exact gx_same (tgt := 1204) X dL_law_1064 (by decide) e9.1 (next _ _ (e9.2.mono (by omega) hN))
set_option maxRecDepth 100000 in
theorem law_29 {l : Launch} {K : KK} {x : Cx} {b L : Nat} {xs : Nat → Int32} {u r q : Nat → Nat} {ca : Nat → Nat → Nat} {N i : Int} {T : TS} {S : Sta} (Z : LwX l K x b L xs u r ca q) (h : Rel N T S) (hN : N + 1 ≤ 1000) (hi : 0 ≤ i ∧ i + 5 ≤ (L : Int) ∧ (L : Int) ≤ 2560) (next : ∀ (T' : TS) (S' : Sta), Rel (N + 1) T' S' → GG l room_1 K x (wT K u r ca T' ++ wM K q S') 1204 [(3, .int (iI i)), (2, .ref (q 0)), (1, .ref (u 0)), (0, .ref b)] []) : GG l room_1 K x (wT K u r ca T ++ wM K q S) 1069 [(3, .int (iI i)), (2, .ref (q 0)), (1, .ref (u 0)), (0, .ref b)] [] := by
  obtain ⟨X, hX, hbl, hbA, hD⟩ := Z
  obtain ⟨a1, ha1, e1⟩ : ∃ a : Int, ok32 a ∧ xs (i + 1).toNat = iI a := ⟨_, ok_toInt _, iI_of _⟩
  obtain ⟨a2, ha2, e2⟩ : ∃ a : Int, ok32 a ∧ xs (i + 2).toNat = iI a := ⟨_, ok_toInt _, iI_of _⟩
  obtain ⟨a3, ha3, e3⟩ : ∃ a : Int, ok32 a ∧ xs (i + 3).toNat = iI a := ⟨_, ok_toInt _, iI_of _⟩
  obtain ⟨a4, ha4, e4⟩ : ∃ a : Int, ok32 a ∧ xs (i + 4).toNat = iI a := ⟨_, ok_toInt _, iI_of _⟩
  refine gx_aload_n X dL_law_1069 rfl 2 rfl ?_
  refine gx_aload_n X dL_law_1070 rfl 3 rfl ?_
  refine gx_iload_n X dL_law_1071 rfl 0 rfl ?_
  refine gx_iconst (z := 1) X dL_law_1072 rfl ?_
  refine gx_iadd X dL_law_1073 ?_
  refine gx_sld X hX hbl hbA ⟨by omega, by omega, by omega⟩ e1 dL_law_1074 ?_
  refine gx_aload_n X dL_law_1075 rfl 3 rfl ?_
  refine gx_iload_n X dL_law_1076 rfl 0 rfl ?_
  refine gx_iconst (z := 2) X dL_law_1077 rfl ?_
  refine gx_iadd X dL_law_1078 ?_
  refine gx_sld X hX hbl hbA ⟨by omega, by omega, by omega⟩ e2 dL_law_1079 ?_
  refine gx_callVI (As := [.int (iI a1), .int (iI a2)]) (rest := []) X (hD _ _) lk_L_136 (ci := 2) rfl rfl 0 rfl (c_T_threading u r ca T a1 a2 h.it ha1 ha2) (jn_l (hD _ _)) rfl ⟨by decide, by decide⟩ (Nat.le_of_ble_eq_true rfl) dL_law_1080 ?_
  refine gx_aload_n X dL_law_1083 rfl 1 rfl ?_
  refine gx_aload_n X dL_law_1084 rfl 3 rfl ?_
  refine gx_iload_n X dL_law_1085 rfl 0 rfl ?_
  refine gx_iconst (z := 1) X dL_law_1086 rfl ?_
  refine gx_iadd X dL_law_1087 ?_
  refine gx_sld X hX hbl hbA ⟨by omega, by omega, by omega⟩ e1 dL_law_1088 ?_
  refine gx_aload_n X dL_law_1089 rfl 3 rfl ?_
  refine gx_iload_n X dL_law_1090 rfl 0 rfl ?_
  refine gx_iconst (z := 2) X dL_law_1091 rfl ?_
  refine gx_iadd X dL_law_1092 ?_
  refine gx_sld X hX hbl hbA ⟨by omega, by omega, by omega⟩ e2 dL_law_1093 ?_
  refine gx_callVI (As := [.int (iI a1), .int (iI a2)]) (rest := [.int (iI (T_threading T a1 a2))]) X (hD _ _) lk_L_139 (ci := 3) rfl rfl 0 rfl (c_M_threading q S a1 a2 h.iw ha1 ha2) (jn_r (hD _ _)) rfl ⟨by decide, by decide⟩ (Nat.le_of_ble_eq_true rfl) dL_law_1094 ?_
  exact gx_same (tgt := 1204) X dL_law_1097 (by decide) (s_threading h a1 a2) (next _ _ (h.mono (by omega) hN))
set_option maxRecDepth 100000 in
theorem law_30 {l : Launch} {K : KK} {x : Cx} {b L : Nat} {xs : Nat → Int32} {u r q : Nat → Nat} {ca : Nat → Nat → Nat} {N i : Int} {T : TS} {S : Sta} (Z : LwX l K x b L xs u r ca q) (h : Rel N T S) (hN : N + 1 ≤ 1000) (hi : 0 ≤ i ∧ i + 5 ≤ (L : Int) ∧ (L : Int) ≤ 2560) (next : ∀ (T' : TS) (S' : Sta), Rel (N + 1) T' S' → GG l room_1 K x (wT K u r ca T' ++ wM K q S') 1204 [(3, .int (iI i)), (2, .ref (q 0)), (1, .ref (u 0)), (0, .ref b)] []) : GG l room_1 K x (wT K u r ca T ++ wM K q S) 1102 [(3, .int (iI i)), (2, .ref (q 0)), (1, .ref (u 0)), (0, .ref b)] [] := by
  obtain ⟨X, hX, hbl, hbA, hD⟩ := Z
  obtain ⟨a1, ha1, e1⟩ : ∃ a : Int, ok32 a ∧ xs (i + 1).toNat = iI a := ⟨_, ok_toInt _, iI_of _⟩
  obtain ⟨a2, ha2, e2⟩ : ∃ a : Int, ok32 a ∧ xs (i + 2).toNat = iI a := ⟨_, ok_toInt _, iI_of _⟩
  obtain ⟨a3, ha3, e3⟩ : ∃ a : Int, ok32 a ∧ xs (i + 3).toNat = iI a := ⟨_, ok_toInt _, iI_of _⟩
  obtain ⟨a4, ha4, e4⟩ : ∃ a : Int, ok32 a ∧ xs (i + 4).toNat = iI a := ⟨_, ok_toInt _, iI_of _⟩
  refine gx_aload_n X dL_law_1102 rfl 2 rfl ?_
  refine gx_aload_n X dL_law_1103 rfl 3 rfl ?_
  refine gx_iload_n X dL_law_1104 rfl 0 rfl ?_
  refine gx_iconst (z := 1) X dL_law_1105 rfl ?_
  refine gx_iadd X dL_law_1106 ?_
  refine gx_sld X hX hbl hbA ⟨by omega, by omega, by omega⟩ e1 dL_law_1107 ?_
  refine gx_callVI (As := [.int (iI a1)]) (rest := []) X (hD _ _) lk_L_140 (ci := 2) rfl rfl 0 rfl (c_T_quarrel u r ca T a1 h.it ha1) (jn_l (hD _ _)) rfl ⟨by decide, by decide⟩ (Nat.le_of_ble_eq_true rfl) dL_law_1108 ?_
  refine gx_aload_n X dL_law_1111 rfl 1 rfl ?_
  refine gx_aload_n X dL_law_1112 rfl 3 rfl ?_
  refine gx_iload_n X dL_law_1113 rfl 0 rfl ?_
  refine gx_iconst (z := 1) X dL_law_1114 rfl ?_
  refine gx_iadd X dL_law_1115 ?_
  refine gx_sld X hX hbl hbA ⟨by omega, by omega, by omega⟩ e1 dL_law_1116 ?_
  refine gx_callVI (As := [.int (iI a1)]) (rest := [.int (iI (T_quarrel T a1))]) X (hD _ _) lk_L_143 (ci := 3) rfl rfl 0 rfl (c_M_quarrel q S a1 h.iw ha1) (jn_r (hD _ _)) rfl ⟨by decide, by decide⟩ (Nat.le_of_ble_eq_true rfl) dL_law_1117 ?_
  exact gx_same (tgt := 1204) X dL_law_1120 (by decide) (s_quarrel h a1) (next _ _ (h.mono (by omega) hN))
set_option maxRecDepth 100000 in
theorem law_31 {l : Launch} {K : KK} {x : Cx} {b L : Nat} {xs : Nat → Int32} {u r q : Nat → Nat} {ca : Nat → Nat → Nat} {N i : Int} {T : TS} {S : Sta} (Z : LwX l K x b L xs u r ca q) (h : Rel N T S) (hN : N + 1 ≤ 1000) (hi : 0 ≤ i ∧ i + 5 ≤ (L : Int) ∧ (L : Int) ≤ 2560) (next : ∀ (T' : TS) (S' : Sta), Rel (N + 1) T' S' → GG l room_1 K x (wT K u r ca T' ++ wM K q S') 1204 [(3, .int (iI i)), (2, .ref (q 0)), (1, .ref (u 0)), (0, .ref b)] []) : GG l room_1 K x (wT K u r ca T ++ wM K q S) 1125 [(3, .int (iI i)), (2, .ref (q 0)), (1, .ref (u 0)), (0, .ref b)] [] := by
  obtain ⟨X, hX, hbl, hbA, hD⟩ := Z
  obtain ⟨a1, ha1, e1⟩ : ∃ a : Int, ok32 a ∧ xs (i + 1).toNat = iI a := ⟨_, ok_toInt _, iI_of _⟩
  obtain ⟨a2, ha2, e2⟩ : ∃ a : Int, ok32 a ∧ xs (i + 2).toNat = iI a := ⟨_, ok_toInt _, iI_of _⟩
  obtain ⟨a3, ha3, e3⟩ : ∃ a : Int, ok32 a ∧ xs (i + 3).toNat = iI a := ⟨_, ok_toInt _, iI_of _⟩
  obtain ⟨a4, ha4, e4⟩ : ∃ a : Int, ok32 a ∧ xs (i + 4).toNat = iI a := ⟨_, ok_toInt _, iI_of _⟩
  refine gx_aload_n X dL_law_1125 rfl 2 rfl ?_
  refine gx_aload_n X dL_law_1126 rfl 3 rfl ?_
  refine gx_iload_n X dL_law_1127 rfl 0 rfl ?_
  refine gx_iconst (z := 1) X dL_law_1128 rfl ?_
  refine gx_iadd X dL_law_1129 ?_
  refine gx_sld X hX hbl hbA ⟨by omega, by omega, by omega⟩ e1 dL_law_1130 ?_
  refine gx_callVI (As := [.int (iI a1)]) (rest := []) X (hD _ _) lk_L_144 (ci := 2) rfl rfl 0 rfl (c_T_wrongs u r ca T a1 h.it ha1) (jn_l (hD _ _)) rfl ⟨by decide, by decide⟩ (Nat.le_of_ble_eq_true rfl) dL_law_1131 ?_
  refine gx_aload_n X dL_law_1134 rfl 1 rfl ?_
  refine gx_aload_n X dL_law_1135 rfl 3 rfl ?_
  refine gx_iload_n X dL_law_1136 rfl 0 rfl ?_
  refine gx_iconst (z := 1) X dL_law_1137 rfl ?_
  refine gx_iadd X dL_law_1138 ?_
  refine gx_sld X hX hbl hbA ⟨by omega, by omega, by omega⟩ e1 dL_law_1139 ?_
  refine gx_callVI (As := [.int (iI a1)]) (rest := [.int (iI (T_wrongs T a1).1)]) X (hD _ _) lk_L_147 (ci := 3) rfl rfl 0 rfl (c_M_wrongs q S a1 h.iw ha1) (jn_r (hD _ _)) rfl ⟨by decide, by decide⟩ (Nat.le_of_ble_eq_true rfl) dL_law_1140 ?_
  have e9 := s_wrongs h a1
  exact gx_same (tgt := 1204) X dL_law_1143 (by decide) e9.1 (next _ _ (e9.2.mono (by omega) hN))
set_option maxRecDepth 100000 in
theorem law_32 {l : Launch} {K : KK} {x : Cx} {b L : Nat} {xs : Nat → Int32} {u r q : Nat → Nat} {ca : Nat → Nat → Nat} {N i : Int} {T : TS} {S : Sta} (Z : LwX l K x b L xs u r ca q) (h : Rel N T S) (hN : N + 1 ≤ 1000) (hi : 0 ≤ i ∧ i + 5 ≤ (L : Int) ∧ (L : Int) ≤ 2560) (next : ∀ (T' : TS) (S' : Sta), Rel (N + 1) T' S' → GG l room_1 K x (wT K u r ca T' ++ wM K q S') 1204 [(3, .int (iI i)), (2, .ref (q 0)), (1, .ref (u 0)), (0, .ref b)] []) : GG l room_1 K x (wT K u r ca T ++ wM K q S) 1148 [(3, .int (iI i)), (2, .ref (q 0)), (1, .ref (u 0)), (0, .ref b)] [] := by
  obtain ⟨X, hX, hbl, hbA, hD⟩ := Z
  obtain ⟨a1, ha1, e1⟩ : ∃ a : Int, ok32 a ∧ xs (i + 1).toNat = iI a := ⟨_, ok_toInt _, iI_of _⟩
  obtain ⟨a2, ha2, e2⟩ : ∃ a : Int, ok32 a ∧ xs (i + 2).toNat = iI a := ⟨_, ok_toInt _, iI_of _⟩
  obtain ⟨a3, ha3, e3⟩ : ∃ a : Int, ok32 a ∧ xs (i + 3).toNat = iI a := ⟨_, ok_toInt _, iI_of _⟩
  obtain ⟨a4, ha4, e4⟩ : ∃ a : Int, ok32 a ∧ xs (i + 4).toNat = iI a := ⟨_, ok_toInt _, iI_of _⟩
  refine gx_aload_n X dL_law_1148 rfl 2 rfl ?_
  refine gx_aload_n X dL_law_1149 rfl 3 rfl ?_
  refine gx_iload_n X dL_law_1150 rfl 0 rfl ?_
  refine gx_iconst (z := 1) X dL_law_1151 rfl ?_
  refine gx_iadd X dL_law_1152 ?_
  refine gx_sld X hX hbl hbA ⟨by omega, by omega, by omega⟩ e1 dL_law_1153 ?_
  refine gx_aload_n X dL_law_1154 rfl 3 rfl ?_
  refine gx_iload_n X dL_law_1155 rfl 0 rfl ?_
  refine gx_iconst (z := 2) X dL_law_1156 rfl ?_
  refine gx_iadd X dL_law_1157 ?_
  refine gx_sld X hX hbl hbA ⟨by omega, by omega, by omega⟩ e2 dL_law_1158 ?_
  refine gx_callVI (As := [.int (iI a1), .int (iI a2)]) (rest := []) X (hD _ _) lk_L_148 (ci := 2) rfl rfl 0 rfl (c_T_wrong u r ca T a1 a2 h.it ha1 ha2) (jn_l (hD _ _)) rfl ⟨by decide, by decide⟩ (Nat.le_of_ble_eq_true rfl) dL_law_1159 ?_
  refine gx_aload_n X dL_law_1162 rfl 1 rfl ?_
  refine gx_aload_n X dL_law_1163 rfl 3 rfl ?_
  refine gx_iload_n X dL_law_1164 rfl 0 rfl ?_
  refine gx_iconst (z := 1) X dL_law_1165 rfl ?_
  refine gx_iadd X dL_law_1166 ?_
  refine gx_sld X hX hbl hbA ⟨by omega, by omega, by omega⟩ e1 dL_law_1167 ?_
  refine gx_aload_n X dL_law_1168 rfl 3 rfl ?_
  refine gx_iload_n X dL_law_1169 rfl 0 rfl ?_
  refine gx_iconst (z := 2) X dL_law_1170 rfl ?_
  refine gx_iadd X dL_law_1171 ?_
  refine gx_sld X hX hbl hbA ⟨by omega, by omega, by omega⟩ e2 dL_law_1172 ?_
  refine gx_callVI (As := [.int (iI a1), .int (iI a2)]) (rest := [.int (iI (T_wrong T a1 a2).1)]) X (hD _ _) lk_L_151 (ci := 3) rfl rfl 0 rfl (c_M_wrong q S a1 a2 h.iw ha1 ha2) (jn_r (hD _ _)) rfl ⟨by decide, by decide⟩ (Nat.le_of_ble_eq_true rfl) dL_law_1173 ?_
  have e9 := s_wrong h a1 a2
  exact gx_same (tgt := 1204) X dL_law_1176 (by decide) e9.1 (next _ _ (e9.2.mono (by omega) hN))
set_option maxRecDepth 100000 in
theorem law_33 {l : Launch} {K : KK} {x : Cx} {b L : Nat} {xs : Nat → Int32} {u r q : Nat → Nat} {ca : Nat → Nat → Nat} {N i : Int} {T : TS} {S : Sta} (Z : LwX l K x b L xs u r ca q) (h : Rel N T S) (hN : N + 1 ≤ 1000) (hi : 0 ≤ i ∧ i + 5 ≤ (L : Int) ∧ (L : Int) ≤ 2560) (next : ∀ (T' : TS) (S' : Sta), Rel (N + 1) T' S' → GG l room_1 K x (wT K u r ca T' ++ wM K q S') 1204 [(3, .int (iI i)), (2, .ref (q 0)), (1, .ref (u 0)), (0, .ref b)] []) : GG l room_1 K x (wT K u r ca T ++ wM K q S) 1181 [(3, .int (iI i)), (2, .ref (q 0)), (1, .ref (u 0)), (0, .ref b)] [] := by
  obtain ⟨X, hX, hbl, hbA, hD⟩ := Z
  obtain ⟨a1, ha1, e1⟩ : ∃ a : Int, ok32 a ∧ xs (i + 1).toNat = iI a := ⟨_, ok_toInt _, iI_of _⟩
  obtain ⟨a2, ha2, e2⟩ : ∃ a : Int, ok32 a ∧ xs (i + 2).toNat = iI a := ⟨_, ok_toInt _, iI_of _⟩
  obtain ⟨a3, ha3, e3⟩ : ∃ a : Int, ok32 a ∧ xs (i + 3).toNat = iI a := ⟨_, ok_toInt _, iI_of _⟩
  obtain ⟨a4, ha4, e4⟩ : ∃ a : Int, ok32 a ∧ xs (i + 4).toNat = iI a := ⟨_, ok_toInt _, iI_of _⟩
  refine gx_aload_n X dL_law_1181 rfl 2 rfl ?_
  refine gx_aload_n X dL_law_1182 rfl 3 rfl ?_
  refine gx_iload_n X dL_law_1183 rfl 0 rfl ?_
  refine gx_iconst (z := 1) X dL_law_1184 rfl ?_
  refine gx_iadd X dL_law_1185 ?_
  refine gx_sld X hX hbl hbA ⟨by omega, by omega, by omega⟩ e1 dL_law_1186 ?_
  refine gx_callVI (As := [.int (iI a1)]) (rest := []) X (hD _ _) lk_L_152 (ci := 2) rfl rfl 0 rfl (c_T_count u r ca T a1 h.it ha1) (jn_l (hD _ _)) rfl ⟨by decide, by decide⟩ (Nat.le_of_ble_eq_true rfl) dL_law_1187 ?_
  refine gx_aload_n X dL_law_1190 rfl 1 rfl ?_
  refine gx_aload_n X dL_law_1191 rfl 3 rfl ?_
  refine gx_iload_n X dL_law_1192 rfl 0 rfl ?_
  refine gx_iconst (z := 1) X dL_law_1193 rfl ?_
  refine gx_iadd X dL_law_1194 ?_
  refine gx_sld X hX hbl hbA ⟨by omega, by omega, by omega⟩ e1 dL_law_1195 ?_
  refine gx_callVI (As := [.int (iI a1)]) (rest := [.int (iI (T_count T a1))]) X (hD _ _) lk_L_155 (ci := 3) rfl rfl 0 rfl (c_M_count q S a1 h.iw ha1) (jn_r (hD _ _)) rfl ⟨by decide, by decide⟩ (Nat.le_of_ble_eq_true rfl) dL_law_1196 ?_
  exact gx_same (tgt := 1204) X dL_law_1199 (by decide) (s_count h a1) (next _ _ (h.mono (by omega) hN))
