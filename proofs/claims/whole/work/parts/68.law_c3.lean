set_option maxRecDepth 100000 in
theorem law_18 {l : Launch} {K : KK} {x : Cx} {b L : Nat} {xs : Nat → Int32} {u r q : Nat → Nat} {ca : Nat → Nat → Nat} {N i : Int} {T : TS} {S : Sta} (Z : LwX l K x b L xs u r ca q) (h : Rel N T S) (hN : N + 1 ≤ 1000) (hi : 0 ≤ i ∧ i + 5 ≤ (L : Int) ∧ (L : Int) ≤ 2560) (next : ∀ (T' : TS) (S' : Sta), Rel (N + 1) T' S' → GG l room_1 K x (wT K u r ca T' ++ wM K q S') 1204 [(3, .int (iI i)), (2, .ref (q 0)), (1, .ref (u 0)), (0, .ref b)] []) : GG l room_1 K x (wT K u r ca T ++ wM K q S) 780 [(3, .int (iI i)), (2, .ref (q 0)), (1, .ref (u 0)), (0, .ref b)] [] := by
  obtain ⟨X, hX, hbl, hbA, hD⟩ := Z
  obtain ⟨a1, ha1, e1⟩ : ∃ a : Int, ok32 a ∧ xs (i + 1).toNat = iI a := ⟨_, ok_toInt _, iI_of _⟩
  obtain ⟨a2, ha2, e2⟩ : ∃ a : Int, ok32 a ∧ xs (i + 2).toNat = iI a := ⟨_, ok_toInt _, iI_of _⟩
  obtain ⟨a3, ha3, e3⟩ : ∃ a : Int, ok32 a ∧ xs (i + 3).toNat = iI a := ⟨_, ok_toInt _, iI_of _⟩
  obtain ⟨a4, ha4, e4⟩ : ∃ a : Int, ok32 a ∧ xs (i + 4).toNat = iI a := ⟨_, ok_toInt _, iI_of _⟩
  refine gx_aload_n X dL_law_780 rfl 2 rfl ?_
  refine gx_callVI (As := []) (rest := []) X (hD _ _) lk_L_91 (ci := 2) rfl rfl 0 rfl (c_T_rows u r ca T  h.it) (jn_l (hD _ _)) rfl ⟨by decide, by decide⟩ (Nat.le_of_ble_eq_true rfl) dL_law_781 ?_
  refine gx_aload_n X dL_law_784 rfl 1 rfl ?_
  refine gx_callVI (As := []) (rest := [.int (iI (T_rows T))]) X (hD _ _) lk_L_94 (ci := 3) rfl rfl 0 rfl (c_M_rows q S  h.iw) (jn_r (hD _ _)) rfl ⟨by decide, by decide⟩ (Nat.le_of_ble_eq_true rfl) dL_law_785 ?_
  exact gx_same (tgt := 1204) X dL_law_788 (by decide) (s_rows h) (next _ _ (h.mono (by omega) hN))
set_option maxRecDepth 100000 in
theorem law_19 {l : Launch} {K : KK} {x : Cx} {b L : Nat} {xs : Nat → Int32} {u r q : Nat → Nat} {ca : Nat → Nat → Nat} {N i : Int} {T : TS} {S : Sta} (Z : LwX l K x b L xs u r ca q) (h : Rel N T S) (hN : N + 1 ≤ 1000) (hi : 0 ≤ i ∧ i + 5 ≤ (L : Int) ∧ (L : Int) ≤ 2560) (next : ∀ (T' : TS) (S' : Sta), Rel (N + 1) T' S' → GG l room_1 K x (wT K u r ca T' ++ wM K q S') 1204 [(3, .int (iI i)), (2, .ref (q 0)), (1, .ref (u 0)), (0, .ref b)] []) : GG l room_1 K x (wT K u r ca T ++ wM K q S) 793 [(3, .int (iI i)), (2, .ref (q 0)), (1, .ref (u 0)), (0, .ref b)] [] := by
  obtain ⟨X, hX, hbl, hbA, hD⟩ := Z
  obtain ⟨a1, ha1, e1⟩ : ∃ a : Int, ok32 a ∧ xs (i + 1).toNat = iI a := ⟨_, ok_toInt _, iI_of _⟩
  obtain ⟨a2, ha2, e2⟩ : ∃ a : Int, ok32 a ∧ xs (i + 2).toNat = iI a := ⟨_, ok_toInt _, iI_of _⟩
  obtain ⟨a3, ha3, e3⟩ : ∃ a : Int, ok32 a ∧ xs (i + 3).toNat = iI a := ⟨_, ok_toInt _, iI_of _⟩
  obtain ⟨a4, ha4, e4⟩ : ∃ a : Int, ok32 a ∧ xs (i + 4).toNat = iI a := ⟨_, ok_toInt _, iI_of _⟩
  refine gx_aload_n X dL_law_793 rfl 2 rfl ?_
  refine gx_aload_n X dL_law_794 rfl 3 rfl ?_
  refine gx_iload_n X dL_law_795 rfl 0 rfl ?_
  refine gx_iconst (z := 1) X dL_law_796 rfl ?_
  refine gx_iadd X dL_law_797 ?_
  refine gx_sld X hX hbl hbA ⟨by omega, by omega, by omega⟩ e1 dL_law_798 ?_
  refine gx_if_eq (tgt := 806) X dL_law_799 (by decide) ha1 (fun hza1 => ?_) (fun hza1 => ?_)
  · refine gx_iconst (z := 0) X dL_law_806 rfl ?_
    refine gx_callVI (As := [.int (iI 0)]) (rest := []) X (hD _ _) lk_L_95 (ci := 2) rfl rfl 0 rfl (c_T_worst u r ca T 0 h.it h.itt (by decide)) (jn_l (hD _ _)) rfl ⟨by decide, by decide⟩ (Nat.le_of_ble_eq_true rfl) dL_law_807 ?_
    refine gx_aload_n X dL_law_810 rfl 1 rfl ?_
    refine gx_aload_n X dL_law_811 rfl 3 rfl ?_
    refine gx_iload_n X dL_law_812 rfl 0 rfl ?_
    refine gx_iconst (z := 1) X dL_law_813 rfl ?_
    refine gx_iadd X dL_law_814 ?_
    refine gx_sld X hX hbl hbA ⟨by omega, by omega, by omega⟩ e1 dL_law_815 ?_
    refine gx_if_eq (tgt := 823) X dL_law_816 (by decide) ha1 (fun _ => ?_) (fun hx9 => absurd hza1 hx9)
    refine gx_iconst (z := 0) X dL_law_823 rfl ?_
    refine gx_callVI (As := [.int (iI 0)]) (rest := [.int (iI (T_worst T 0))]) X (hD _ _) lk_L_99 (ci := 3) rfl rfl 0 rfl (c_M_worst q S 0 h.iw h.iwt (by decide)) (jn_r (hD _ _)) rfl ⟨by decide, by decide⟩ (Nat.le_of_ble_eq_true rfl) dL_law_824 ?_
    exact gx_same (tgt := 1204) X dL_law_827 (by decide) (s_worst h 0) (next _ _ (h.mono (by omega) hN))
  · refine gx_iconst (z := 1) X dL_law_802 rfl ?_
    refine gx_goto (tgt := 807) X dL_law_803 (by decide) ?_
    refine gx_callVI (As := [.int (iI 1)]) (rest := []) X (hD _ _) lk_L_95 (ci := 2) rfl rfl 0 rfl (c_T_worst u r ca T 1 h.it h.itt (by decide)) (jn_l (hD _ _)) rfl ⟨by decide, by decide⟩ (Nat.le_of_ble_eq_true rfl) dL_law_807 ?_
    refine gx_aload_n X dL_law_810 rfl 1 rfl ?_
    refine gx_aload_n X dL_law_811 rfl 3 rfl ?_
    refine gx_iload_n X dL_law_812 rfl 0 rfl ?_
    refine gx_iconst (z := 1) X dL_law_813 rfl ?_
    refine gx_iadd X dL_law_814 ?_
    refine gx_sld X hX hbl hbA ⟨by omega, by omega, by omega⟩ e1 dL_law_815 ?_
    refine gx_if_eq (tgt := 823) X dL_law_816 (by decide) ha1 (fun hx9 => absurd hx9 hza1) (fun _ => ?_)
    refine gx_iconst (z := 1) X dL_law_819 rfl ?_
    refine gx_goto (tgt := 824) X dL_law_820 (by decide) ?_
    refine gx_callVI (As := [.int (iI 1)]) (rest := [.int (iI (T_worst T 1))]) X (hD _ _) lk_L_99 (ci := 3) rfl rfl 0 rfl (c_M_worst q S 1 h.iw h.iwt (by decide)) (jn_r (hD _ _)) rfl ⟨by decide, by decide⟩ (Nat.le_of_ble_eq_true rfl) dL_law_824 ?_
    exact gx_same (tgt := 1204) X dL_law_827 (by decide) (s_worst h 1) (next _ _ (h.mono (by omega) hN))
set_option maxRecDepth 100000 in
theorem law_20 {l : Launch} {K : KK} {x : Cx} {b L : Nat} {xs : Nat → Int32} {u r q : Nat → Nat} {ca : Nat → Nat → Nat} {N i : Int} {T : TS} {S : Sta} (Z : LwX l K x b L xs u r ca q) (h : Rel N T S) (hN : N + 1 ≤ 1000) (hi : 0 ≤ i ∧ i + 5 ≤ (L : Int) ∧ (L : Int) ≤ 2560) (next : ∀ (T' : TS) (S' : Sta), Rel (N + 1) T' S' → GG l room_1 K x (wT K u r ca T' ++ wM K q S') 1204 [(3, .int (iI i)), (2, .ref (q 0)), (1, .ref (u 0)), (0, .ref b)] []) : GG l room_1 K x (wT K u r ca T ++ wM K q S) 832 [(3, .int (iI i)), (2, .ref (q 0)), (1, .ref (u 0)), (0, .ref b)] [] := by
  obtain ⟨X, hX, hbl, hbA, hD⟩ := Z
  obtain ⟨a1, ha1, e1⟩ : ∃ a : Int, ok32 a ∧ xs (i + 1).toNat = iI a := ⟨_, ok_toInt _, iI_of _⟩
  obtain ⟨a2, ha2, e2⟩ : ∃ a : Int, ok32 a ∧ xs (i + 2).toNat = iI a := ⟨_, ok_toInt _, iI_of _⟩
  obtain ⟨a3, ha3, e3⟩ : ∃ a : Int, ok32 a ∧ xs (i + 3).toNat = iI a := ⟨_, ok_toInt _, iI_of _⟩
  obtain ⟨a4, ha4, e4⟩ : ∃ a : Int, ok32 a ∧ xs (i + 4).toNat = iI a := ⟨_, ok_toInt _, iI_of _⟩
  refine gx_aload_n X dL_law_832 rfl 2 rfl ?_
  refine gx_aload_n X dL_law_833 rfl 3 rfl ?_
  refine gx_iload_n X dL_law_834 rfl 0 rfl ?_
  refine gx_iconst (z := 1) X dL_law_835 rfl ?_
  refine gx_iadd X dL_law_836 ?_
  refine gx_sld X hX hbl hbA ⟨by omega, by omega, by omega⟩ e1 dL_law_837 ?_
  refine gx_aload_n X dL_law_838 rfl 3 rfl ?_
  refine gx_iload_n X dL_law_839 rfl 0 rfl ?_
  refine gx_iconst (z := 2) X dL_law_840 rfl ?_
  refine gx_iadd X dL_law_841 ?_
  refine gx_sld X hX hbl hbA ⟨by omega, by omega, by omega⟩ e2 dL_law_842 ?_
  refine gx_callVI (As := [.int (iI a1), .int (iI a2)]) (rest := []) X (hD _ _) lk_L_100 (ci := 2) rfl rfl 0 rfl (c_T_going u r ca T a1 a2 h.it h.itt ha1 ha2) (jn_l (hD _ _)) rfl ⟨by decide, by decide⟩ (Nat.le_of_ble_eq_true rfl) dL_law_843 ?_
  refine gx_aload_n X dL_law_846 rfl 1 rfl ?_
  refine gx_aload_n X dL_law_847 rfl 3 rfl ?_
  refine gx_iload_n X dL_law_848 rfl 0 rfl ?_
  refine gx_iconst (z := 1) X dL_law_849 rfl ?_
  refine gx_iadd X dL_law_850 ?_
  refine gx_sld X hX hbl hbA ⟨by omega, by omega, by omega⟩ e1 dL_law_851 ?_
  refine gx_aload_n X dL_law_852 rfl 3 rfl ?_
  refine gx_iload_n X dL_law_853 rfl 0 rfl ?_
  refine gx_iconst (z := 2) X dL_law_854 rfl ?_
  refine gx_iadd X dL_law_855 ?_
  refine gx_sld X hX hbl hbA ⟨by omega, by omega, by omega⟩ e2 dL_law_856 ?_
  refine gx_callVI (As := [.int (iI a1), .int (iI a2)]) (rest := [.int (iI (T_going T a1 a2))]) X (hD _ _) lk_L_103 (ci := 3) rfl rfl 0 rfl (c_M_going q S a1 a2 h.iw h.iwt ha1 ha2) (jn_r (hD _ _)) rfl ⟨by decide, by decide⟩ (Nat.le_of_ble_eq_true rfl) dL_law_857 ?_
  exact gx_same (tgt := 1204) X dL_law_860 (by decide) (s_going h a1 a2) (next _ _ (h.mono (by omega) hN))
set_option maxRecDepth 100000 in
theorem law_21 {l : Launch} {K : KK} {x : Cx} {b L : Nat} {xs : Nat → Int32} {u r q : Nat → Nat} {ca : Nat → Nat → Nat} {N i : Int} {T : TS} {S : Sta} (Z : LwX l K x b L xs u r ca q) (h : Rel N T S) (hN : N + 1 ≤ 1000) (hi : 0 ≤ i ∧ i + 5 ≤ (L : Int) ∧ (L : Int) ≤ 2560) (next : ∀ (T' : TS) (S' : Sta), Rel (N + 1) T' S' → GG l room_1 K x (wT K u r ca T' ++ wM K q S') 1204 [(3, .int (iI i)), (2, .ref (q 0)), (1, .ref (u 0)), (0, .ref b)] []) : GG l room_1 K x (wT K u r ca T ++ wM K q S) 865 [(3, .int (iI i)), (2, .ref (q 0)), (1, .ref (u 0)), (0, .ref b)] [] := by
  obtain ⟨X, hX, hbl, hbA, hD⟩ := Z
  obtain ⟨a1, ha1, e1⟩ : ∃ a : Int, ok32 a ∧ xs (i + 1).toNat = iI a := ⟨_, ok_toInt _, iI_of _⟩
  obtain ⟨a2, ha2, e2⟩ : ∃ a : Int, ok32 a ∧ xs (i + 2).toNat = iI a := ⟨_, ok_toInt _, iI_of _⟩
  obtain ⟨a3, ha3, e3⟩ : ∃ a : Int, ok32 a ∧ xs (i + 3).toNat = iI a := ⟨_, ok_toInt _, iI_of _⟩
  obtain ⟨a4, ha4, e4⟩ : ∃ a : Int, ok32 a ∧ xs (i + 4).toNat = iI a := ⟨_, ok_toInt _, iI_of _⟩
  refine gx_aload_n X dL_law_865 rfl 2 rfl ?_
  refine gx_aload_n X dL_law_866 rfl 3 rfl ?_
  refine gx_iload_n X dL_law_867 rfl 0 rfl ?_
  refine gx_iconst (z := 1) X dL_law_868 rfl ?_
  refine gx_iadd X dL_law_869 ?_
  refine gx_sld X hX hbl hbA ⟨by omega, by omega, by omega⟩ e1 dL_law_870 ?_
  refine gx_callVI (As := [.int (iI a1)]) (rest := []) X (hD _ _) lk_L_104 (ci := 2) rfl rfl 0 rfl (c_T_evens u r ca T a1 h.it h.itt ha1) (jn_l (hD _ _)) rfl ⟨by decide, by decide⟩ (Nat.le_of_ble_eq_true rfl) dL_law_871 ?_
  refine gx_aload_n X dL_law_874 rfl 1 rfl ?_
  refine gx_aload_n X dL_law_875 rfl 3 rfl ?_
  refine gx_iload_n X dL_law_876 rfl 0 rfl ?_
  refine gx_iconst (z := 1) X dL_law_877 rfl ?_
  refine gx_iadd X dL_law_878 ?_
  refine gx_sld X hX hbl hbA ⟨by omega, by omega, by omega⟩ e1 dL_law_879 ?_
  refine gx_callVI (As := [.int (iI a1)]) (rest := [.int (iI (T_evens T a1))]) X (hD _ _) lk_L_107 (ci := 3) rfl rfl 0 rfl (c_M_evens q S a1 h.iw h.iwt ha1) (jn_r (hD _ _)) rfl ⟨by decide, by decide⟩ (Nat.le_of_ble_eq_true rfl) dL_law_880 ?_
  exact gx_same (tgt := 1204) X dL_law_883 (by decide) (s_evens h a1) (next _ _ (h.mono (by omega) hN))
set_option maxRecDepth 100000 in
theorem law_22 {l : Launch} {K : KK} {x : Cx} {b L : Nat} {xs : Nat → Int32} {u r q : Nat → Nat} {ca : Nat → Nat → Nat} {N i : Int} {T : TS} {S : Sta} (Z : LwX l K x b L xs u r ca q) (h : Rel N T S) (hN : N + 1 ≤ 1000) (hi : 0 ≤ i ∧ i + 5 ≤ (L : Int) ∧ (L : Int) ≤ 2560) (next : ∀ (T' : TS) (S' : Sta), Rel (N + 1) T' S' → GG l room_1 K x (wT K u r ca T' ++ wM K q S') 1204 [(3, .int (iI i)), (2, .ref (q 0)), (1, .ref (u 0)), (0, .ref b)] []) : GG l room_1 K x (wT K u r ca T ++ wM K q S) 888 [(3, .int (iI i)), (2, .ref (q 0)), (1, .ref (u 0)), (0, .ref b)] [] := by
  obtain ⟨X, hX, hbl, hbA, hD⟩ := Z
  obtain ⟨a1, ha1, e1⟩ : ∃ a : Int, ok32 a ∧ xs (i + 1).toNat = iI a := ⟨_, ok_toInt _, iI_of _⟩
  obtain ⟨a2, ha2, e2⟩ : ∃ a : Int, ok32 a ∧ xs (i + 2).toNat = iI a := ⟨_, ok_toInt _, iI_of _⟩
  obtain ⟨a3, ha3, e3⟩ : ∃ a : Int, ok32 a ∧ xs (i + 3).toNat = iI a := ⟨_, ok_toInt _, iI_of _⟩
  obtain ⟨a4, ha4, e4⟩ : ∃ a : Int, ok32 a ∧ xs (i + 4).toNat = iI a := ⟨_, ok_toInt _, iI_of _⟩
  refine gx_aload_n X dL_law_888 rfl 2 rfl ?_
  refine gx_aload_n X dL_law_889 rfl 3 rfl ?_
  refine gx_iload_n X dL_law_890 rfl 0 rfl ?_
  refine gx_iconst (z := 1) X dL_law_891 rfl ?_
  refine gx_iadd X dL_law_892 ?_
  refine gx_sld X hX hbl hbA ⟨by omega, by omega, by omega⟩ e1 dL_law_893 ?_
  refine gx_aload_n X dL_law_894 rfl 3 rfl ?_
  refine gx_iload_n X dL_law_895 rfl 0 rfl ?_
  refine gx_iconst (z := 2) X dL_law_896 rfl ?_
  refine gx_iadd X dL_law_897 ?_
  refine gx_sld X hX hbl hbA ⟨by omega, by omega, by omega⟩ e2 dL_law_898 ?_
  refine gx_aload_n X dL_law_899 rfl 3 rfl ?_
  refine gx_iload_n X dL_law_900 rfl 0 rfl ?_
  refine gx_iconst (z := 3) X dL_law_901 rfl ?_
  refine gx_iadd X dL_law_902 ?_
  refine gx_sld X hX hbl hbA ⟨by omega, by omega, by omega⟩ e3 dL_law_903 ?_
  refine gx_callVI (As := [.int (iI a1), .int (iI a2), .int (iI a3)]) (rest := []) X (hD _ _) lk_L_108 (ci := 2) rfl rfl 0 rfl (c_T_paint u r ca T a1 a2 a3 h.it ha1 ha2 ha3) (jn_l (hD _ _)) rfl ⟨by decide, by decide⟩ (Nat.le_of_ble_eq_true rfl) dL_law_904 ?_
  refine gx_aload_n X dL_law_907 rfl 1 rfl ?_
  refine gx_aload_n X dL_law_908 rfl 3 rfl ?_
  refine gx_iload_n X dL_law_909 rfl 0 rfl ?_
  refine gx_iconst (z := 1) X dL_law_910 rfl ?_
  refine gx_iadd X dL_law_911 ?_
  refine gx_sld X hX hbl hbA ⟨by omega, by omega, by omega⟩ e1 dL_law_912 ?_
  refine gx_aload_n X dL_law_913 rfl 3 rfl ?_
  refine gx_iload_n X dL_law_914 rfl 0 rfl ?_
  refine gx_iconst (z := 2) X dL_law_915 rfl ?_
  refine gx_iadd X dL_law_916 ?_
  refine gx_sld X hX hbl hbA ⟨by omega, by omega, by omega⟩ e2 dL_law_917 ?_
  refine gx_aload_n X dL_law_918 rfl 3 rfl ?_
  refine gx_iload_n X dL_law_919 rfl 0 rfl ?_
  refine gx_iconst (z := 3) X dL_law_920 rfl ?_
  refine gx_iadd X dL_law_921 ?_
  refine gx_sld X hX hbl hbA ⟨by omega, by omega, by omega⟩ e3 dL_law_922 ?_
  refine gx_callVI (As := [.int (iI a1), .int (iI a2), .int (iI a3)]) (rest := [.int (iI (T_paint T a1 a2 a3).1)]) X (hD _ _) lk_L_111 (ci := 3) rfl rfl 0 rfl (c_M_paint q S a1 a2 a3 h.iw ha1 ha2 ha3) (jn_r (hD _ _)) rfl ⟨by decide, by decide⟩ (Nat.le_of_ble_eq_true rfl) dL_law_923 ?_
  have e9 := s_paint h hN a1 a2 a3
  exact gx_same (tgt := 1204) X dL_law_926 (by decide) e9.1 (next _ _ e9.2)
set_option maxRecDepth 100000 in
theorem law_23 {l : Launch} {K : KK} {x : Cx} {b L : Nat} {xs : Nat → Int32} {u r q : Nat → Nat} {ca : Nat → Nat → Nat} {N i : Int} {T : TS} {S : Sta} (Z : LwX l K x b L xs u r ca q) (h : Rel N T S) (hN : N + 1 ≤ 1000) (hi : 0 ≤ i ∧ i + 5 ≤ (L : Int) ∧ (L : Int) ≤ 2560) (next : ∀ (T' : TS) (S' : Sta), Rel (N + 1) T' S' → GG l room_1 K x (wT K u r ca T' ++ wM K q S') 1204 [(3, .int (iI i)), (2, .ref (q 0)), (1, .ref (u 0)), (0, .ref b)] []) : GG l room_1 K x (wT K u r ca T ++ wM K q S) 931 [(3, .int (iI i)), (2, .ref (q 0)), (1, .ref (u 0)), (0, .ref b)] [] := by
  obtain ⟨X, hX, hbl, hbA, hD⟩ := Z
  obtain ⟨a1, ha1, e1⟩ : ∃ a : Int, ok32 a ∧ xs (i + 1).toNat = iI a := ⟨_, ok_toInt _, iI_of _⟩
  obtain ⟨a2, ha2, e2⟩ : ∃ a : Int, ok32 a ∧ xs (i + 2).toNat = iI a := ⟨_, ok_toInt _, iI_of _⟩
  obtain ⟨a3, ha3, e3⟩ : ∃ a : Int, ok32 a ∧ xs (i + 3).toNat = iI a := ⟨_, ok_toInt _, iI_of _⟩
  obtain ⟨a4, ha4, e4⟩ : ∃ a : Int, ok32 a ∧ xs (i + 4).toNat = iI a := ⟨_, ok_toInt _, iI_of _⟩
  refine gx_aload_n X dL_law_931 rfl 2 rfl ?_
  refine gx_aload_n X dL_law_932 rfl 3 rfl ?_
  refine gx_iload_n X dL_law_933 rfl 0 rfl ?_
  refine gx_iconst (z := 1) X dL_law_934 rfl ?_
  refine gx_iadd X dL_law_935 ?_
  refine gx_sld X hX hbl hbA ⟨by omega, by omega, by omega⟩ e1 dL_law_936 ?_
  refine gx_aload_n X dL_law_937 rfl 3 rfl ?_
  refine gx_iload_n X dL_law_938 rfl 0 rfl ?_
  refine gx_iconst (z := 2) X dL_law_939 rfl ?_
  refine gx_iadd X dL_law_940 ?_
  refine gx_sld X hX hbl hbA ⟨by omega, by omega, by omega⟩ e2 dL_law_941 ?_
  refine gx_callVI (As := [.int (iI a1), .int (iI a2)]) (rest := []) X (hD _ _) lk_L_112 (ci := 2) rfl rfl 0 rfl (c_T_rule u r ca T a1 a2 h.it ha1 ha2) (jn_l (hD _ _)) rfl ⟨by decide, by decide⟩ (Nat.le_of_ble_eq_true rfl) dL_law_942 ?_
  refine gx_aload_n X dL_law_945 rfl 1 rfl ?_
  refine gx_aload_n X dL_law_946 rfl 3 rfl ?_
  refine gx_iload_n X dL_law_947 rfl 0 rfl ?_
  refine gx_iconst (z := 1) X dL_law_948 rfl ?_
  refine gx_iadd X dL_law_949 ?_
  refine gx_sld X hX hbl hbA ⟨by omega, by omega, by omega⟩ e1 dL_law_950 ?_
  refine gx_aload_n X dL_law_951 rfl 3 rfl ?_
  refine gx_iload_n X dL_law_952 rfl 0 rfl ?_
  refine gx_iconst (z := 2) X dL_law_953 rfl ?_
  refine gx_iadd X dL_law_954 ?_
  refine gx_sld X hX hbl hbA ⟨by omega, by omega, by omega⟩ e2 dL_law_955 ?_
  refine gx_callVI (As := [.int (iI a1), .int (iI a2)]) (rest := [.int (iI (T_rule T a1 a2).1)]) X (hD _ _) lk_L_115 (ci := 3) rfl rfl 0 rfl (c_M_rule q S a1 a2 h.iw ha1 ha2) (jn_r (hD _ _)) rfl ⟨by decide, by decide⟩ (Nat.le_of_ble_eq_true rfl) dL_law_956 ?_
  have e9 := s_rule h hN a1 a2
  exact gx_same (tgt := 1204) X dL_law_959 (by decide) e9.1 (next _ _ e9.2)
set_option maxRecDepth 100000 in
theorem law_24 {l : Launch} {K : KK} {x : Cx} {b L : Nat} {xs : Nat → Int32} {u r q : Nat → Nat} {ca : Nat → Nat → Nat} {N i : Int} {T : TS} {S : Sta} (Z : LwX l K x b L xs u r ca q) (h : Rel N T S) (hN : N + 1 ≤ 1000) (hi : 0 ≤ i ∧ i + 5 ≤ (L : Int) ∧ (L : Int) ≤ 2560) (next : ∀ (T' : TS) (S' : Sta), Rel (N + 1) T' S' → GG l room_1 K x (wT K u r ca T' ++ wM K q S') 1204 [(3, .int (iI i)), (2, .ref (q 0)), (1, .ref (u 0)), (0, .ref b)] []) : GG l room_1 K x (wT K u r ca T ++ wM K q S) 964 [(3, .int (iI i)), (2, .ref (q 0)), (1, .ref (u 0)), (0, .ref b)] [] := by
  obtain ⟨X, hX, hbl, hbA, hD⟩ := Z
  obtain ⟨a1, ha1, e1⟩ : ∃ a : Int, ok32 a ∧ xs (i + 1).toNat = iI a := ⟨_, ok_toInt _, iI_of _⟩
  obtain ⟨a2, ha2, e2⟩ : ∃ a : Int, ok32 a ∧ xs (i + 2).toNat = iI a := ⟨_, ok_toInt _, iI_of _⟩
  obtain ⟨a3, ha3, e3⟩ : ∃ a : Int, ok32 a ∧ xs (i + 3).toNat = iI a := ⟨_, ok_toInt _, iI_of _⟩
  obtain ⟨a4, ha4, e4⟩ : ∃ a : Int, ok32 a ∧ xs (i + 4).toNat = iI a := ⟨_, ok_toInt _, iI_of _⟩
  refine gx_aload_n X dL_law_964 rfl 2 rfl ?_
  refine gx_callVI (As := []) (rest := []) X (hD _ _) lk_L_116 (ci := 2) rfl rfl 0 rfl (c_T_unlike u r ca T  h.it) (jn_l (hD _ _)) rfl ⟨by decide, by decide⟩ (Nat.le_of_ble_eq_true rfl) dL_law_965 ?_
  refine gx_aload_n X dL_law_968 rfl 1 rfl ?_
  refine gx_callVI (As := []) (rest := [.int (iI (T_unlike T))]) X (hD _ _) lk_L_119 (ci := 3) rfl rfl 0 rfl (c_M_unlike q S  h.iw) (jn_r (hD _ _)) rfl ⟨by decide, by decide⟩ (Nat.le_of_ble_eq_true rfl) dL_law_969 ?_
  exact gx_same (tgt := 1204) X dL_law_972 (by decide) (s_unlike h) (next _ _ (h.mono (by omega) hN))
set_option maxRecDepth 100000 in
theorem law_25 {l : Launch} {K : KK} {x : Cx} {b L : Nat} {xs : Nat → Int32} {u r q : Nat → Nat} {ca : Nat → Nat → Nat} {N i : Int} {T : TS} {S : Sta} (Z : LwX l K x b L xs u r ca q) (h : Rel N T S) (hN : N + 1 ≤ 1000) (hi : 0 ≤ i ∧ i + 5 ≤ (L : Int) ∧ (L : Int) ≤ 2560) (next : ∀ (T' : TS) (S' : Sta), Rel (N + 1) T' S' → GG l room_1 K x (wT K u r ca T' ++ wM K q S') 1204 [(3, .int (iI i)), (2, .ref (q 0)), (1, .ref (u 0)), (0, .ref b)] []) : GG l room_1 K x (wT K u r ca T ++ wM K q S) 977 [(3, .int (iI i)), (2, .ref (q 0)), (1, .ref (u 0)), (0, .ref b)] [] := by
  obtain ⟨X, hX, hbl, hbA, hD⟩ := Z
  obtain ⟨a1, ha1, e1⟩ : ∃ a : Int, ok32 a ∧ xs (i + 1).toNat = iI a := ⟨_, ok_toInt _, iI_of _⟩
  obtain ⟨a2, ha2, e2⟩ : ∃ a : Int, ok32 a ∧ xs (i + 2).toNat = iI a := ⟨_, ok_toInt _, iI_of _⟩
  obtain ⟨a3, ha3, e3⟩ : ∃ a : Int, ok32 a ∧ xs (i + 3).toNat = iI a := ⟨_, ok_toInt _, iI_of _⟩
  obtain ⟨a4, ha4, e4⟩ : ∃ a : Int, ok32 a ∧ xs (i + 4).toNat = iI a := ⟨_, ok_toInt _, iI_of _⟩
  refine gx_aload_n X dL_law_977 rfl 2 rfl ?_
  refine gx_aload_n X dL_law_978 rfl 3 rfl ?_
  refine gx_iload_n X dL_law_979 rfl 0 rfl ?_
  refine gx_iconst (z := 1) X dL_law_980 rfl ?_
  refine gx_iadd X dL_law_981 ?_
  refine gx_sld X hX hbl hbA ⟨by omega, by omega, by omega⟩ e1 dL_law_982 ?_
  refine gx_callVI (As := [.int (iI a1)]) (rest := []) X (hD _ _) lk_L_120 (ci := 2) rfl rfl 0 rfl (c_T_idles u r ca T a1 h.it h.itt ha1) (jn_l (hD _ _)) rfl ⟨by decide, by decide⟩ (Nat.le_of_ble_eq_true rfl) dL_law_983 ?_
  refine gx_aload_n X dL_law_986 rfl 1 rfl ?_
  refine gx_aload_n X dL_law_987 rfl 3 rfl ?_
  refine gx_iload_n X dL_law_988 rfl 0 rfl ?_
  refine gx_iconst (z := 1) X dL_law_989 rfl ?_
  refine gx_iadd X dL_law_990 ?_
  refine gx_sld X hX hbl hbA ⟨by omega, by omega, by omega⟩ e1 dL_law_991 ?_
  refine gx_callVI (As := [.int (iI a1)]) (rest := [.int (iI (T_idles T a1).1)]) X (hD _ _) lk_L_123 (ci := 3) rfl rfl 0 rfl (c_M_idles q S a1 h.iw h.iwt ha1) (jn_r (hD _ _)) rfl ⟨by decide, by decide⟩ (Nat.le_of_ble_eq_true rfl) dL_law_992 ?_
  have e9 := s_idles h a1
  exact gx_same (tgt := 1204) X dL_law_995 (by decide) e9.1 (next _ _ (e9.2.mono (by omega) hN))
set_option maxRecDepth 100000 in
theorem law_26 {l : Launch} {K : KK} {x : Cx} {b L : Nat} {xs : Nat → Int32} {u r q : Nat → Nat} {ca : Nat → Nat → Nat} {N i : Int} {T : TS} {S : Sta} (Z : LwX l K x b L xs u r ca q) (h : Rel N T S) (hN : N + 1 ≤ 1000) (hi : 0 ≤ i ∧ i + 5 ≤ (L : Int) ∧ (L : Int) ≤ 2560) (next : ∀ (T' : TS) (S' : Sta), Rel (N + 1) T' S' → GG l room_1 K x (wT K u r ca T' ++ wM K q S') 1204 [(3, .int (iI i)), (2, .ref (q 0)), (1, .ref (u 0)), (0, .ref b)] []) : GG l room_1 K x (wT K u r ca T ++ wM K q S) 1000 [(3, .int (iI i)), (2, .ref (q 0)), (1, .ref (u 0)), (0, .ref b)] [] := by
  obtain ⟨X, hX, hbl, hbA, hD⟩ := Z
  obtain ⟨a1, ha1, e1⟩ : ∃ a : Int, ok32 a ∧ xs (i + 1).toNat = iI a := ⟨_, ok_toInt _, iI_of _⟩
  obtain ⟨a2, ha2, e2⟩ : ∃ a : Int, ok32 a ∧ xs (i + 2).toNat = iI a := ⟨_, ok_toInt _, iI_of _⟩
  obtain ⟨a3, ha3, e3⟩ : ∃ a : Int, ok32 a ∧ xs (i + 3).toNat = iI a := ⟨_, ok_toInt _, iI_of _⟩
  obtain ⟨a4, ha4, e4⟩ : ∃ a : Int, ok32 a ∧ xs (i + 4).toNat = iI a := ⟨_, ok_toInt _, iI_of _⟩
  refine gx_aload_n X dL_law_1000 rfl 2 rfl ?_
  refine gx_aload_n X dL_law_1001 rfl 3 rfl ?_
  refine gx_iload_n X dL_law_1002 rfl 0 rfl ?_
  refine gx_iconst (z := 1) X dL_law_1003 rfl ?_
  refine gx_iadd X dL_law_1004 ?_
  refine gx_sld X hX hbl hbA ⟨by omega, by omega, by omega⟩ e1 dL_law_1005 ?_
  refine gx_aload_n X dL_law_1006 rfl 3 rfl ?_
  refine gx_iload_n X dL_law_1007 rfl 0 rfl ?_
  refine gx_iconst (z := 2) X dL_law_1008 rfl ?_
  refine gx_iadd X dL_law_1009 ?_
  refine gx_sld X hX hbl hbA ⟨by omega, by omega, by omega⟩ e2 dL_law_1010 ?_
  refine gx_callVI (As := [.int (iI a1), .int (iI a2)]) (rest := []) X (hD _ _) lk_L_124 (ci := 2) rfl rfl 0 rfl (c_T_turning u r ca T a1 a2 h.it h.itt ha1 ha2) (jn_l (hD _ _)) rfl ⟨by decide, by decide⟩ (Nat.le_of_ble_eq_true rfl) dL_law_1011 ?_
  refine gx_aload_n X dL_law_1014 rfl 1 rfl ?_
  refine gx_aload_n X dL_law_1015 rfl 3 rfl ?_
  refine gx_iload_n X dL_law_1016 rfl 0 rfl ?_
  refine gx_iconst (z := 1) X dL_law_1017 rfl ?_
  refine gx_iadd X dL_law_1018 ?_
  refine gx_sld X hX hbl hbA ⟨by omega, by omega, by omega⟩ e1 dL_law_1019 ?_
  refine gx_aload_n X dL_law_1020 rfl 3 rfl ?_
  refine gx_iload_n X dL_law_1021 rfl 0 rfl ?_
  refine gx_iconst (z := 2) X dL_law_1022 rfl ?_
  refine gx_iadd X dL_law_1023 ?_
  refine gx_sld X hX hbl hbA ⟨by omega, by omega, by omega⟩ e2 dL_law_1024 ?_
  refine gx_callVI (As := [.int (iI a1), .int (iI a2)]) (rest := [.int (iI (T_turning T a1 a2).1)]) X (hD _ _) lk_L_127 (ci := 3) rfl rfl 0 rfl (c_M_turning q S a1 a2 h.iw h.iwt ha1 ha2) (jn_r (hD _ _)) rfl ⟨by decide, by decide⟩ (Nat.le_of_ble_eq_true rfl) dL_law_1025 ?_
  have e9 := s_turning h a1 a2
  exact gx_same (tgt := 1204) X dL_law_1028 (by decide) e9.1 (next _ _ (e9.2.mono (by omega) hN))
