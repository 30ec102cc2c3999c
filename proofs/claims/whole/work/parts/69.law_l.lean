set_option maxRecDepth 100000 in
theorem law_loop {l : Launch} {K : KK} {x : Cx} {b L : Nat} {xs : Nat → Int32} {u r q : Nat → Nat} {ca : Nat → Nat → Nat} (Z : LwX l K x b L xs u r ca q) (hL : L ≤ 2560) (ex : ∀ (T : TS) (S : Sta) (lv : List (Nat × Value)), GG l room_1 K x (wT K u r ca T ++ wM K q S) 1211 lv [.int (iI 1)]) : ∀ (n : Nat) (N i : Int) (T : TS) (S : Sta), Rel N T S → 0 ≤ N → i = 5 * N → i ≤ (L : Int) → (L : Int) - i < (n : Int) → GG l room_1 K x (wT K u r ca T ++ wM K q S) 18 [(3, .int (iI i)), (2, .ref (q 0)), (1, .ref (u 0)), (0, .ref b)] [] := by
  intro n
  induction n with
  | zero => intro N i T S _ _ _ h1 h2; exact absurd h2 (by omega)
  | succ n ih =>
    intro N i T S h N0 hi iL hn
    obtain ⟨X, hX, hbl, hbA, hD⟩ := id Z
    refine gx_iload_n X dL_law_18 rfl 0 rfl ?_
    refine gx_aload_n X dL_law_19 rfl 3 rfl ?_
    refine gx_slen X hX hbl hbA dL_law_20 ?_
    refine gx_iconst (z := 5) X dL_law_21 rfl ?_
    refine gx_isub X dL_law_22 ?_
    refine gx_icmp_gt (tgt := 1210) X dL_law_23 (by decide) (by omega) (fun c9 => ?_) (fun c9 => ?_)
    · refine gx_iconst (z := 1) X dL_law_1210 rfl ?_
      exact ex T S _
    · have hi5 : 0 ≤ i ∧ i + 5 ≤ (L : Int) ∧ (L : Int) ≤ 2560 := by omega
      have hN : N + 1 ≤ 1000 := by omega
      have next : ∀ (T' : TS) (S' : Sta), Rel (N + 1) T' S' → GG l room_1 K x (wT K u r ca T' ++ wM K q S') 1204 [(3, .int (iI i)), (2, .ref (q 0)), (1, .ref (u 0)), (0, .ref b)] [] := by
        intro T' S' h'
        refine gx_iinc X dL_law_1204 0 rfl (by decide) rfl ?_
        refine gx_goto (tgt := 18) X dL_law_1207 (by decide) ?_
        exact ih (N + 1) (i + 5) T' S' h' (by omega) (by omega) (by omega) (by omega)
      obtain ⟨a0, ha0, e0⟩ : ∃ a : Int, ok32 a ∧ xs i.toNat = iI a := ⟨_, ok_toInt _, iI_of _⟩
      refine gx_aload_n X dL_law_26 rfl 3 rfl ?_
      refine gx_iload_n X dL_law_27 rfl 0 rfl ?_
      refine gx_sld X hX hbl hbA ⟨by omega, by omega, by omega⟩ e0 dL_law_28 ?_
      refine gx_bipush (z := 63) X dL_law_29 (by decide) ?_
      refine gx_iand X dL_law_31 ?_
      have ho := ok_and a0 63
      generalize zi_and a0 63 = w at ho ⊢
      by_cases w0 : w = 0
      · refine gx_switchIn (tgt := 184) X dL_law_32 (k := 0) w0 (by decide) (by decide) rfl (by decide) ?_
        exact law_0 Z h hN hi5 next
      by_cases w1 : w = 1
      · refine gx_switchIn (tgt := 207) X dL_law_32 (k := 1) w1 (by decide) (by decide) rfl (by decide) ?_
        exact law_1 Z h hN hi5 next
      by_cases w2 : w = 2
      · refine gx_switchIn (tgt := 250) X dL_law_32 (k := 2) w2 (by decide) (by decide) rfl (by decide) ?_
        exact law_2 Z h hN hi5 next
      by_cases w3 : w = 3
      · refine gx_switchIn (tgt := 283) X dL_law_32 (k := 3) w3 (by decide) (by decide) rfl (by decide) ?_
        exact law_3 Z h hN hi5 next
      by_cases w4 : w = 4
      · refine gx_switchIn (tgt := 306) X dL_law_32 (k := 4) w4 (by decide) (by decide) rfl (by decide) ?_
        exact law_4 Z h hN hi5 next
      by_cases w5 : w = 5
      · refine gx_switchIn (tgt := 339) X dL_law_32 (k := 5) w5 (by decide) (by decide) rfl (by decide) ?_
        exact law_5 Z h hN hi5 next
      by_cases w6 : w = 6
      · refine gx_switchIn (tgt := 372) X dL_law_32 (k := 6) w6 (by decide) (by decide) rfl (by decide) ?_
        exact law_6 Z h hN hi5 next
      by_cases w7 : w = 7
      · refine gx_switchIn (tgt := 405) X dL_law_32 (k := 7) w7 (by decide) (by decide) rfl (by decide) ?_
        exact law_7 Z h hN hi5 next
      by_cases w8 : w = 8
      · refine gx_switchIn (tgt := 438) X dL_law_32 (k := 8) w8 (by decide) (by decide) rfl (by decide) ?_
        exact law_8 Z h hN hi5 next
      by_cases w9 : w = 9
      · refine gx_switchIn (tgt := 491) X dL_law_32 (k := 9) w9 (by decide) (by decide) rfl (by decide) ?_
        exact law_9 Z h hN hi5 next
      by_cases w10 : w = 10
      · refine gx_switchIn (tgt := 504) X dL_law_32 (k := 10) w10 (by decide) (by decide) rfl (by decide) ?_
        exact law_10 Z h hN hi5 next
      by_cases w11 : w = 11
      · refine gx_switchIn (tgt := 537) X dL_law_32 (k := 11) w11 (by decide) (by decide) rfl (by decide) ?_
        exact law_11 Z h hN hi5 next
      by_cases w12 : w = 12
      · refine gx_switchIn (tgt := 596) X dL_law_32 (k := 12) w12 (by decide) (by decide) rfl (by decide) ?_
        exact law_12 Z h hN hi5 next
      by_cases w13 : w = 13
      · refine gx_switchIn (tgt := 655) X dL_law_32 (k := 13) w13 (by decide) (by decide) rfl (by decide) ?_
        exact law_13 Z h hN hi5 next
      by_cases w14 : w = 14
      · refine gx_switchIn (tgt := 688) X dL_law_32 (k := 14) w14 (by decide) (by decide) rfl (by decide) ?_
        exact law_14 Z h hN hi5 next
      by_cases w15 : w = 15
      · refine gx_switchIn (tgt := 711) X dL_law_32 (k := 15) w15 (by decide) (by decide) rfl (by decide) ?_
        exact law_15 Z h hN hi5 next
      by_cases w16 : w = 16
      · refine gx_switchIn (tgt := 744) X dL_law_32 (k := 16) w16 (by decide) (by decide) rfl (by decide) ?_
        exact law_16 Z h hN hi5 next
      by_cases w17 : w = 17
      · refine gx_switchIn (tgt := 757) X dL_law_32 (k := 17) w17 (by decide) (by decide) rfl (by decide) ?_
        exact law_17 Z h hN hi5 next
      by_cases w18 : w = 18
      · refine gx_switchIn (tgt := 780) X dL_law_32 (k := 18) w18 (by decide) (by decide) rfl (by decide) ?_
        exact law_18 Z h hN hi5 next
      by_cases w19 : w = 19
      · refine gx_switchIn (tgt := 793) X dL_law_32 (k := 19) w19 (by decide) (by decide) rfl (by decide) ?_
        exact law_19 Z h hN hi5 next
      by_cases w20 : w = 20
      · refine gx_switchIn (tgt := 832) X dL_law_32 (k := 20) w20 (by decide) (by decide) rfl (by decide) ?_
        exact law_20 Z h hN hi5 next
      by_cases w21 : w = 21
      · refine gx_switchIn (tgt := 865) X dL_law_32 (k := 21) w21 (by decide) (by decide) rfl (by decide) ?_
        exact law_21 Z h hN hi5 next
      by_cases w22 : w = 22
      · refine gx_switchIn (tgt := 888) X dL_law_32 (k := 22) w22 (by decide) (by decide) rfl (by decide) ?_
        exact law_22 Z h hN hi5 next
      by_cases w23 : w = 23
      · refine gx_switchIn (tgt := 931) X dL_law_32 (k := 23) w23 (by decide) (by decide) rfl (by decide) ?_
        exact law_23 Z h hN hi5 next
      by_cases w24 : w = 24
      · refine gx_switchIn (tgt := 964) X dL_law_32 (k := 24) w24 (by decide) (by decide) rfl (by decide) ?_
        exact law_24 Z h hN hi5 next
      by_cases w25 : w = 25
      · refine gx_switchIn (tgt := 977) X dL_law_32 (k := 25) w25 (by decide) (by decide) rfl (by decide) ?_
        exact law_25 Z h hN hi5 next
      by_cases w26 : w = 26
      · refine gx_switchIn (tgt := 1000) X dL_law_32 (k := 26) w26 (by decide) (by decide) rfl (by decide) ?_
        exact law_26 Z h hN hi5 next
      by_cases w27 : w = 27
      · refine gx_switchIn (tgt := 1033) X dL_law_32 (k := 27) w27 (by decide) (by decide) rfl (by decide) ?_
        exact law_27 Z h hN hi5 next
      by_cases w28 : w = 28
      · refine gx_switchIn (tgt := 1056) X dL_law_32 (k := 28) w28 (by decide) (by decide) rfl (by decide) ?_
        exact law_28 Z h hN hi5 next
      by_cases w29 : w = 29
      · refine gx_switchIn (tgt := 1069) X dL_law_32 (k := 29) w29 (by decide) (by decide) rfl (by decide) ?_
        exact law_29 Z h hN hi5 next
      by_cases w30 : w = 30
      · refine gx_switchIn (tgt := 1102) X dL_law_32 (k := 30) w30 (by decide) (by decide) rfl (by decide) ?_
        exact law_30 Z h hN hi5 next
      by_cases w31 : w = 31
      · refine gx_switchIn (tgt := 1125) X dL_law_32 (k := 31) w31 (by decide) (by decide) rfl (by decide) ?_
        exact law_31 Z h hN hi5 next
      by_cases w32 : w = 32
      · refine gx_switchIn (tgt := 1148) X dL_law_32 (k := 32) w32 (by decide) (by decide) rfl (by decide) ?_
        exact law_32 Z h hN hi5 next
      by_cases w33 : w = 33
      · refine gx_switchIn (tgt := 1181) X dL_law_32 (k := 33) w33 (by decide) (by decide) rfl (by decide) ?_
        exact law_33 Z h hN hi5 next
      refine gx_switchOut (tgt := 1204) X dL_law_32 ho (by omega) (by decide) ?_
      exact next T S (h.mono (by omega) hN)
