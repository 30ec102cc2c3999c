set_option maxRecDepth 100000 in
theorem law_9 {l : Launch} {K : KK} {x : Cx} {b L : Nat} {xs : Nat → Int32} {u r q : Nat → Nat} {ca : Nat → Nat → Nat} {N i : Int} {T : TS} {S : Sta} (Z : LwX l K x b L xs u r ca q) (h : Rel N T S) (hN : N + 1 ≤ 1000) (hi : 0 ≤ i ∧ i + 5 ≤ (L : Int) ∧ (L : Int) ≤ 2560) (next : ∀ (T' : TS) (S' : Sta), Rel (N + 1) T' S' → GG l room_1 K x (wT K u r ca T' ++ wM K q S') 1204 [(3, .int (iI i)), (2, .ref (q 0)), (1, .ref (u 0)), (0, .ref b)] []) : GG l room_1 K x (wT K u r ca T ++ wM K q S) 491 [(3, .int (iI i)), (2, .ref (q 0)), (1, .ref (u 0)), (0, .ref b)] [] := by
  obtain ⟨X, hX, hbl, hbA, hD⟩ := Z
  obtain ⟨a1, ha1, e1⟩ : ∃ a : Int, ok32 a ∧ xs (i + 1).toNat = iI a := ⟨_, ok_toInt _, iI_of _⟩
  obtain ⟨a2, ha2, e2⟩ : ∃ a : Int, ok32 a ∧ xs (i + 2).toNat = iI a := ⟨_, ok_toInt _, iI_of _⟩
  obtain ⟨a3, ha3, e3⟩ : ∃ a : Int, ok32 a ∧ xs (i + 3).toNat = iI a := ⟨_, ok_toInt _, iI_of _⟩
  obtain ⟨a4, ha4, e4⟩ : ∃ a : Int, ok32 a ∧ xs (i + 4).toNat = iI a := ⟨_, ok_toInt _, iI_of _⟩
  refine gx_aload_n X dL_law_491 rfl 2 rfl ?_
  refine gx_callVI (As := []) (rest := []) X (hD _ _) lk_L_53 (ci := 2) rfl rfl 0 rfl (c_T_unweave u r ca T  h.it h.flipsAhead) (jn_l (hD _ _)) rfl ⟨by decide, by decide⟩ (Nat.le_of_ble_eq_true rfl) dL_law_492 ?_
  refine gx_aload_n X dL_law_495 rfl 1 rfl ?_
  refine gx_callVI (As := []) (rest := [.int (iI (T_unweave T).1)]) X (hD _ _) lk_L_57 (ci := 3) rfl rfl 0 rfl (c_M_unweave q S  h.iw) (jn_r (hD _ _)) rfl ⟨by decide, by decide⟩ (Nat.le_of_ble_eq_true rfl) dL_law_496 ?_
  have e9 := s_unweave h hN
  exact gx_same (tgt := 1204) X dL_law_499 (by decide) e9.1 (next _ _ e9.2)
set_option maxRecDepth 100000 in
theorem law_10 {l : Launch} {K : KK} {x : Cx} {b L : Nat} {xs : Nat → Int32} {u r q : Nat → Nat} {ca : Nat → Nat → Nat} {N i : Int} {T : TS} {S : Sta} (Z : LwX l K x b L xs u r ca q) (h : Rel N T S) (hN : N + 1 ≤ 1000) (hi : 0 ≤ i ∧ i + 5 ≤ (L : Int) ∧ (L : Int) ≤ 2560) (next : ∀ (T' : TS) (S' : Sta), Rel (N + 1) T' S' → GG l room_1 K x (wT K u r ca T' ++ wM K q S') 1204 [(3, .int (iI i)), (2, .ref (q 0)), (1, .ref (u 0)), (0, .ref b)] []) : GG l room_1 K x (wT K u r ca T ++ wM K q S) 504 [(3, .int (iI i)), (2, .ref (q 0)), (1, .ref (u 0)), (0, .ref b)] [] := by
  obtain ⟨X, hX, hbl, hbA, hD⟩ := Z
  obtain ⟨a1, ha1, e1⟩ : ∃ a : Int, ok32 a ∧ xs (i + 1).toNat = iI a := ⟨_, ok_toInt _, iI_of _⟩
  obtain ⟨a2, ha2, e2⟩ : ∃ a : Int, ok32 a ∧ xs (i + 2).toNat = iI a := ⟨_, ok_toInt _, iI_of _⟩
  obtain ⟨a3, ha3, e3⟩ : ∃ a : Int, ok32 a ∧ xs (i + 3).toNat = iI a := ⟨_, ok_toInt _, iI_of _⟩
  obtain ⟨a4, ha4, e4⟩ : ∃ a : Int, ok32 a ∧ xs (i + 4).toNat = iI a := ⟨_, ok_toInt _, iI_of _⟩
  refine gx_aload_n X dL_law_504 rfl 2 rfl ?_
  refine gx_aload_n X dL_law_505 rfl 3 rfl ?_
  refine gx_iload_n X dL_law_506 rfl 0 rfl ?_
  refine gx_iconst (z := 1) X dL_law_507 rfl ?_
  refine gx_iadd X dL_law_508 ?_
  refine gx_sld X hX hbl hbA ⟨by omega, by omega, by omega⟩ e1 dL_law_509 ?_
  refine gx_aload_n X dL_law_510 rfl 3 rfl ?_
  refine gx_iload_n X dL_law_511 rfl 0 rfl ?_
  refine gx_iconst (z := 2) X dL_law_512 rfl ?_
  refine gx_iadd X dL_law_513 ?_
  refine gx_sld X hX hbl hbA ⟨by omega, by omega, by omega⟩ e2 dL_law_514 ?_
  refine gx_callVI (As := [.int (iI a1), .int (iI a2)]) (rest := []) X (hD _ _) lk_L_58 (ci := 2) rfl rfl 0 rfl (c_T_turn u r ca T a1 a2 h.it ha1 ha2) (jn_l (hD _ _)) rfl ⟨by decide, by decide⟩ (Nat.le_of_ble_eq_true rfl) dL_law_515 ?_
  refine gx_aload_n X dL_law_518 rfl 1 rfl ?_
  refine gx_aload_n X dL_law_519 rfl 3 rfl ?_
  refine gx_iload_n X dL_law_520 rfl 0 rfl ?_
  refine gx_iconst (z := 1) X dL_law_521 rfl ?_
  refine gx_iadd X dL_law_522 ?_
  refine gx_sld X hX hbl hbA ⟨by omega, by omega, by omega⟩ e1 dL_law_523 ?_
  refine gx_aload_n X dL_law_524 rfl 3 rfl ?_
  refine gx_iload_n X dL_law_525 rfl 0 rfl ?_
  refine gx_iconst (z := 2) X dL_law_526 rfl ?_
  refine gx_iadd X dL_law_527 ?_
  refine gx_sld X hX hbl hbA ⟨by omega, by omega, by omega⟩ e2 dL_law_528 ?_
  refine gx_callVI (As := [.int (iI a1), .int (iI a2)]) (rest := [.int (iI (T_turn T a1 a2))]) X (hD _ _) lk_L_61 (ci := 3) rfl rfl 0 rfl (c_M_turn q S a1 a2 h.iw ha1 ha2) (jn_r (hD _ _)) rfl ⟨by decide, by decide⟩ (Nat.le_of_ble_eq_true rfl) dL_law_529 ?_
  exact gx_same (tgt := 1204) X dL_law_532 (by decide) (s_turn h a1 a2) (next _ _ (h.mono (by omega) hN))
set_option maxRecDepth 100000 in
theorem law_11 {l : Launch} {K : KK} {x : Cx} {b L : Nat} {xs : Nat → Int32} {u r q : Nat → Nat} {ca : Nat → Nat → Nat} {N i : Int} {T : TS} {S : Sta} (Z : LwX l K x b L xs u r ca q) (h : Rel N T S) (hN : N + 1 ≤ 1000) (hi : 0 ≤ i ∧ i + 5 ≤ (L : Int) ∧ (L : Int) ≤ 2560) (next : ∀ (T' : TS) (S' : Sta), Rel (N + 1) T' S' → GG l room_1 K x (wT K u r ca T' ++ wM K q S') 1204 [(3, .int (iI i)), (2, .ref (q 0)), (1, .ref (u 0)), (0, .ref b)] []) : GG l room_1 K x (wT K u r ca T ++ wM K q S) 537 [(3, .int (iI i)), (2, .ref (q 0)), (1, .ref (u 0)), (0, .ref b)] [] := by
  obtain ⟨X, hX, hbl, hbA, hD⟩ := Z
  obtain ⟨a1, ha1, e1⟩ : ∃ a : Int, ok32 a ∧ xs (i + 1).toNat = iI a := ⟨_, ok_toInt _, iI_of _⟩
  obtain ⟨a2, ha2, e2⟩ : ∃ a : Int, ok32 a ∧ xs (i + 2).toNat = iI a := ⟨_, ok_toInt _, iI_of _⟩
  obtain ⟨a3, ha3, e3⟩ : ∃ a : Int, ok32 a ∧ xs (i + 3).toNat = iI a := ⟨_, ok_toInt _, iI_of _⟩
  obtain ⟨a4, ha4, e4⟩ : ∃ a : Int, ok32 a ∧ xs (i + 4).toNat = iI a := ⟨_, ok_toInt _, iI_of _⟩
  refine gx_aload_n X dL_law_537 rfl 2 rfl ?_
  refine gx_aload_n X dL_law_538 rfl 3 rfl ?_
  refine gx_iload_n X dL_law_539 rfl 0 rfl ?_
  refine gx_iconst (z := 1) X dL_law_540 rfl ?_
  refine gx_iadd X dL_law_541 ?_
  refine gx_sld X hX hbl hbA ⟨by omega, by omega, by omega⟩ e1 dL_law_542 ?_
  refine gx_aload_n X dL_law_543 rfl 3 rfl ?_
  refine gx_iload_n X dL_law_544 rfl 0 rfl ?_
  refine gx_iconst (z := 2) X dL_law_545 rfl ?_
  refine gx_iadd X dL_law_546 ?_
  refine gx_sld X hX hbl hbA ⟨by omega, by omega, by omega⟩ e2 dL_law_547 ?_
  refine gx_aload_n X dL_law_548 rfl 3 rfl ?_
  refine gx_iload_n X dL_law_549 rfl 0 rfl ?_
  refine gx_iconst (z := 3) X dL_law_550 rfl ?_
  refine gx_iadd X dL_law_551 ?_
  refine gx_sld X hX hbl hbA ⟨by omega, by omega, by omega⟩ e3 dL_law_552 ?_
  refine gx_if_eq (tgt := 560) X dL_law_553 (by decide) ha3 (fun hza3 => ?_) (fun hza3 => ?_)
  · refine gx_iconst (z := 0) X dL_law_560 rfl ?_
    refine gx_callVI (As := [.int (iI a1), .int (iI a2), .int (iI 0)]) (rest := []) X (hD _ _) lk_L_62 (ci := 2) rfl rfl 0 rfl (c_T_shows u r ca T a1 a2 0 h.it ha1 ha2 (by decide)) (jn_l (hD _ _)) rfl ⟨by decide, by decide⟩ (Nat.le_of_ble_eq_true rfl) dL_law_561 ?_
    refine gx_aload_n X dL_law_564 rfl 1 rfl ?_
    refine gx_aload_n X dL_law_565 rfl 3 rfl ?_
    refine gx_iload_n X dL_law_566 rfl 0 rfl ?_
    refine gx_iconst (z := 1) X dL_law_567 rfl ?_
    refine gx_iadd X dL_law_568 ?_
    refine gx_sld X hX hbl hbA ⟨by omega, by omega, by omega⟩ e1 dL_law_569 ?_
    refine gx_aload_n X dL_law_570 rfl 3 rfl ?_
    refine gx_iload_n X dL_law_571 rfl 0 rfl ?_
    refine gx_iconst (z := 2) X dL_law_572 rfl ?_
    refine gx_iadd X dL_law_573 ?_
    refine gx_sld X hX hbl hbA ⟨by omega, by omega, by omega⟩ e2 dL_law_574 ?_
    refine gx_aload_n X dL_law_575 rfl 3 rfl ?_
    refine gx_iload_n X dL_law_576 rfl 0 rfl ?_
    refine gx_iconst (z := 3) X dL_law_577 rfl ?_
    refine gx_iadd X dL_law_578 ?_
    refine gx_sld X hX hbl hbA ⟨by omega, by omega, by omega⟩ e3 dL_law_579 ?_
    refine gx_if_eq (tgt := 587) X dL_law_580 (by decide) ha3 (fun _ => ?_) (fun hx9 => absurd hza3 hx9)
    refine gx_iconst (z := 0) X dL_law_587 rfl ?_
    refine gx_callVI (As := [.int (iI a1), .int (iI a2), .int (iI 0)]) (rest := [.int (iI (T_shows T a1 a2 0))]) X (hD _ _) lk_L_66 (ci := 3) rfl rfl 0 rfl (c_M_shows q S a1 a2 0 h.iw ha1 ha2 (by decide)) (jn_r (hD _ _)) rfl ⟨by decide, by decide⟩ (Nat.le_of_ble_eq_true rfl) dL_law_588 ?_
    exact gx_same (tgt := 1204) X dL_law_591 (by decide) (s_shows h a1 a2 0) (next _ _ (h.mono (by omega) hN))
  · refine gx_iconst (z := 1) X dL_law_556 rfl ?_
    refine gx_goto (tgt := 561) X dL_law_557 (by decide) ?_
    refine gx_callVI (As := [.int (iI a1), .int (iI a2), .int (iI 1)]) (rest := []) X (hD _ _) lk_L_62 (ci := 2) rfl rfl 0 rfl (c_T_shows u r ca T a1 a2 1 h.it ha1 ha2 (by decide)) (jn_l (hD _ _)) rfl ⟨by decide, by decide⟩ (Nat.le_of_ble_eq_true rfl) dL_law_561 ?_
    refine gx_aload_n X dL_law_564 rfl 1 rfl ?_
    refine gx_aload_n X dL_law_565 rfl 3 rfl ?_
    refine gx_iload_n X dL_law_566 rfl 0 rfl ?_
    refine gx_iconst (z := 1) X dL_law_567 rfl ?_
    refine gx_iadd X dL_law_568 ?_
    refine gx_sld X hX hbl hbA ⟨by omega, by omega, by omega⟩ e1 dL_law_569 ?_
    refine gx_aload_n X dL_law_570 rfl 3 rfl ?_
    refine gx_iload_n X dL_law_571 rfl 0 rfl ?_
    refine gx_iconst (z := 2) X dL_law_572 rfl ?_
    refine gx_iadd X dL_law_573 ?_
    refine gx_sld X hX hbl hbA ⟨by omega, by omega, by omega⟩ e2 dL_law_574 ?_
    refine gx_aload_n X dL_law_575 rfl 3 rfl ?_
    refine gx_iload_n X dL_law_576 rfl 0 rfl ?_
    refine gx_iconst (z := 3) X dL_law_577 rfl ?_
    refine gx_iadd X dL_law_578 ?_
    refine gx_sld X hX hbl hbA ⟨by omega, by omega, by omega⟩ e3 dL_law_579 ?_
    refine gx_if_eq (tgt := 587) X dL_law_580 (by decide) ha3 (fun hx9 => absurd hx9 hza3) (fun _ => ?_)
    refine gx_iconst (z := 1) X dL_law_583 rfl ?_
    refine gx_goto (tgt := 588) X dL_law_584 (by decide) ?_
    refine gx_callVI (As := [.int (iI a1), .int (iI a2), .int (iI 1)]) (rest := [.int (iI (T_shows T a1 a2 1))]) X (hD _ _) lk_L_66 (ci := 3) rfl rfl 0 rfl (c_M_shows q S a1 a2 1 h.iw ha1 ha2 (by decide)) (jn_r (hD _ _)) rfl ⟨by decide, by decide⟩ (Nat.le_of_ble_eq_true rfl) dL_law_588 ?_
    exact gx_same (tgt := 1204) X dL_law_591 (by decide) (s_shows h a1 a2 1) (next _ _ (h.mono (by omega) hN))
set_option maxRecDepth 100000 in
theorem law_12 {l : Launch} {K : KK} {x : Cx} {b L : Nat} {xs : Nat → Int32} {u r q : Nat → Nat} {ca : Nat → Nat → Nat} {N i : Int} {T : TS} {S : Sta} (Z : LwX l K x b L xs u r ca q) (h : Rel N T S) (hN : N + 1 ≤ 1000) (hi : 0 ≤ i ∧ i + 5 ≤ (L : Int) ∧ (L : Int) ≤ 2560) (next : ∀ (T' : TS) (S' : Sta), Rel (N + 1) T' S' → GG l room_1 K x (wT K u r ca T' ++ wM K q S') 1204 [(3, .int (iI i)), (2, .ref (q 0)), (1, .ref (u 0)), (0, .ref b)] []) : GG l room_1 K x (wT K u r ca T ++ wM K q S) 596 [(3, .int (iI i)), (2, .ref (q 0)), (1, .ref (u 0)), (0, .ref b)] [] := by
  obtain ⟨X, hX, hbl, hbA, hD⟩ := Z
  obtain ⟨a1, ha1, e1⟩ : ∃ a : Int, ok32 a ∧ xs (i + 1).toNat = iI a := ⟨_, ok_toInt _, iI_of _⟩
  obtain ⟨a2, ha2, e2⟩ : ∃ a : Int, ok32 a ∧ xs (i + 2).toNat = iI a := ⟨_, ok_toInt _, iI_of _⟩
  obtain ⟨a3, ha3, e3⟩ : ∃ a : Int, ok32 a ∧ xs (i + 3).toNat = iI a := ⟨_, ok_toInt _, iI_of _⟩
  obtain ⟨a4, ha4, e4⟩ : ∃ a : Int, ok32 a ∧ xs (i + 4).toNat = iI a := ⟨_, ok_toInt _, iI_of _⟩
  refine gx_aload_n X dL_law_596 rfl 2 rfl ?_
  refine gx_aload_n X dL_law_597 rfl 3 rfl ?_
  refine gx_iload_n X dL_law_598 rfl 0 rfl ?_
  refine gx_iconst (z := 1) X dL_law_599 rfl ?_
  refine gx_iadd X dL_law_600 ?_
  refine gx_sld X hX hbl hbA ⟨by omega, by omega, by omega⟩ e1 dL_law_601 ?_
  refine gx_aload_n X dL_law_602 rfl 3 rfl ?_
  refine gx_iload_n X dL_law_603 rfl 0 rfl ?_
  refine gx_iconst (z := 2) X dL_law_604 rfl ?_
  refine gx_iadd X dL_law_605 ?_
  refine gx_sld X hX hbl hbA ⟨by omega, by omega, by omega⟩ e2 dL_law_606 ?_
  refine gx_aload_n X dL_law_607 rfl 3 rfl ?_
  refine gx_iload_n X dL_law_608 rfl 0 rfl ?_
  refine gx_iconst (z := 3) X dL_law_609 rfl ?_
  refine gx_iadd X dL_law_610 ?_
  refine gx_sld X hX hbl hbA ⟨by omega, by omega, by omega⟩ e3 dL_law_611 ?_
  refine gx_if_eq (tgt := 619) X dL_law_612 (by decide) ha3 (fun hza3 => ?_) (fun hza3 => ?_)
  · refine gx_iconst (z := 0) X dL_law_619 rfl ?_
    refine gx_callVI (As := [.int (iI a1), .int (iI a2), .int (iI 0)]) (rest := []) X (hD _ _) lk_L_67 (ci := 2) rfl rfl 0 rfl (c_T_shown u r ca T a1 a2 0 h.it ha1 ha2 (by decide)) (jn_l (hD _ _)) rfl ⟨by decide, by decide⟩ (Nat.le_of_ble_eq_true rfl) dL_law_620 ?_
    refine gx_aload_n X dL_law_623 rfl 1 rfl ?_
    refine gx_aload_n X dL_law_624 rfl 3 rfl ?_
    refine gx_iload_n X dL_law_625 rfl 0 rfl ?_
    refine gx_iconst (z := 1) X dL_law_626 rfl ?_
    refine gx_iadd X dL_law_627 ?_
    refine gx_sld X hX hbl hbA ⟨by omega, by omega, by omega⟩ e1 dL_law_628 ?_
    refine gx_aload_n X dL_law_629 rfl 3 rfl ?_
    refine gx_iload_n X dL_law_630 rfl 0 rfl ?_
    refine gx_iconst (z := 2) X dL_law_631 rfl ?_
    refine gx_iadd X dL_law_632 ?_
    refine gx_sld X hX hbl hbA ⟨by omega, by omega, by omega⟩ e2 dL_law_633 ?_
    refine gx_aload_n X dL_law_634 rfl 3 rfl ?_
    refine gx_iload_n X dL_law_635 rfl 0 rfl ?_
    refine gx_iconst (z := 3) X dL_law_636 rfl ?_
    refine gx_iadd X dL_law_637 ?_
    refine gx_sld X hX hbl hbA ⟨by omega, by omega, by omega⟩ e3 dL_law_638 ?_
    refine gx_if_eq (tgt := 646) X dL_law_639 (by decide) ha3 (fun _ => ?_) (fun hx9 => absurd hza3 hx9)
    refine gx_iconst (z := 0) X dL_law_646 rfl ?_
    refine gx_callVI (As := [.int (iI a1), .int (iI a2), .int (iI 0)]) (rest := [.int (iI (T_shown T a1 a2 0))]) X (hD _ _) lk_L_70 (ci := 3) rfl rfl 0 rfl (c_M_shown q S a1 a2 0 h.iw ha1 ha2 (by decide)) (jn_r (hD _ _)) rfl ⟨by decide, by decide⟩ (Nat.le_of_ble_eq_true rfl) dL_law_647 ?_
    exact gx_same (tgt := 1204) X dL_law_650 (by decide) (s_shown h a1 a2 0) (next _ _ (h.mono (by omega) hN))
  · refine gx_iconst (z := 1) X dL_law_615 rfl ?_
    refine gx_goto (tgt := 620) X dL_law_616 (by decide) ?_
    refine gx_callVI (As := [.int (iI a1), .int (iI a2), .int (iI 1)]) (rest := []) X (hD _ _) lk_L_67 (ci := 2) rfl rfl 0 rfl (c_T_shown u r ca T a1 a2 1 h.it ha1 ha2 (by decide)) (jn_l (hD _ _)) rfl ⟨by decide, by decide⟩ (Nat.le_of_ble_eq_true rfl) dL_law_620 ?_
    refine gx_aload_n X dL_law_623 rfl 1 rfl ?_
    refine gx_aload_n X dL_law_624 rfl 3 rfl ?_
    refine gx_iload_n X dL_law_625 rfl 0 rfl ?_
    refine gx_iconst (z := 1) X dL_law_626 rfl ?_
    refine gx_iadd X dL_law_627 ?_
    refine gx_sld X hX hbl hbA ⟨by omega, by omega, by omega⟩ e1 dL_law_628 ?_
    refine gx_aload_n X dL_law_629 rfl 3 rfl ?_
    refine gx_iload_n X dL_law_630 rfl 0 rfl ?_
    refine gx_iconst (z := 2) X dL_law_631 rfl ?_
    refine gx_iadd X dL_law_632 ?_
    refine gx_sld X hX hbl hbA ⟨by omega, by omega, by omega⟩ e2 dL_law_633 ?_
    refine gx_aload_n X dL_law_634 rfl 3 rfl ?_
    refine gx_iload_n X dL_law_635 rfl 0 rfl ?_
    refine gx_iconst (z := 3) X dL_law_636 rfl ?_
    refine gx_iadd X dL_law_637 ?_
    refine gx_sld X hX hbl hbA ⟨by omega, by omega, by omega⟩ e3 dL_law_638 ?_
    refine gx_if_eq (tgt := 646) X dL_law_639 (by decide) ha3 (fun hx9 => absurd hx9 hza3) (fun _ => ?_)
    refine gx_iconst (z := 1) X dL_law_642 rfl ?_
    refine gx_goto (tgt := 647) X dL_law_643 (by decide) ?_
    refine gx_callVI (As := [.int (iI a1), .int (iI a2), .int (iI 1)]) (rest := [.int (iI (T_shown T a1 a2 1))]) X (hD _ _) lk_L_70 (ci := 3) rfl rfl 0 rfl (c_M_shown q S a1 a2 1 h.iw ha1 ha2 (by decide)) (jn_r (hD _ _)) rfl ⟨by decide, by decide⟩ (Nat.le_of_ble_eq_true rfl) dL_law_647 ?_
    exact gx_same (tgt := 1204) X dL_law_650 (by decide) (s_shown h a1 a2 1) (next _ _ (h.mono (by omega) hN))
set_option maxRecDepth 100000 in
theorem law_13 {l : Launch} {K : KK} {x : Cx} {b L : Nat} {xs : Nat → Int32} {u r q : Nat → Nat} {ca : Nat → Nat → Nat} {N i : Int} {T : TS} {S : Sta} (Z : LwX l K x b L xs u r ca q) (h : Rel N T S) (hN : N + 1 ≤ 1000) (hi : 0 ≤ i ∧ i + 5 ≤ (L : Int) ∧ (L : Int) ≤ 2560) (next : ∀ (T' : TS) (S' : Sta), Rel (N + 1) T' S' → GG l room_1 K x (wT K u r ca T' ++ wM K q S') 1204 [(3, .int (iI i)), (2, .ref (q 0)), (1, .ref (u 0)), (0, .ref b)] []) : GG l room_1 K x (wT K u r ca T ++ wM K q S) 655 [(3, .int (iI i)), (2, .ref (q 0)), (1, .ref (u 0)), (0, .ref b)] [] := by
  obtain ⟨X, hX, hbl, hbA, hD⟩ := Z
  obtain ⟨a1, ha1, e1⟩ : ∃ a : Int, ok32 a ∧ xs (i + 1).toNat = iI a := ⟨_, ok_toInt _, iI_of _⟩
  obtain ⟨a2, ha2, e2⟩ : ∃ a : Int, ok32 a ∧ xs (i + 2).toNat = iI a := ⟨_, ok_toInt _, iI_of _⟩
  obtain ⟨a3, ha3, e3⟩ : ∃ a : Int, ok32 a ∧ xs (i + 3).toNat = iI a := ⟨_, ok_toInt _, iI_of _⟩
  obtain ⟨a4, ha4, e4⟩ : ∃ a : Int, ok32 a ∧ xs (i + 4).toNat = iI a := ⟨_, ok_toInt _, iI_of _⟩
  refine gx_aload_n X dL_law_655 rfl 2 rfl ?_
  refine gx_aload_n X dL_law_656 rfl 3 rfl ?_
  refine gx_iload_n X dL_law_657 rfl 0 rfl ?_
  refine gx_iconst (z := 1) X dL_law_658 rfl ?_
  refine gx_iadd X dL_law_659 ?_
  refine gx_sld X hX hbl hbA ⟨by omega, by omega, by omega⟩ e1 dL_law_660 ?_
  refine gx_aload_n X dL_law_661 rfl 3 rfl ?_
  refine gx_iload_n X dL_law_662 rfl 0 rfl ?_
  refine gx_iconst (z := 2) X dL_law_663 rfl ?_
  refine gx_iadd X dL_law_664 ?_
  refine gx_sld X hX hbl hbA ⟨by omega, by omega, by omega⟩ e2 dL_law_665 ?_
  refine gx_callVI (As := [.int (iI a1), .int (iI a2)]) (rest := []) X (hD _ _) lk_L_71 (ci := 2) rfl rfl 0 rfl (c_T_slant u r ca T a1 a2 h.it ha1 ha2) (jn_l (hD _ _)) rfl ⟨by decide, by decide⟩ (Nat.le_of_ble_eq_true rfl) dL_law_666 ?_
  refine gx_aload_n X dL_law_669 rfl 1 rfl ?_
  refine gx_aload_n X dL_law_670 rfl 3 rfl ?_
  refine gx_iload_n X dL_law_671 rfl 0 rfl ?_
  refine gx_iconst (z := 1) X dL_law_672 rfl ?_
  refine gx_iadd X dL_law_673 ?_
  refine gx_sld X hX hbl hbA ⟨by omega, by omega, by omega⟩ e1 dL_law_674 ?_
  refine gx_aload_n X dL_law_675 rfl 3 rfl ?_
  refine gx_iload_n X dL_law_676 rfl 0 rfl ?_
  refine gx_iconst (z := 2) X dL_law_677 rfl ?_
  refine gx_iadd X dL_law_678 ?_
  refine gx_sld X hX hbl hbA ⟨by omega, by omega, by omega⟩ e2 dL_law_679 ?_
  refine gx_callVI (As := [.int (iI a1), .int (iI a2)]) (rest := [.int (iI (T_slant T a1 a2))]) X (hD _ _) lk_L_74 (ci := 3) rfl rfl 0 rfl (c_M_slant q S a1 a2 h.iw ha1 ha2) (jn_r (hD _ _)) rfl ⟨by decide, by decide⟩ (Nat.le_of_ble_eq_true rfl) dL_law_680 ?_
  exact gx_same (tgt := 1204) X dL_law_683 (by decide) (s_slant h a1 a2) (next _ _ (h.mono (by omega) hN))
set_option maxRecDepth 100000 in
theorem law_14 {l : Launch} {K : KK} {x : Cx} {b L : Nat} {xs : Nat → Int32} {u r q : Nat → Nat} {ca : Nat → Nat → Nat} {N i : Int} {T : TS} {S : Sta} (Z : LwX l K x b L xs u r ca q) (h : Rel N T S) (hN : N + 1 ≤ 1000) (hi : 0 ≤ i ∧ i + 5 ≤ (L : Int) ∧ (L : Int) ≤ 2560) (next : ∀ (T' : TS) (S' : Sta), Rel (N + 1) T' S' → GG l room_1 K x (wT K u r ca T' ++ wM K q S') 1204 [(3, .int (iI i)), (2, .ref (q 0)), (1, .ref (u 0)), (0, .ref b)] []) : GG l room_1 K x (wT K u r ca T ++ wM K q S) 688 [(3, .int (iI i)), (2, .ref (q 0)), (1, .ref (u 0)), (0, .ref b)] [] := by
  obtain ⟨X, hX, hbl, hbA, hD⟩ := Z
  obtain ⟨a1, ha1, e1⟩ : ∃ a : Int, ok32 a ∧ xs (i + 1).toNat = iI a := ⟨_, ok_toInt _, iI_of _⟩
  obtain ⟨a2, ha2, e2⟩ : ∃ a : Int, ok32 a ∧ xs (i + 2).toNat = iI a := ⟨_, ok_toInt _, iI_of _⟩
  obtain ⟨a3, ha3, e3⟩ : ∃ a : Int, ok32 a ∧ xs (i + 3).toNat = iI a := ⟨_, ok_toInt _, iI_of _⟩
  obtain ⟨a4, ha4, e4⟩ : ∃ a : Int, ok32 a ∧ xs (i + 4).toNat = iI a := ⟨_, ok_toInt _, iI_of _⟩
  refine gx_aload_n X dL_law_688 rfl 2 rfl ?_
  refine gx_aload_n X dL_law_689 rfl 3 rfl ?_
  refine gx_iload_n X dL_law_690 rfl 0 rfl ?_
  refine gx_iconst (z := 1) X dL_law_691 rfl ?_
  refine gx_iadd X dL_law_692 ?_
  refine gx_sld X hX hbl hbA ⟨by omega, by omega, by omega⟩ e1 dL_law_693 ?_
  refine gx_callVI (As := [.int (iI a1)]) (rest := []) X (hD _ _) lk_L_75 (ci := 2) rfl rfl 0 rfl (c_T_longest u r ca T a1 h.it ha1) (jn_l (hD _ _)) rfl ⟨by decide, by decide⟩ (Nat.le_of_ble_eq_true rfl) dL_law_694 ?_
  refine gx_aload_n X dL_law_697 rfl 1 rfl ?_
  refine gx_aload_n X dL_law_698 rfl 3 rfl ?_
  refine gx_iload_n X dL_law_699 rfl 0 rfl ?_
  refine gx_iconst (z := 1) X dL_law_700 rfl ?_
  refine gx_iadd X dL_law_701 ?_
  refine gx_sld X hX hbl hbA ⟨by omega, by omega, by omega⟩ e1 dL_law_702 ?_
  refine gx_callVI (As := [.int (iI a1)]) (rest := [.int (iI (T_longest T a1))]) X (hD _ _) lk_L_78 (ci := 3) rfl rfl 0 rfl (c_M_longest q S a1 h.iw ha1) (jn_r (hD _ _)) rfl ⟨by decide, by decide⟩ (Nat.le_of_ble_eq_true rfl) dL_law_703 ?_
  exact gx_same (tgt := 1204) X dL_law_706 (by decide) (s_longest h a1) (next _ _ (h.mono (by omega) hN))
set_option maxRecDepth 100000 in
theorem law_15 {l : Launch} {K : KK} {x : Cx} {b L : Nat} {xs : Nat → Int32} {u r q : Nat → Nat} {ca : Nat → Nat → Nat} {N i : Int} {T : TS} {S : Sta} (Z : LwX l K x b L xs u r ca q) (h : Rel N T S) (hN : N + 1 ≤ 1000) (hi : 0 ≤ i ∧ i + 5 ≤ (L : Int) ∧ (L : Int) ≤ 2560) (next : ∀ (T' : TS) (S' : Sta), Rel (N + 1) T' S' → GG l room_1 K x (wT K u r ca T' ++ wM K q S') 1204 [(3, .int (iI i)), (2, .ref (q 0)), (1, .ref (u 0)), (0, .ref b)] []) : GG l room_1 K x (wT K u r ca T ++ wM K q S) 711 [(3, .int (iI i)), (2, .ref (q 0)), (1, .ref (u 0)), (0, .ref b)] [] := by
  obtain ⟨X, hX, hbl, hbA, hD⟩ := Z
  obtain ⟨a1, ha1, e1⟩ : ∃ a : Int, ok32 a ∧ xs (i + 1).toNat = iI a := ⟨_, ok_toInt _, iI_of _⟩
  obtain ⟨a2, ha2, e2⟩ : ∃ a : Int, ok32 a ∧ xs (i + 2).toNat = iI a := ⟨_, ok_toInt _, iI_of _⟩
  obtain ⟨a3, ha3, e3⟩ : ∃ a : Int, ok32 a ∧ xs (i + 3).toNat = iI a := ⟨_, ok_toInt _, iI_of _⟩
  obtain ⟨a4, ha4, e4⟩ : ∃ a : Int, ok32 a ∧ xs (i + 4).toNat = iI a := ⟨_, ok_toInt _, iI_of _⟩
  refine gx_aload_n X dL_law_711 rfl 2 rfl ?_
  refine gx_aload_n X dL_law_712 rfl 3 rfl ?_
  refine gx_iload_n X dL_law_713 rfl 0 rfl ?_
  refine gx_iconst (z := 1) X dL_law_714 rfl ?_
  refine gx_iadd X dL_law_715 ?_
  refine gx_sld X hX hbl hbA ⟨by omega, by omega, by omega⟩ e1 dL_law_716 ?_
  refine gx_aload_n X dL_law_717 rfl 3 rfl ?_
  refine gx_iload_n X dL_law_718 rfl 0 rfl ?_
  refine gx_iconst (z := 2) X dL_law_719 rfl ?_
  refine gx_iadd X dL_law_720 ?_
  refine gx_sld X hX hbl hbA ⟨by omega, by omega, by omega⟩ e2 dL_law_721 ?_
  refine gx_callVI (As := [.int (iI a1), .int (iI a2)]) (rest := []) X (hD _ _) lk_L_79 (ci := 2) rfl rfl 0 rfl (c_T_many u r ca T a1 a2 h.it ha1 ha2) (jn_l (hD _ _)) rfl ⟨by decide, by decide⟩ (Nat.le_of_ble_eq_true rfl) dL_law_722 ?_
  refine gx_aload_n X dL_law_725 rfl 1 rfl ?_
  refine gx_aload_n X dL_law_726 rfl 3 rfl ?_
  refine gx_iload_n X dL_law_727 rfl 0 rfl ?_
  refine gx_iconst (z := 1) X dL_law_728 rfl ?_
  refine gx_iadd X dL_law_729 ?_
  refine gx_sld X hX hbl hbA ⟨by omega, by omega, by omega⟩ e1 dL_law_730 ?_
  refine gx_aload_n X dL_law_731 rfl 3 rfl ?_
  refine gx_iload_n X dL_law_732 rfl 0 rfl ?_
  refine gx_iconst (z := 2) X dL_law_733 rfl ?_
  refine gx_iadd X dL_law_734 ?_
  refine gx_sld X hX hbl hbA ⟨by omega, by omega, by omega⟩ e2 dL_law_735 ?_
  refine gx_callVI (As := [.int (iI a1), .int (iI a2)]) (rest := [.int (iI (T_many T a1 a2))]) X (hD _ _) lk_L_82 (ci := 3) rfl rfl 0 rfl (c_M_many q S a1 a2 h.iw ha1 ha2) (jn_r (hD _ _)) rfl ⟨by decide, by decide⟩ (Nat.le_of_ble_eq_true rfl) dL_law_736 ?_
  exact gx_same (tgt := 1204) X dL_law_739 (by decide) (s_many h a1 a2) (next _ _ (h.mono (by omega) hN))
set_option maxRecDepth 100000 in
theorem law_16 {l : Launch} {K : KK} {x : Cx} {b L : Nat} {xs : Nat → Int32} {u r q : Nat → Nat} {ca : Nat → Nat → Nat} {N i : Int} {T : TS} {S : Sta} (Z : LwX l K x b L xs u r ca q) (h : Rel N T S) (hN : N + 1 ≤ 1000) (hi : 0 ≤ i ∧ i + 5 ≤ (L : Int) ∧ (L : Int) ≤ 2560) (next : ∀ (T' : TS) (S' : Sta), Rel (N + 1) T' S' → GG l room_1 K x (wT K u r ca T' ++ wM K q S') 1204 [(3, .int (iI i)), (2, .ref (q 0)), (1, .ref (u 0)), (0, .ref b)] []) : GG l room_1 K x (wT K u r ca T ++ wM K q S) 744 [(3, .int (iI i)), (2, .ref (q 0)), (1, .ref (u 0)), (0, .ref b)] [] := by
  obtain ⟨X, hX, hbl, hbA, hD⟩ := Z
  obtain ⟨a1, ha1, e1⟩ : ∃ a : Int, ok32 a ∧ xs (i + 1).toNat = iI a := ⟨_, ok_toInt _, iI_of _⟩
  obtain ⟨a2, ha2, e2⟩ : ∃ a : Int, ok32 a ∧ xs (i + 2).toNat = iI a := ⟨_, ok_toInt _, iI_of _⟩
  obtain ⟨a3, ha3, e3⟩ : ∃ a : Int, ok32 a ∧ xs (i + 3).toNat = iI a := ⟨_, ok_toInt _, iI_of _⟩
  obtain ⟨a4, ha4, e4⟩ : ∃ a : Int, ok32 a ∧ xs (i + 4).toNat = iI a := ⟨_, ok_toInt _, iI_of _⟩
  refine gx_aload_n X dL_law_744 rfl 2 rfl ?_
  refine gx_callVI (As := []) (rest := []) X (hD _ _) lk_L_83 (ci := 2) rfl rfl 0 rfl (c_T_repeat u r ca T  h.it) (jn_l (hD _ _)) rfl ⟨by decide, by decide⟩ (Nat.le_of_ble_eq_true rfl) dL_law_745 ?_
  refine gx_aload_n X dL_law_748 rfl 1 rfl ?_
  refine gx_callVI (As := []) (rest := [.int (iI (T_repeat T))]) X (hD _ _) lk_L_86 (ci := 3) rfl rfl 0 rfl (c_M_repeat q S  h.iw) (jn_r (hD _ _)) rfl ⟨by decide, by decide⟩ (Nat.le_of_ble_eq_true rfl) dL_law_749 ?_
  exact gx_same (tgt := 1204) X dL_law_752 (by decide) (s_repeat h) (next _ _ (h.mono (by omega) hN))
set_option maxRecDepth 100000 in
theorem law_17 {l : Launch} {K : KK} {x : Cx} {b L : Nat} {xs : Nat → Int32} {u r q : Nat → Nat} {ca : Nat → Nat → Nat} {N i : Int} {T : TS} {S : Sta} (Z : LwX l K x b L xs u r ca q) (h : Rel N T S) (hN : N + 1 ≤ 1000) (hi : 0 ≤ i ∧ i + 5 ≤ (L : Int) ∧ (L : Int) ≤ 2560) (next : ∀ (T' : TS) (S' : Sta), Rel (N + 1) T' S' → GG l room_1 K x (wT K u r ca T' ++ wM K q S') 1204 [(3, .int (iI i)), (2, .ref (q 0)), (1, .ref (u 0)), (0, .ref b)] []) : GG l room_1 K x (wT K u r ca T ++ wM K q S) 757 [(3, .int (iI i)), (2, .ref (q 0)), (1, .ref (u 0)), (0, .ref b)] [] := by
  obtain ⟨X, hX, hbl, hbA, hD⟩ := Z
  obtain ⟨a1, ha1, e1⟩ : ∃ a : Int, ok32 a ∧ xs (i + 1).toNat = iI a := ⟨_, ok_toInt _, iI_of _⟩
  obtain ⟨a2, ha2, e2⟩ : ∃ a : Int, ok32 a ∧ xs (i + 2).toNat = iI a := ⟨_, ok_toInt _, iI_of _⟩
  obtain ⟨a3, ha3, e3⟩ : ∃ a : Int, ok32 a ∧ xs (i + 3).toNat = iI a := ⟨_, ok_toInt _, iI_of _⟩
  obtain ⟨a4, ha4, e4⟩ : ∃ a : Int, ok32 a ∧ xs (i + 4).toNat = iI a := ⟨_, ok_toInt _, iI_of _⟩
  refine gx_aload_n X dL_law_757 rfl 2 rfl ?_
  refine gx_aload_n X dL_law_758 rfl 3 rfl ?_
  refine gx_iload_n X dL_law_759 rfl 0 rfl ?_
  refine gx_iconst (z := 1) X dL_law_760 rfl ?_
  refine gx_iadd X dL_law_761 ?_
  refine gx_sld X hX hbl hbA ⟨by omega, by omega, by omega⟩ e1 dL_law_762 ?_
  refine gx_callVI (As := [.int (iI a1)]) (rest := []) X (hD _ _) lk_L_87 (ci := 2) rfl rfl 0 rfl (c_T_is u r ca T a1 h.it ha1) (jn_l (hD _ _)) rfl ⟨by decide, by decide⟩ (Nat.le_of_ble_eq_true rfl) dL_law_763 ?_
  refine gx_aload_n X dL_law_766 rfl 1 rfl ?_
  refine gx_aload_n X dL_law_767 rfl 3 rfl ?_
  refine gx_iload_n X dL_law_768 rfl 0 rfl ?_
  refine gx_iconst (z := 1) X dL_law_769 rfl ?_
  refine gx_iadd X dL_law_770 ?_
  refine gx_sld X hX hbl hbA ⟨by omega, by omega, by omega⟩ e1 dL_law_771 ?_
  refine gx_callVI (As := [.int (iI a1)]) (rest := [.int (iI (T_is T a1))]) X (hD _ _) lk_L_90 (ci := 3) rfl rfl 0 rfl (c_M_is q S a1 h.iw ha1) (jn_r (hD _ _)) rfl ⟨by decide, by decide⟩ (Nat.le_of_ble_eq_true rfl) dL_law_772 ?_
  exact gx_same (tgt := 1204) X dL_law_775 (by decide) (s_is h a1) (next _ _ (h.mono (by omega) hN))
