abbrev PSt : Type := ((Nat → Int) × (Nat → Int64)) × ((Int → Int) × (Int → Int64))
abbrev PS : Type := PSt × Sta
def pI (S : PS) (j : Nat) (v : Int) : PS := (((fun i => if i = j then v else S.1.1.1 i, S.1.1.2), S.1.2), S.2)
def pL (S : PS) (j : Nat) (v : Int64) : PS := (((S.1.1.1, fun i => if i = j then v else S.1.1.2 i), S.1.2), S.2)
def pF (S : PS) (z v : Int) : PS := ((S.1.1, (iu S.1.2.1 z v, S.1.2.2)), S.2)
def pG (S : PS) (z : Int) (v : Int64) : PS := ((S.1.1, (S.1.2.1, iu S.1.2.2 z v)), S.2)
def cI (S : PS) (j : Nat) (v : Int) : PS := (S.1, mI S.2 j v)
def cA (S : PS) (k : Nat) (z v : Int) : PS := (S.1, mA S.2 k z v)
def wP (K : KK) (r : Nat → Nat) (S : PSt) : va_W := [(r 0, .inr (1, [.ref (r 1), .ref (r 2), .int (iI (S.1.1 0)), .long (S.1.2 0), .int (iI (S.1.1 1)), .int (iI (S.1.1 2)), .int (iI (S.1.1 3)), .long (S.1.2 1)])), (r 1, zA K 2480 S.2.1), (r 2, zL K 2480 S.2.2)]
def wPC (K : KK) (r q : Nat → Nat) (S : PS) : va_W := wP K r S.1 ++ wC K q S.2
def InvP (N : Int) (S : PS) : Prop := InvC N S.2 ∧ (0 ≤ S.1.1.1 0 ∧ S.1.1.1 0 ≤ 1000) ∧ (0 ≤ S.1.1.1 1 ∧ S.1.1.1 1 ≤ 3) ∧ (0 ≤ S.1.1.1 2 ∧ S.1.1.1 2 ≤ 1) ∧ (0 ≤ S.1.1.1 3 ∧ S.1.1.1 3 ≤ 9) ∧ ∀ z : Int, 0 ≤ S.1.2.1 z ∧ S.1.2.1 z ≤ 1000
def InvPT (S : PS) : Prop := InvCT S.2
theorem InvP_s0 {N : Int} {S : PS} (h : InvP N S) : 0 ≤ S.1.1.1 0 ∧ S.1.1.1 0 ≤ 1000 := h.2.1
theorem InvP_s1 {N : Int} {S : PS} (h : InvP N S) : 0 ≤ S.1.1.1 1 ∧ S.1.1.1 1 ≤ 3 := h.2.2.1
theorem InvP_s2 {N : Int} {S : PS} (h : InvP N S) : 0 ≤ S.1.1.1 2 ∧ S.1.1.1 2 ≤ 1 := h.2.2.2.1
theorem InvP_s3 {N : Int} {S : PS} (h : InvP N S) : 0 ≤ S.1.1.1 3 ∧ S.1.1.1 3 ≤ 9 := h.2.2.2.2.1
theorem InvP_f {N : Int} {S : PS} (h : InvP N S) (z : Int) : 0 ≤ S.1.2.1 z ∧ S.1.2.1 z ≤ 1000 := h.2.2.2.2.2 z
/-- a call takes the right side of a world along -/
theorem jn_r {A0 : Nat → Prop} {A B B' : va_W} (hD : va_D A0 (A ++ B)) : Jn (A ++ B) B B' (A ++ B') := by
  refine ⟨fun q h => List.mem_append_right _ h, fun q h => ?_, fun A' hA => ?_⟩
  · rcases List.mem_append.mp h with h1 | h1
    · right
      refine ⟨List.mem_append_left _ h1, fun h2 => ?_⟩
      obtain ⟨q2, h3, h4⟩ := List.mem_map.mp h2
      obtain ⟨i, hi⟩ := List.getElem?_of_mem h1
      obtain ⟨j, hj⟩ := List.getElem?_of_mem h3
      have il := (List.getElem?_eq_some_iff.mp hi).1
      have e := hD.1 i (A.length + j) q q2 (by rw [List.getElem?_append_left il]; exact hi) (by rw [List.getElem?_append_right (by omega), Nat.add_sub_cancel_left]; exact hj) h4.symm
      omega
    · exact Or.inl h1
  · refine ⟨fun i j p q hi hj e => ?_, fun _ _ _ => trivial⟩
    have k := hA.1 (A.length + i) (A.length + j) p q (by rw [List.getElem?_append_right (by omega), Nat.add_sub_cancel_left]; exact hi) (by rw [List.getElem?_append_right (by omega), Nat.add_sub_cancel_left]; exact hj) e
    omega
section WP
variable {l : Launch} {R : Room} {K : KK} {x : Cx} {cc : ByteArray} {nL : Nat} {pc : Nat} {lv : List (Nat × Value)} {st : List Value} {r q : Nat → Nat} {S : PS}
theorem gP_rF (X : OK l R K x cc nL RX1) (hdg : decode cc pc = .ok (.getfield 11, 3)) (kk : GG l R K x (wPC K r q S) (pc + 3) lv (.ref (r 1) :: st)) : GG l R K x (wPC K r q S) pc lv (.ref (r 0) :: st) :=
  gx_get X (ci := 1) (T := TX1) (N := 8) (C := RX1) i_P 0 rfl rfl 0 (by decide) t_P_11 rfl rfl hdg kk
theorem gP_lF (X : OK l R K x cc nL RX1) {z : Int} {v : Int} (hz : 0 ≤ z ∧ z < 2480) (hv : S.1.2.1 z = v) (hdg : decode cc pc = .ok (.iaload, 1)) (kk : GG l R K x (wPC K r q S) (pc + 1) lv (.int (iI v) :: st)) : GG l R K x (wPC K r q S) pc lv (.int (iI z) :: .ref (r 1) :: st) :=
  gx_iald X 1 rfl ⟨hz.1, by omega, by omega⟩ hv hdg kk
theorem gP_sF (X : OK l R K x cc nL RX1) (hD : va_D (cx_A x) (wPC K r q S)) {z : Int} {v : Int} (hz : 0 ≤ z ∧ z < 2480) (hdg : decode cc pc = .ok (.iastore, 1)) (kk : GG l R K x (wPC K r q (pF S z v)) (pc + 1) lv (st)) : GG l R K x (wPC K r q S) pc lv (.int (iI v) :: .int (iI z) :: .ref (r 1) :: st) :=
  gx_iast X hD 1 rfl ⟨hz.1, by omega, by omega⟩ rfl hdg kk
theorem gP_rG (X : OK l R K x cc nL RX1) (hdg : decode cc pc = .ok (.getfield 15, 3)) (kk : GG l R K x (wPC K r q S) (pc + 3) lv (.ref (r 2) :: st)) : GG l R K x (wPC K r q S) pc lv (.ref (r 0) :: st) :=
  gx_get X (ci := 1) (T := TX1) (N := 8) (C := RX1) i_P 0 rfl rfl 1 (by decide) t_P_15 rfl rfl hdg kk
theorem gP_lG (X : OK l R K x cc nL RX1) {z : Int} {v : Int64} (hz : 0 ≤ z ∧ z < 2480) (hv : S.1.2.2 z = v) (hdg : decode cc pc = .ok (.laload, 1)) (kk : GG l R K x (wPC K r q S) (pc + 1) lv (.long v :: st)) : GG l R K x (wPC K r q S) pc lv (.int (iI z) :: .ref (r 2) :: st) :=
  gx_lald X 2 rfl ⟨hz.1, by omega, by omega⟩ hv hdg kk
theorem gP_sG (X : OK l R K x cc nL RX1) (hD : va_D (cx_A x) (wPC K r q S)) {z : Int} {v : Int64} (hz : 0 ≤ z ∧ z < 2480) (hdg : decode cc pc = .ok (.lastore, 1)) (kk : GG l R K x (wPC K r q (pG S z v)) (pc + 1) lv (st)) : GG l R K x (wPC K r q S) pc lv (.long v :: .int (iI z) :: .ref (r 2) :: st) :=
  gx_last X hD 2 rfl ⟨hz.1, by omega, by omega⟩ rfl hdg kk
theorem gP_g0 (X : OK l R K x cc nL RX1) {v : Int} (hv : S.1.1.1 0 = v) (hdg : decode cc pc = .ok (.getfield 85, 3)) (kk : GG l R K x (wPC K r q S) (pc + 3) lv (.int (iI v) :: st)) : GG l R K x (wPC K r q S) pc lv (.ref (r 0) :: st) := by
  subst hv
  exact gx_get X (ci := 1) (T := TX1) (N := 8) (C := RX1) i_P 0 rfl rfl 2 (by decide) t_P_85 rfl rfl hdg kk
theorem gP_p0 (X : OK l R K x cc nL RX1) (hD : va_D (cx_A x) (wPC K r q S)) {v : Int} (hdg : decode cc pc = .ok (.putfield 85, 3)) (kk : GG l R K x (wPC K r q (pI S 0 v)) (pc + 3) lv (st)) : GG l R K x (wPC K r q S) pc lv (.int (iI v) :: .ref (r 0) :: st) :=
  gx_put X (ci := 1) (T := TX1) (N := 8) (C := RX1) (ty := .int) i_P tyX1 tyX1_ok nmX1 hD 0 rfl rfl 2 (by decide) t_P_85 rfl rfl (by decide) rfl rfl (Nat.le_of_ble_eq_true rfl) rfl hdg kk
theorem gP_G0 (X : OK l R K x cc nL RX1) {v : Int64} (hv : S.1.1.2 0 = v) (hdg : decode cc pc = .ok (.getfield 88, 3)) (kk : GG l R K x (wPC K r q S) (pc + 3) lv (.long v :: st)) : GG l R K x (wPC K r q S) pc lv (.ref (r 0) :: st) := by
  subst hv
  exact gx_get X (ci := 1) (T := TX1) (N := 8) (C := RX1) i_P 0 rfl rfl 3 (by decide) t_P_88 rfl rfl hdg kk
theorem gP_P0 (X : OK l R K x cc nL RX1) (hD : va_D (cx_A x) (wPC K r q S)) {v : Int64} (hdg : decode cc pc = .ok (.putfield 88, 3)) (kk : GG l R K x (wPC K r q (pL S 0 v)) (pc + 3) lv (st)) : GG l R K x (wPC K r q S) pc lv (.long v :: .ref (r 0) :: st) :=
  gx_put X (ci := 1) (T := TX1) (N := 8) (C := RX1) (ty := .long) i_P tyX1 tyX1_ok nmX1 hD 0 rfl rfl 3 (by decide) t_P_88 rfl rfl (by decide) rfl rfl (Nat.le_of_ble_eq_true rfl) rfl hdg kk
theorem gP_g1 (X : OK l R K x cc nL RX1) {v : Int} (hv : S.1.1.1 1 = v) (hdg : decode cc pc = .ok (.getfield 27, 3)) (kk : GG l R K x (wPC K r q S) (pc + 3) lv (.int (iI v) :: st)) : GG l R K x (wPC K r q S) pc lv (.ref (r 0) :: st) := by
  subst hv
  exact gx_get X (ci := 1) (T := TX1) (N := 8) (C := RX1) i_P 0 rfl rfl 4 (by decide) t_P_27 rfl rfl hdg kk
theorem gP_p1 (X : OK l R K x cc nL RX1) (hD : va_D (cx_A x) (wPC K r q S)) {v : Int} (hdg : decode cc pc = .ok (.putfield 27, 3)) (kk : GG l R K x (wPC K r q (pI S 1 v)) (pc + 3) lv (st)) : GG l R K x (wPC K r q S) pc lv (.int (iI v) :: .ref (r 0) :: st) :=
  gx_put X (ci := 1) (T := TX1) (N := 8) (C := RX1) (ty := .int) i_P tyX1 tyX1_ok nmX1 hD 0 rfl rfl 4 (by decide) t_P_27 rfl rfl (by decide) rfl rfl (Nat.le_of_ble_eq_true rfl) rfl hdg kk
theorem gP_g2 (X : OK l R K x cc nL RX1) {v : Int} (hv : S.1.1.1 2 = v) (hdg : decode cc pc = .ok (.getfield 40, 3)) (kk : GG l R K x (wPC K r q S) (pc + 3) lv (.int (iI v) :: st)) : GG l R K x (wPC K r q S) pc lv (.ref (r 0) :: st) := by
  subst hv
  exact gx_get X (ci := 1) (T := TX1) (N := 8) (C := RX1) i_P 0 rfl rfl 5 (by decide) t_P_40 rfl rfl hdg kk
theorem gP_p2 (X : OK l R K x cc nL RX1) (hD : va_D (cx_A x) (wPC K r q S)) {v : Int} (hdg : decode cc pc = .ok (.putfield 40, 3)) (kk : GG l R K x (wPC K r q (pI S 2 v)) (pc + 3) lv (st)) : GG l R K x (wPC K r q S) pc lv (.int (iI v) :: .ref (r 0) :: st) :=
  gx_put X (ci := 1) (T := TX1) (N := 8) (C := RX1) (ty := .int) i_P tyX1 tyX1_ok nmX1 hD 0 rfl rfl 5 (by decide) t_P_40 rfl rfl (by decide) rfl rfl (Nat.le_of_ble_eq_true rfl) rfl hdg kk
theorem gP_g3 (X : OK l R K x cc nL RX1) {v : Int} (hv : S.1.1.1 3 = v) (hdg : decode cc pc = .ok (.getfield 52, 3)) (kk : GG l R K x (wPC K r q S) (pc + 3) lv (.int (iI v) :: st)) : GG l R K x (wPC K r q S) pc lv (.ref (r 0) :: st) := by
  subst hv
  exact gx_get X (ci := 1) (T := TX1) (N := 8) (C := RX1) i_P 0 rfl rfl 6 (by decide) t_P_52 rfl rfl hdg kk
theorem gP_p3 (X : OK l R K x cc nL RX1) (hD : va_D (cx_A x) (wPC K r q S)) {v : Int} (hdg : decode cc pc = .ok (.putfield 52, 3)) (kk : GG l R K x (wPC K r q (pI S 3 v)) (pc + 3) lv (st)) : GG l R K x (wPC K r q S) pc lv (.int (iI v) :: .ref (r 0) :: st) :=
  gx_put X (ci := 1) (T := TX1) (N := 8) (C := RX1) (ty := .int) i_P tyX1 tyX1_ok nmX1 hD 0 rfl rfl 6 (by decide) t_P_52 rfl rfl (by decide) rfl rfl (Nat.le_of_ble_eq_true rfl) rfl hdg kk
theorem gP_G1 (X : OK l R K x cc nL RX1) {v : Int64} (hv : S.1.1.2 1 = v) (hdg : decode cc pc = .ok (.getfield 110, 3)) (kk : GG l R K x (wPC K r q S) (pc + 3) lv (.long v :: st)) : GG l R K x (wPC K r q S) pc lv (.ref (r 0) :: st) := by
  subst hv
  exact gx_get X (ci := 1) (T := TX1) (N := 8) (C := RX1) i_P 0 rfl rfl 7 (by decide) t_P_110 rfl rfl hdg kk
theorem gP_P1 (X : OK l R K x cc nL RX1) (hD : va_D (cx_A x) (wPC K r q S)) {v : Int64} (hdg : decode cc pc = .ok (.putfield 110, 3)) (kk : GG l R K x (wPC K r q (pL S 1 v)) (pc + 3) lv (st)) : GG l R K x (wPC K r q S) pc lv (.long v :: .ref (r 0) :: st) :=
  gx_put X (ci := 1) (T := TX1) (N := 8) (C := RX1) (ty := .long) i_P tyX1 tyX1_ok nmX1 hD 0 rfl rfl 7 (by decide) t_P_110 rfl rfl (by decide) rfl rfl (Nat.le_of_ble_eq_true rfl) rfl hdg kk
theorem gP_cr0 (X : OK l R K x cc nL RX1) (hdg : decode cc pc = .ok (.getfield 37, 3)) (kk : GG l R K x (wPC K r q S) (pc + 3) lv (.ref (q 1) :: st)) : GG l R K x (wPC K r q S) pc lv (.ref (q 0) :: st) :=
  gx_get X (ci := 0) (T := TX0) (N := 15) (C := RX0) i_C 3 rfl rfl 0 (by decide) t_P_37 rfl rfl hdg kk
theorem gP_cl0 (X : OK l R K x cc nL RX1) {z v : Int} (hz : 0 ≤ z ∧ z < 4) (hv : S.2.2 0 z = v) (hdg : decode cc pc = .ok (.iaload, 1)) (kk : GG l R K x (wPC K r q S) (pc + 1) lv (.int (iI v) :: st)) : GG l R K x (wPC K r q S) pc lv (.int (iI z) :: .ref (q 1) :: st) :=
  gx_iald X 4 rfl ⟨hz.1, by omega, by omega⟩ hv hdg kk
theorem gP_cs0 (X : OK l R K x cc nL RX1) (hD : va_D (cx_A x) (wPC K r q S)) {z v : Int} (hz : 0 ≤ z ∧ z < 4) (hdg : decode cc pc = .ok (.iastore, 1)) (kk : GG l R K x (wPC K r q (cA S 0 z v)) (pc + 1) lv (st)) : GG l R K x (wPC K r q S) pc lv (.int (iI v) :: .int (iI z) :: .ref (q 1) :: st) :=
  gx_iast X hD 4 rfl ⟨hz.1, by omega, by omega⟩ rfl hdg kk
theorem gP_cr7 (X : OK l R K x cc nL RX1) (hdg : decode cc pc = .ok (.getfield 72, 3)) (kk : GG l R K x (wPC K r q S) (pc + 3) lv (.ref (q 8) :: st)) : GG l R K x (wPC K r q S) pc lv (.ref (q 0) :: st) :=
  gx_get X (ci := 0) (T := TX0) (N := 15) (C := RX0) i_C 3 rfl rfl 7 (by decide) t_P_72 rfl rfl hdg kk
theorem gP_cl7 (X : OK l R K x cc nL RX1) {z v : Int} (hz : 0 ≤ z ∧ z < 30) (hv : S.2.2 7 z = v) (hdg : decode cc pc = .ok (.iaload, 1)) (kk : GG l R K x (wPC K r q S) (pc + 1) lv (.int (iI v) :: st)) : GG l R K x (wPC K r q S) pc lv (.int (iI z) :: .ref (q 8) :: st) :=
  gx_iald X 11 rfl ⟨hz.1, by omega, by omega⟩ hv hdg kk
theorem gP_cs7 (X : OK l R K x cc nL RX1) (hD : va_D (cx_A x) (wPC K r q S)) {z v : Int} (hz : 0 ≤ z ∧ z < 30) (hdg : decode cc pc = .ok (.iastore, 1)) (kk : GG l R K x (wPC K r q (cA S 7 z v)) (pc + 1) lv (st)) : GG l R K x (wPC K r q S) pc lv (.int (iI v) :: .int (iI z) :: .ref (q 8) :: st) :=
  gx_iast X hD 11 rfl ⟨hz.1, by omega, by omega⟩ rfl hdg kk
theorem gP_cg2 (X : OK l R K x cc nL RX1) {v : Int} (hv : S.2.1 2 = v) (hdg : decode cc pc = .ok (.getfield 62, 3)) (kk : GG l R K x (wPC K r q S) (pc + 3) lv (.int (iI v) :: st)) : GG l R K x (wPC K r q S) pc lv (.ref (q 0) :: st) := by
  subst hv
  exact gx_get X (ci := 0) (T := TX0) (N := 15) (C := RX0) i_C 3 rfl rfl 10 (by decide) t_P_62 rfl rfl hdg kk
theorem gP_cp2 (X : OK l R K x cc nL RX1) (hD : va_D (cx_A x) (wPC K r q S)) {v : Int} (hdg : decode cc pc = .ok (.putfield 62, 3)) (kk : GG l R K x (wPC K r q (cI S 2 v)) (pc + 3) lv (st)) : GG l R K x (wPC K r q S) pc lv (.int (iI v) :: .ref (q 0) :: st) :=
  gx_put X (ci := 0) (T := TX0) (N := 15) (C := RX0) (ty := .int) i_C tyX0 tyX0_ok nmX0 hD 3 rfl rfl 10 (by decide) t_P_62 rfl rfl (by decide) rfl rfl (Nat.le_of_ble_eq_true rfl) rfl hdg kk
theorem gP_cg4 (X : OK l R K x cc nL RX1) {v : Int} (hv : S.2.1 4 = v) (hdg : decode cc pc = .ok (.getfield 59, 3)) (kk : GG l R K x (wPC K r q S) (pc + 3) lv (.int (iI v) :: st)) : GG l R K x (wPC K r q S) pc lv (.ref (q 0) :: st) := by
  subst hv
  exact gx_get X (ci := 0) (T := TX0) (N := 15) (C := RX0) i_C 3 rfl rfl 12 (by decide) t_P_59 rfl rfl hdg kk
theorem gP_cp4 (X : OK l R K x cc nL RX1) (hD : va_D (cx_A x) (wPC K r q S)) {v : Int} (hdg : decode cc pc = .ok (.putfield 59, 3)) (kk : GG l R K x (wPC K r q (cI S 4 v)) (pc + 3) lv (st)) : GG l R K x (wPC K r q S) pc lv (.int (iI v) :: .ref (q 0) :: st) :=
  gx_put X (ci := 0) (T := TX0) (N := 15) (C := RX0) (ty := .int) i_C tyX0 tyX0_ok nmX0 hD 3 rfl rfl 12 (by decide) t_P_59 rfl rfl (by decide) rfl rfl (Nat.le_of_ble_eq_true rfl) rfl hdg kk
theorem gP_cg5 (X : OK l R K x cc nL RX1) {v : Int} (hv : S.2.1 5 = v) (hdg : decode cc pc = .ok (.getfield 65, 3)) (kk : GG l R K x (wPC K r q S) (pc + 3) lv (.int (iI v) :: st)) : GG l R K x (wPC K r q S) pc lv (.ref (q 0) :: st) := by
  subst hv
  exact gx_get X (ci := 0) (T := TX0) (N := 15) (C := RX0) i_C 3 rfl rfl 13 (by decide) t_P_65 rfl rfl hdg kk
theorem gP_cp5 (X : OK l R K x cc nL RX1) (hD : va_D (cx_A x) (wPC K r q S)) {v : Int} (hdg : decode cc pc = .ok (.putfield 65, 3)) (kk : GG l R K x (wPC K r q (cI S 5 v)) (pc + 3) lv (st)) : GG l R K x (wPC K r q S) pc lv (.int (iI v) :: .ref (q 0) :: st) :=
  gx_put X (ci := 0) (T := TX0) (N := 15) (C := RX0) (ty := .int) i_C tyX0 tyX0_ok nmX0 hD 3 rfl rfl 13 (by decide) t_P_65 rfl rfl (by decide) rfl rfl (Nat.le_of_ble_eq_true rfl) rfl hdg kk
end WP
