def wC (K : KK) (q : Nat → Nat) (S : Sta) : va_W := [(q 0, .inr (0, [.ref (q 1), .ref (q 2), .ref (q 3), .ref (q 4), .ref (q 5), .ref (q 6), .ref (q 7), .ref (q 8), .int (iI (S.1 0)), .int (iI (S.1 1)), .int (iI (S.1 2)), .int (iI (S.1 3)), .int (iI (S.1 4)), .int (iI (S.1 5)), .int (iI (S.1 6))])), (q 1, zA K 4 (S.2 0)), (q 2, zA K 4 (S.2 1)), (q 3, zA K 60 (S.2 2)), (q 4, zA K 60 (S.2 3)), (q 5, zA K 60 (S.2 4)), (q 6, zA K 60 (S.2 5)), (q 7, zA K 30 (S.2 6)), (q 8, zA K 30 (S.2 7))]
def rgC (N : Int) (k : Nat) (v : Int) : Prop := match k with
  | 0 => 0 ≤ v ∧ v ≤ 3
  | 1 => 0 ≤ v ∧ v ≤ 7
  | 2 => 0 ≤ v ∧ v ≤ 2
  | 3 => 0 ≤ v ∧ v ≤ 3
  | 4 => 0 ≤ v ∧ v ≤ 1
  | 5 => 0 ≤ v ∧ v ≤ N
  | 6 => -99 ≤ v ∧ v ≤ 7
  | 7 => 0 ≤ v ∧ v ≤ 2
  | _ => True
def sgC (N : Int) (k : Nat) (v : Int) : Prop := match k with
  | 0 => 0 ≤ v ∧ v ≤ 1
  | 1 => 0 ≤ v ∧ v ≤ 3
  | 3 => 0 ≤ v ∧ v ≤ N
  | 4 => -99 ≤ v ∧ v ≤ 1000
  | 6 => 0 ≤ v ∧ v ≤ 1
  | _ => True
def InvC (N : Int) (S : Sta) : Prop := (0 ≤ N ∧ N ≤ 1000) ∧ (∀ j : Nat, sgC N j (S.1 j)) ∧ ∀ (k : Nat) (j : Int), rgC N k (S.2 k j)
def InvCT (S : Sta) : Prop := -60 ≤ S.1 2 ∧ S.1 2 ≤ 60
theorem InvC.mA {N : Int} {S : Sta} {k : Nat} {z v : Int} (h : InvC N S) (hv : rgC N k v) : InvC N (mA S k z v) := by
  refine ⟨h.1, h.2.1, fun i j => ?_⟩
  show rgC N i ((if i = k then iu (S.2 k) z v else S.2 i) j)
  split
  · next e =>
    subst e
    unfold iu
    split
    · exact hv
    · exact h.2.2 i j
  · exact h.2.2 i j
theorem InvC.mI {N : Int} {S : Sta} {k : Nat} {v : Int} (h : InvC N S) (hv : sgC N k v) : InvC N (mI S k v) := by
  refine ⟨h.1, fun i => ?_, h.2.2⟩
  show sgC N i (if i = k then v else S.1 i)
  split
  · next e => subst e; exact hv
  · exact h.2.1 i
theorem InvC.mW {N : Int} {S : Sta} {k : Nat} {g : Int → Int} (h : InvC N S) (hv : ∀ j, rgC N k (g j)) : InvC N (mW S k g) := by
  refine ⟨h.1, h.2.1, fun i j => ?_⟩
  show rgC N i ((if i = k then g else S.2 i) j)
  split
  · next e => subst e; exact hv j
  · exact h.2.2 i j
theorem InvC_s2 {S : Sta} (h : InvCT S) : -60 ≤ S.1 2 ∧ S.1 2 ≤ 60 := h
theorem InvC_s0 {N : Int} {S : Sta} (h : InvC N S) : 0 ≤ S.1 0 ∧ S.1 0 ≤ 1 := h.2.1 0
theorem InvC_s1 {N : Int} {S : Sta} (h : InvC N S) : 0 ≤ S.1 1 ∧ S.1 1 ≤ 3 := h.2.1 1
theorem InvC_s3 {N : Int} {S : Sta} (h : InvC N S) : 0 ≤ S.1 3 ∧ S.1 3 ≤ 1000 := by
  have h1 : 0 ≤ S.1 3 ∧ S.1 3 ≤ N := h.2.1 3
  have h2 := h.1
  omega
theorem InvC_s4 {N : Int} {S : Sta} (h : InvC N S) : -99 ≤ S.1 4 ∧ S.1 4 ≤ 1000 := h.2.1 4
theorem InvC_s6 {N : Int} {S : Sta} (h : InvC N S) : 0 ≤ S.1 6 ∧ S.1 6 ≤ 1 := h.2.1 6
theorem InvC_a0 {N : Int} {S : Sta} (h : InvC N S) (j : Int) : 0 ≤ S.2 0 j ∧ S.2 0 j ≤ 3 := h.2.2 0 j
theorem InvC_a1 {N : Int} {S : Sta} (h : InvC N S) (j : Int) : 0 ≤ S.2 1 j ∧ S.2 1 j ≤ 7 := h.2.2 1 j
theorem InvC_a2 {N : Int} {S : Sta} (h : InvC N S) (j : Int) : 0 ≤ S.2 2 j ∧ S.2 2 j ≤ 2 := h.2.2 2 j
theorem InvC_a3 {N : Int} {S : Sta} (h : InvC N S) (j : Int) : 0 ≤ S.2 3 j ∧ S.2 3 j ≤ 3 := h.2.2 3 j
theorem InvC_a4 {N : Int} {S : Sta} (h : InvC N S) (j : Int) : 0 ≤ S.2 4 j ∧ S.2 4 j ≤ 1 := h.2.2 4 j
theorem InvC_a5 {N : Int} {S : Sta} (h : InvC N S) (j : Int) : 0 ≤ S.2 5 j ∧ S.2 5 j ≤ 1000 := by
  have h1 : 0 ≤ S.2 5 j ∧ S.2 5 j ≤ N := h.2.2 5 j
  have h2 := h.1
  omega
theorem InvC_a6 {N : Int} {S : Sta} (h : InvC N S) (j : Int) : -99 ≤ S.2 6 j ∧ S.2 6 j ≤ 7 := h.2.2 6 j
theorem InvC_a7 {N : Int} {S : Sta} (h : InvC N S) (j : Int) : 0 ≤ S.2 7 j ∧ S.2 7 j ≤ 2 := h.2.2 7 j
section WC
variable {l : Launch} {R : Room} {K : KK} {x : Cx} {cc : ByteArray} {nL : Nat} {pc : Nat} {lv : List (Nat × Value)} {st : List Value} {q : Nat → Nat} {S : Sta}
theorem gC_r0 (X : OK l R K x cc nL RX0) (hdg : decode cc pc = .ok (.getfield 9, 3)) (kk : GG l R K x (wC K q S) (pc + 3) lv (.ref (q 1) :: st)) : GG l R K x (wC K q S) pc lv (.ref (q 0) :: st) :=
  gx_get X (ci := 0) (T := TX0) (N := 15) (C := RX0) i_C 0 rfl rfl 0 (by decide) t_C_9 rfl rfl hdg kk
theorem gC_l0 (X : OK l R K x cc nL RX0) {z v : Int} (hz : 0 ≤ z ∧ z < 4) (hv : S.2 0 z = v) (hdg : decode cc pc = .ok (.iaload, 1)) (kk : GG l R K x (wC K q S) (pc + 1) lv (.int (iI v) :: st)) : GG l R K x (wC K q S) pc lv (.int (iI z) :: .ref (q 1) :: st) :=
  gx_iald X 1 rfl ⟨hz.1, by omega, by omega⟩ hv hdg kk
theorem gC_s0 (X : OK l R K x cc nL RX0) (hD : va_D (cx_A x) (wC K q S)) {z v : Int} (hz : 0 ≤ z ∧ z < 4) (hdg : decode cc pc = .ok (.iastore, 1)) (kk : GG l R K x (wC K q (mA S 0 z v)) (pc + 1) lv st) : GG l R K x (wC K q S) pc lv (.int (iI v) :: .int (iI z) :: .ref (q 1) :: st) :=
  gx_iast X hD 1 rfl ⟨hz.1, by omega, by omega⟩ rfl hdg kk
theorem gC_r1 (X : OK l R K x cc nL RX0) (hdg : decode cc pc = .ok (.getfield 15, 3)) (kk : GG l R K x (wC K q S) (pc + 3) lv (.ref (q 2) :: st)) : GG l R K x (wC K q S) pc lv (.ref (q 0) :: st) :=
  gx_get X (ci := 0) (T := TX0) (N := 15) (C := RX0) i_C 0 rfl rfl 1 (by decide) t_C_15 rfl rfl hdg kk
theorem gC_l1 (X : OK l R K x cc nL RX0) {z v : Int} (hz : 0 ≤ z ∧ z < 4) (hv : S.2 1 z = v) (hdg : decode cc pc = .ok (.iaload, 1)) (kk : GG l R K x (wC K q S) (pc + 1) lv (.int (iI v) :: st)) : GG l R K x (wC K q S) pc lv (.int (iI z) :: .ref (q 2) :: st) :=
  gx_iald X 2 rfl ⟨hz.1, by omega, by omega⟩ hv hdg kk
theorem gC_s1 (X : OK l R K x cc nL RX0) (hD : va_D (cx_A x) (wC K q S)) {z v : Int} (hz : 0 ≤ z ∧ z < 4) (hdg : decode cc pc = .ok (.iastore, 1)) (kk : GG l R K x (wC K q (mA S 1 z v)) (pc + 1) lv st) : GG l R K x (wC K q S) pc lv (.int (iI v) :: .int (iI z) :: .ref (q 2) :: st) :=
  gx_iast X hD 2 rfl ⟨hz.1, by omega, by omega⟩ rfl hdg kk
theorem gC_r2 (X : OK l R K x cc nL RX0) (hdg : decode cc pc = .ok (.getfield 18, 3)) (kk : GG l R K x (wC K q S) (pc + 3) lv (.ref (q 3) :: st)) : GG l R K x (wC K q S) pc lv (.ref (q 0) :: st) :=
  gx_get X (ci := 0) (T := TX0) (N := 15) (C := RX0) i_C 0 rfl rfl 2 (by decide) t_C_18 rfl rfl hdg kk
theorem gC_l2 (X : OK l R K x cc nL RX0) {z v : Int} (hz : 0 ≤ z ∧ z < 60) (hv : S.2 2 z = v) (hdg : decode cc pc = .ok (.iaload, 1)) (kk : GG l R K x (wC K q S) (pc + 1) lv (.int (iI v) :: st)) : GG l R K x (wC K q S) pc lv (.int (iI z) :: .ref (q 3) :: st) :=
  gx_iald X 3 rfl ⟨hz.1, by omega, by omega⟩ hv hdg kk
theorem gC_s2 (X : OK l R K x cc nL RX0) (hD : va_D (cx_A x) (wC K q S)) {z v : Int} (hz : 0 ≤ z ∧ z < 60) (hdg : decode cc pc = .ok (.iastore, 1)) (kk : GG l R K x (wC K q (mA S 2 z v)) (pc + 1) lv st) : GG l R K x (wC K q S) pc lv (.int (iI v) :: .int (iI z) :: .ref (q 3) :: st) :=
  gx_iast X hD 3 rfl ⟨hz.1, by omega, by omega⟩ rfl hdg kk
theorem gC_r3 (X : OK l R K x cc nL RX0) (hdg : decode cc pc = .ok (.getfield 21, 3)) (kk : GG l R K x (wC K q S) (pc + 3) lv (.ref (q 4) :: st)) : GG l R K x (wC K q S) pc lv (.ref (q 0) :: st) :=
  gx_get X (ci := 0) (T := TX0) (N := 15) (C := RX0) i_C 0 rfl rfl 3 (by decide) t_C_21 rfl rfl hdg kk
theorem gC_l3 (X : OK l R K x cc nL RX0) {z v : Int} (hz : 0 ≤ z ∧ z < 60) (hv : S.2 3 z = v) (hdg : decode cc pc = .ok (.iaload, 1)) (kk : GG l R K x (wC K q S) (pc + 1) lv (.int (iI v) :: st)) : GG l R K x (wC K q S) pc lv (.int (iI z) :: .ref (q 4) :: st) :=
  gx_iald X 4 rfl ⟨hz.1, by omega, by omega⟩ hv hdg kk
theorem gC_s3 (X : OK l R K x cc nL RX0) (hD : va_D (cx_A x) (wC K q S)) {z v : Int} (hz : 0 ≤ z ∧ z < 60) (hdg : decode cc pc = .ok (.iastore, 1)) (kk : GG l R K x (wC K q (mA S 3 z v)) (pc + 1) lv st) : GG l R K x (wC K q S) pc lv (.int (iI v) :: .int (iI z) :: .ref (q 4) :: st) :=
  gx_iast X hD 4 rfl ⟨hz.1, by omega, by omega⟩ rfl hdg kk
theorem gC_r4 (X : OK l R K x cc nL RX0) (hdg : decode cc pc = .ok (.getfield 24, 3)) (kk : GG l R K x (wC K q S) (pc + 3) lv (.ref (q 5) :: st)) : GG l R K x (wC K q S) pc lv (.ref (q 0) :: st) :=
  gx_get X (ci := 0) (T := TX0) (N := 15) (C := RX0) i_C 0 rfl rfl 4 (by decide) t_C_24 rfl rfl hdg kk
theorem gC_l4 (X : OK l R K x cc nL RX0) {z v : Int} (hz : 0 ≤ z ∧ z < 60) (hv : S.2 4 z = v) (hdg : decode cc pc = .ok (.iaload, 1)) (kk : GG l R K x (wC K q S) (pc + 1) lv (.int (iI v) :: st)) : GG l R K x (wC K q S) pc lv (.int (iI z) :: .ref (q 5) :: st) :=
  gx_iald X 5 rfl ⟨hz.1, by omega, by omega⟩ hv hdg kk
theorem gC_s4 (X : OK l R K x cc nL RX0) (hD : va_D (cx_A x) (wC K q S)) {z v : Int} (hz : 0 ≤ z ∧ z < 60) (hdg : decode cc pc = .ok (.iastore, 1)) (kk : GG l R K x (wC K q (mA S 4 z v)) (pc + 1) lv st) : GG l R K x (wC K q S) pc lv (.int (iI v) :: .int (iI z) :: .ref (q 5) :: st) :=
  gx_iast X hD 5 rfl ⟨hz.1, by omega, by omega⟩ rfl hdg kk
theorem gC_r5 (X : OK l R K x cc nL RX0) (hdg : decode cc pc = .ok (.getfield 27, 3)) (kk : GG l R K x (wC K q S) (pc + 3) lv (.ref (q 6) :: st)) : GG l R K x (wC K q S) pc lv (.ref (q 0) :: st) :=
  gx_get X (ci := 0) (T := TX0) (N := 15) (C := RX0) i_C 0 rfl rfl 5 (by decide) t_C_27 rfl rfl hdg kk
theorem gC_l5 (X : OK l R K x cc nL RX0) {z v : Int} (hz : 0 ≤ z ∧ z < 60) (hv : S.2 5 z = v) (hdg : decode cc pc = .ok (.iaload, 1)) (kk : GG l R K x (wC K q S) (pc + 1) lv (.int (iI v) :: st)) : GG l R K x (wC K q S) pc lv (.int (iI z) :: .ref (q 6) :: st) :=
  gx_iald X 6 rfl ⟨hz.1, by omega, by omega⟩ hv hdg kk
theorem gC_s5 (X : OK l R K x cc nL RX0) (hD : va_D (cx_A x) (wC K q S)) {z v : Int} (hz : 0 ≤ z ∧ z < 60) (hdg : decode cc pc = .ok (.iastore, 1)) (kk : GG l R K x (wC K q (mA S 5 z v)) (pc + 1) lv st) : GG l R K x (wC K q S) pc lv (.int (iI v) :: .int (iI z) :: .ref (q 6) :: st) :=
  gx_iast X hD 6 rfl ⟨hz.1, by omega, by omega⟩ rfl hdg kk
theorem gC_r6 (X : OK l R K x cc nL RX0) (hdg : decode cc pc = .ok (.getfield 30, 3)) (kk : GG l R K x (wC K q S) (pc + 3) lv (.ref (q 7) :: st)) : GG l R K x (wC K q S) pc lv (.ref (q 0) :: st) :=
  gx_get X (ci := 0) (T := TX0) (N := 15) (C := RX0) i_C 0 rfl rfl 6 (by decide) t_C_30 rfl rfl hdg kk
theorem gC_l6 (X : OK l R K x cc nL RX0) {z v : Int} (hz : 0 ≤ z ∧ z < 30) (hv : S.2 6 z = v) (hdg : decode cc pc = .ok (.iaload, 1)) (kk : GG l R K x (wC K q S) (pc + 1) lv (.int (iI v) :: st)) : GG l R K x (wC K q S) pc lv (.int (iI z) :: .ref (q 7) :: st) :=
  gx_iald X 7 rfl ⟨hz.1, by omega, by omega⟩ hv hdg kk
theorem gC_s6 (X : OK l R K x cc nL RX0) (hD : va_D (cx_A x) (wC K q S)) {z v : Int} (hz : 0 ≤ z ∧ z < 30) (hdg : decode cc pc = .ok (.iastore, 1)) (kk : GG l R K x (wC K q (mA S 6 z v)) (pc + 1) lv st) : GG l R K x (wC K q S) pc lv (.int (iI v) :: .int (iI z) :: .ref (q 7) :: st) :=
  gx_iast X hD 7 rfl ⟨hz.1, by omega, by omega⟩ rfl hdg kk
theorem gC_r7 (X : OK l R K x cc nL RX0) (hdg : decode cc pc = .ok (.getfield 33, 3)) (kk : GG l R K x (wC K q S) (pc + 3) lv (.ref (q 8) :: st)) : GG l R K x (wC K q S) pc lv (.ref (q 0) :: st) :=
  gx_get X (ci := 0) (T := TX0) (N := 15) (C := RX0) i_C 0 rfl rfl 7 (by decide) t_C_33 rfl rfl hdg kk
theorem gC_l7 (X : OK l R K x cc nL RX0) {z v : Int} (hz : 0 ≤ z ∧ z < 30) (hv : S.2 7 z = v) (hdg : decode cc pc = .ok (.iaload, 1)) (kk : GG l R K x (wC K q S) (pc + 1) lv (.int (iI v) :: st)) : GG l R K x (wC K q S) pc lv (.int (iI z) :: .ref (q 8) :: st) :=
  gx_iald X 8 rfl ⟨hz.1, by omega, by omega⟩ hv hdg kk
theorem gC_s7 (X : OK l R K x cc nL RX0) (hD : va_D (cx_A x) (wC K q S)) {z v : Int} (hz : 0 ≤ z ∧ z < 30) (hdg : decode cc pc = .ok (.iastore, 1)) (kk : GG l R K x (wC K q (mA S 7 z v)) (pc + 1) lv st) : GG l R K x (wC K q S) pc lv (.int (iI v) :: .int (iI z) :: .ref (q 8) :: st) :=
  gx_iast X hD 8 rfl ⟨hz.1, by omega, by omega⟩ rfl hdg kk
theorem gC_g0 (X : OK l R K x cc nL RX0) {v : Int} (hv : S.1 0 = v) (hdg : decode cc pc = .ok (.getfield 42, 3)) (kk : GG l R K x (wC K q S) (pc + 3) lv (.int (iI v) :: st)) : GG l R K x (wC K q S) pc lv (.ref (q 0) :: st) := by
  subst hv
  exact gx_get X (ci := 0) (T := TX0) (N := 15) (C := RX0) i_C 0 rfl rfl 8 (by decide) t_C_42 rfl rfl hdg kk
theorem gC_p0 (X : OK l R K x cc nL RX0) (hD : va_D (cx_A x) (wC K q S)) {v : Int} (hdg : decode cc pc = .ok (.putfield 42, 3)) (kk : GG l R K x (wC K q (mI S 0 v)) (pc + 3) lv st) : GG l R K x (wC K q S) pc lv (.int (iI v) :: .ref (q 0) :: st) :=
  gx_put X (ci := 0) (T := TX0) (N := 15) (C := RX0) (ty := .int) i_C tyX0 tyX0_ok nmX0 hD 0 rfl rfl 8 (by decide) t_C_42 rfl rfl (by decide) rfl rfl (Nat.le_of_ble_eq_true rfl) rfl hdg kk
theorem gC_g1 (X : OK l R K x cc nL RX0) {v : Int} (hv : S.1 1 = v) (hdg : decode cc pc = .ok (.getfield 46, 3)) (kk : GG l R K x (wC K q S) (pc + 3) lv (.int (iI v) :: st)) : GG l R K x (wC K q S) pc lv (.ref (q 0) :: st) := by
  subst hv
  exact gx_get X (ci := 0) (T := TX0) (N := 15) (C := RX0) i_C 0 rfl rfl 9 (by decide) t_C_46 rfl rfl hdg kk
theorem gC_p1 (X : OK l R K x cc nL RX0) (hD : va_D (cx_A x) (wC K q S)) {v : Int} (hdg : decode cc pc = .ok (.putfield 46, 3)) (kk : GG l R K x (wC K q (mI S 1 v)) (pc + 3) lv st) : GG l R K x (wC K q S) pc lv (.int (iI v) :: .ref (q 0) :: st) :=
  gx_put X (ci := 0) (T := TX0) (N := 15) (C := RX0) (ty := .int) i_C tyX0 tyX0_ok nmX0 hD 0 rfl rfl 9 (by decide) t_C_46 rfl rfl (by decide) rfl rfl (Nat.le_of_ble_eq_true rfl) rfl hdg kk
theorem gC_g2 (X : OK l R K x cc nL RX0) {v : Int} (hv : S.1 2 = v) (hdg : decode cc pc = .ok (.getfield 49, 3)) (kk : GG l R K x (wC K q S) (pc + 3) lv (.int (iI v) :: st)) : GG l R K x (wC K q S) pc lv (.ref (q 0) :: st) := by
  subst hv
  exact gx_get X (ci := 0) (T := TX0) (N := 15) (C := RX0) i_C 0 rfl rfl 10 (by decide) t_C_49 rfl rfl hdg kk
theorem gC_p2 (X : OK l R K x cc nL RX0) (hD : va_D (cx_A x) (wC K q S)) {v : Int} (hdg : decode cc pc = .ok (.putfield 49, 3)) (kk : GG l R K x (wC K q (mI S 2 v)) (pc + 3) lv st) : GG l R K x (wC K q S) pc lv (.int (iI v) :: .ref (q 0) :: st) :=
  gx_put X (ci := 0) (T := TX0) (N := 15) (C := RX0) (ty := .int) i_C tyX0 tyX0_ok nmX0 hD 0 rfl rfl 10 (by decide) t_C_49 rfl rfl (by decide) rfl rfl (Nat.le_of_ble_eq_true rfl) rfl hdg kk
theorem gC_g3 (X : OK l R K x cc nL RX0) {v : Int} (hv : S.1 3 = v) (hdg : decode cc pc = .ok (.getfield 52, 3)) (kk : GG l R K x (wC K q S) (pc + 3) lv (.int (iI v) :: st)) : GG l R K x (wC K q S) pc lv (.ref (q 0) :: st) := by
  subst hv
  exact gx_get X (ci := 0) (T := TX0) (N := 15) (C := RX0) i_C 0 rfl rfl 11 (by decide) t_C_52 rfl rfl hdg kk
theorem gC_p3 (X : OK l R K x cc nL RX0) (hD : va_D (cx_A x) (wC K q S)) {v : Int} (hdg : decode cc pc = .ok (.putfield 52, 3)) (kk : GG l R K x (wC K q (mI S 3 v)) (pc + 3) lv st) : GG l R K x (wC K q S) pc lv (.int (iI v) :: .ref (q 0) :: st) :=
  gx_put X (ci := 0) (T := TX0) (N := 15) (C := RX0) (ty := .int) i_C tyX0 tyX0_ok nmX0 hD 0 rfl rfl 11 (by decide) t_C_52 rfl rfl (by decide) rfl rfl (Nat.le_of_ble_eq_true rfl) rfl hdg kk
theorem gC_g6 (X : OK l R K x cc nL RX0) {v : Int} (hv : S.1 6 = v) (hdg : decode cc pc = .ok (.getfield 55, 3)) (kk : GG l R K x (wC K q S) (pc + 3) lv (.int (iI v) :: st)) : GG l R K x (wC K q S) pc lv (.ref (q 0) :: st) := by
  subst hv
  exact gx_get X (ci := 0) (T := TX0) (N := 15) (C := RX0) i_C 0 rfl rfl 14 (by decide) t_C_55 rfl rfl hdg kk
theorem gC_p6 (X : OK l R K x cc nL RX0) (hD : va_D (cx_A x) (wC K q S)) {v : Int} (hb : v = 0 ∨ v = 1) (hdg : decode cc pc = .ok (.putfield 55, 3)) (kk : GG l R K x (wC K q (mI S 6 v)) (pc + 3) lv st) : GG l R K x (wC K q S) pc lv (.int (iI v) :: .ref (q 0) :: st) :=
  gx_put X (ci := 0) (T := TX0) (N := 15) (C := RX0) (ty := .boolean) i_C tyX0 tyX0_ok nmX0 hD 0 rfl rfl 14 (by decide) t_C_55 rfl rfl (by decide) (narrow_bool hb) (by rcases hb with rfl | rfl <;> decide) (Nat.le_of_ble_eq_true rfl) rfl hdg kk
end WC
