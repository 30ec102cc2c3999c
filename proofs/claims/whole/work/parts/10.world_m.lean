abbrev Sta : Type := (Nat → Int) × (Nat → Int → Int)
def mI (S : Sta) (j : Nat) (v : Int) : Sta := (fun i => if i = j then v else S.1 i, S.2)
def mA (S : Sta) (k : Nat) (z v : Int) : Sta := (S.1, fun i => if i = k then iu (S.2 k) z v else S.2 i)
theorem mA_ne {S : Sta} {k i : Nat} (z v : Int) (_ : True) (h : i ≠ k) : (mA S k z v).2 i = S.2 i := if_neg h
theorem mA_nin {S : Sta} {k i : Nat} {z v : Int} {L : List Nat} (h : i ∉ L) (hm : k ∈ L) : (mA S k z v).2 i = S.2 i := if_neg (fun (e : i = k) => h (by rw [e]; exact hm))
theorem mI_same {S : Sta} {j : Nat} {v : Int} (h : S.1 j = v) : mI S j v = S := by
  refine Prod.ext ?_ rfl
  funext i
  show (if i = j then v else S.1 i) = S.1 i
  split
  · next e => rw [e, h]
  · rfl
def wM (K : KK) (q : Nat → Nat) (S : Sta) : va_W := [(q 0, .inr (3, [.int (iI (S.1 0)), .int (iI (S.1 1)), .int (iI (S.1 2)), .ref (q 1), .ref (q 2), .ref (q 3), .ref (q 4), .ref (q 5), .ref (q 6), .ref (q 7), .ref (q 8), .ref (q 9), .ref (q 10), .ref (q 11), .ref (q 12), .ref (q 13), .ref (q 14), .ref (q 15), .ref (q 16), .ref (q 17), .int (iI (S.1 3)), .int (iI (S.1 4)), .ref (q 18), .ref (q 19), .ref (q 20), .int (iI (S.1 5))])), (q 1, zA K 64 (S.2 0)), (q 2, zA K 64 (S.2 1)), (q 3, zA K 16 (S.2 2)), (q 4, zA K 16 (S.2 3)), (q 5, zA K 16 (S.2 4)), (q 6, zA K 16 (S.2 5)), (q 7, zA K 16 (S.2 6)), (q 8, zA K 3840 (S.2 7)), (q 9, zA K 960 (S.2 8)), (q 10, zA K 960 (S.2 9)), (q 11, zA K 960 (S.2 10)), (q 12, zA K 960 (S.2 11)), (q 13, zA K 960 (S.2 12)), (q 14, zA K 960 (S.2 13)), (q 15, zA K 960 (S.2 14)), (q 16, zA K 960 (S.2 15)), (q 17, zA K 480 (S.2 16)), (q 18, zA K 302560 (S.2 17)), (q 19, zA K 30 (S.2 18)), (q 20, zA K 480 (S.2 19))]
def rgM (N : Int) (k : Nat) (v : Int) : Prop := match k with
  | 0 => 0 ≤ v ∧ v ≤ 7
  | 1 => 0 ≤ v ∧ v ≤ 3
  | 2 => 0 ≤ v ∧ v ≤ 1
  | 3 => 0 ≤ v ∧ v ≤ 3
  | 6 => 0 ≤ v ∧ v ≤ N
  | 7 => 0 ≤ v ∧ v ≤ 3
  | 8 => 0 ≤ v ∧ v ≤ 1
  | 11 => 0 ≤ v ∧ v ≤ N
  | 12 => 0 ≤ v ∧ v ≤ 2
  | 13 => 0 ≤ v ∧ v ≤ 3
  | 14 => 0 ≤ v ∧ v ≤ 3
  | 15 => 0 ≤ v ∧ v ≤ 1
  | 16 => -99 ≤ v ∧ v ≤ 7
  | 17 => 0 ≤ v ∧ v ≤ 1000000
  | 18 => 0 ≤ v ∧ v ≤ 2
  | 19 => 0 ≤ v ∧ v ≤ 2
  | _ => True
def InvW (N : Int) (S : Sta) : Prop := ((S.1 0 = 0 ∧ (0 ≤ N ∧ N ≤ 1000)) ∧ (1 ≤ S.1 1 ∧ S.1 1 ≤ 16) ∧ (0 ≤ S.1 2 ∧ S.1 2 ≤ 60) ∧ (1 ≤ S.1 3 ∧ S.1 3 ≤ 30) ∧ (0 ≤ S.1 4 ∧ S.1 4 ≤ 9)) ∧ ∀ (k : Nat) (j : Int), rgM N k (S.2 k j)
def InvT (S : Sta) : Prop := (∀ j, -60 ≤ S.2 4 j ∧ S.2 4 j ≤ 60) ∧ (∀ j, 0 ≤ S.2 5 j ∧ S.2 5 j ≤ 60)
theorem InvW.mA {N : Int} {S : Sta} {k : Nat} {z v : Int} (h : InvW N S) (hv : rgM N k v) : InvW N (mA S k z v) := by
  refine ⟨h.1, fun i j => ?_⟩
  show rgM N i ((if i = k then iu (S.2 k) z v else S.2 i) j)
  split
  · next e =>
    subst e
    unfold iu
    split
    · exact hv
    · exact h.2 i j
  · exact h.2 i j
theorem InvM_t {N : Int} {S : Sta} (h : InvW N S) : S.1 0 = 0 := h.1.1.1
theorem InvM_s1 {N : Int} {S : Sta} (h : InvW N S) : 1 ≤ S.1 1 ∧ S.1 1 ≤ 16 := h.1.2.1
theorem InvM_s2 {N : Int} {S : Sta} (h : InvW N S) : 0 ≤ S.1 2 ∧ S.1 2 ≤ 60 := h.1.2.2.1
theorem InvM_s3 {N : Int} {S : Sta} (h : InvW N S) : 1 ≤ S.1 3 ∧ S.1 3 ≤ 30 := h.1.2.2.2.1
theorem InvM_s4 {N : Int} {S : Sta} (h : InvW N S) : 0 ≤ S.1 4 ∧ S.1 4 ≤ 9 := h.1.2.2.2.2
theorem InvM_a0 {N : Int} {S : Sta} (h : InvW N S) (j : Int) : 0 ≤ S.2 0 j ∧ S.2 0 j ≤ 7 := h.2 0 j
theorem InvM_a1 {N : Int} {S : Sta} (h : InvW N S) (j : Int) : 0 ≤ S.2 1 j ∧ S.2 1 j ≤ 3 := h.2 1 j
theorem InvM_a2 {N : Int} {S : Sta} (h : InvW N S) (j : Int) : 0 ≤ S.2 2 j ∧ S.2 2 j ≤ 1 := h.2 2 j
theorem InvM_a3 {N : Int} {S : Sta} (h : InvW N S) (j : Int) : 0 ≤ S.2 3 j ∧ S.2 3 j ≤ 3 := h.2 3 j
theorem InvM_a4 {S : Sta} (h : InvT S) (j : Int) : -60 ≤ S.2 4 j ∧ S.2 4 j ≤ 60 := h.1 j
theorem InvM_a5 {S : Sta} (h : InvT S) (j : Int) : 0 ≤ S.2 5 j ∧ S.2 5 j ≤ 60 := h.2 j
theorem InvM_a6 {N : Int} {S : Sta} (h : InvW N S) (j : Int) : 0 ≤ S.2 6 j ∧ S.2 6 j ≤ 1000 := by
  have h1 : 0 ≤ S.2 6 j ∧ S.2 6 j ≤ N := h.2 6 j
  have h2 := h.1.1.2
  omega
theorem InvM_a7 {N : Int} {S : Sta} (h : InvW N S) (j : Int) : 0 ≤ S.2 7 j ∧ S.2 7 j ≤ 3 := h.2 7 j
theorem InvM_a8 {N : Int} {S : Sta} (h : InvW N S) (j : Int) : 0 ≤ S.2 8 j ∧ S.2 8 j ≤ 1 := h.2 8 j
theorem InvM_a11 {N : Int} {S : Sta} (h : InvW N S) (j : Int) : 0 ≤ S.2 11 j ∧ S.2 11 j ≤ 1000 := by
  have h1 : 0 ≤ S.2 11 j ∧ S.2 11 j ≤ N := h.2 11 j
  have h2 := h.1.1.2
  omega
theorem InvM_a12 {N : Int} {S : Sta} (h : InvW N S) (j : Int) : 0 ≤ S.2 12 j ∧ S.2 12 j ≤ 2 := h.2 12 j
theorem InvM_a13 {N : Int} {S : Sta} (h : InvW N S) (j : Int) : 0 ≤ S.2 13 j ∧ S.2 13 j ≤ 3 := h.2 13 j
theorem InvM_a14 {N : Int} {S : Sta} (h : InvW N S) (j : Int) : 0 ≤ S.2 14 j ∧ S.2 14 j ≤ 3 := h.2 14 j
theorem InvM_a15 {N : Int} {S : Sta} (h : InvW N S) (j : Int) : 0 ≤ S.2 15 j ∧ S.2 15 j ≤ 1 := h.2 15 j
theorem InvM_a16 {N : Int} {S : Sta} (h : InvW N S) (j : Int) : -99 ≤ S.2 16 j ∧ S.2 16 j ≤ 7 := h.2 16 j
theorem InvM_a17 {N : Int} {S : Sta} (h : InvW N S) (j : Int) : 0 ≤ S.2 17 j ∧ S.2 17 j ≤ 1000000 := h.2 17 j
theorem InvM_a18 {N : Int} {S : Sta} (h : InvW N S) (j : Int) : 0 ≤ S.2 18 j ∧ S.2 18 j ≤ 2 := h.2 18 j
theorem InvM_a19 {N : Int} {S : Sta} (h : InvW N S) (j : Int) : 0 ≤ S.2 19 j ∧ S.2 19 j ≤ 2 := h.2 19 j
section WM
variable {l : Launch} {R : Room} {K : KK} {x : Cx} {cc : ByteArray} {nL : Nat} {pc : Nat} {lv : List (Nat × Value)} {st : List Value} {q : Nat → Nat} {S : Sta}
theorem gM_g0 (X : OK l R K x cc nL RX3) {v : Int} (hv : S.1 0 = v) (hdg : decode cc pc = .ok (.getfield 85, 3)) (kk : GG l R K x (wM K q S) (pc + 3) lv (.int (iI v) :: st)) : GG l R K x (wM K q S) pc lv (.ref (q 0) :: st) := by
  subst hv
  exact gx_get X (ci := 3) (T := TX3) (N := 26) (C := RX3) i_M 0 rfl rfl 0 (by decide) t_M_85 rfl rfl hdg kk
theorem gM_p0 (X : OK l R K x cc nL RX3) (hD : va_D (cx_A x) (wM K q S)) {v : Int} (hdg : decode cc pc = .ok (.putfield 85, 3)) (kk : GG l R K x (wM K q (mI S 0 v)) (pc + 3) lv st) : GG l R K x (wM K q S) pc lv (.int (iI v) :: .ref (q 0) :: st) :=
  gx_put X (ci := 3) (T := TX3) (N := 26) (C := RX3) (ty := .int) i_M tyX3 tyX3_ok nmX3 hD 0 rfl rfl 0 (by decide) t_M_85 rfl rfl (by decide) rfl rfl (Nat.le_of_ble_eq_true rfl) rfl hdg kk
theorem gM_g1 (X : OK l R K x cc nL RX3) {v : Int} (hv : S.1 1 = v) (hdg : decode cc pc = .ok (.getfield 7, 3)) (kk : GG l R K x (wM K q S) (pc + 3) lv (.int (iI v) :: st)) : GG l R K x (wM K q S) pc lv (.ref (q 0) :: st) := by
  subst hv
  exact gx_get X (ci := 3) (T := TX3) (N := 26) (C := RX3) i_M 0 rfl rfl 1 (by decide) t_M_7 rfl rfl hdg kk
theorem gM_p1 (X : OK l R K x cc nL RX3) (hD : va_D (cx_A x) (wM K q S)) {v : Int} (hdg : decode cc pc = .ok (.putfield 7, 3)) (kk : GG l R K x (wM K q (mI S 1 v)) (pc + 3) lv st) : GG l R K x (wM K q S) pc lv (.int (iI v) :: .ref (q 0) :: st) :=
  gx_put X (ci := 3) (T := TX3) (N := 26) (C := RX3) (ty := .int) i_M tyX3 tyX3_ok nmX3 hD 0 rfl rfl 1 (by decide) t_M_7 rfl rfl (by decide) rfl rfl (Nat.le_of_ble_eq_true rfl) rfl hdg kk
theorem gM_g2 (X : OK l R K x cc nL RX3) {v : Int} (hv : S.1 2 = v) (hdg : decode cc pc = .ok (.getfield 92, 3)) (kk : GG l R K x (wM K q S) (pc + 3) lv (.int (iI v) :: st)) : GG l R K x (wM K q S) pc lv (.ref (q 0) :: st) := by
  subst hv
  exact gx_get X (ci := 3) (T := TX3) (N := 26) (C := RX3) i_M 0 rfl rfl 2 (by decide) t_M_92 rfl rfl hdg kk
theorem gM_p2 (X : OK l R K x cc nL RX3) (hD : va_D (cx_A x) (wM K q S)) {v : Int} (hdg : decode cc pc = .ok (.putfield 92, 3)) (kk : GG l R K x (wM K q (mI S 2 v)) (pc + 3) lv st) : GG l R K x (wM K q S) pc lv (.int (iI v) :: .ref (q 0) :: st) :=
  gx_put X (ci := 3) (T := TX3) (N := 26) (C := RX3) (ty := .int) i_M tyX3 tyX3_ok nmX3 hD 0 rfl rfl 2 (by decide) t_M_92 rfl rfl (by decide) rfl rfl (Nat.le_of_ble_eq_true rfl) rfl hdg kk
theorem gM_r0 (X : OK l R K x cc nL RX3) (hdg : decode cc pc = .ok (.getfield 13, 3)) (kk : GG l R K x (wM K q S) (pc + 3) lv (.ref (q 1) :: st)) : GG l R K x (wM K q S) pc lv (.ref (q 0) :: st) :=
  gx_get X (ci := 3) (T := TX3) (N := 26) (C := RX3) i_M 0 rfl rfl 3 (by decide) t_M_13 rfl rfl hdg kk
theorem gM_l0 (X : OK l R K x cc nL RX3) {z v : Int} (hz : 0 ≤ z ∧ z < 64) (hv : S.2 0 z = v) (hdg : decode cc pc = .ok (.iaload, 1)) (kk : GG l R K x (wM K q S) (pc + 1) lv (.int (iI v) :: st)) : GG l R K x (wM K q S) pc lv (.int (iI z) :: .ref (q 1) :: st) :=
  gx_iald X 1 rfl ⟨hz.1, by omega, by omega⟩ hv hdg kk
theorem gM_s0 (X : OK l R K x cc nL RX3) (hD : va_D (cx_A x) (wM K q S)) {z v : Int} (hz : 0 ≤ z ∧ z < 64) (hdg : decode cc pc = .ok (.iastore, 1)) (kk : GG l R K x (wM K q (mA S 0 z v)) (pc + 1) lv st) : GG l R K x (wM K q S) pc lv (.int (iI v) :: .int (iI z) :: .ref (q 1) :: st) :=
  gx_iast X hD 1 rfl ⟨hz.1, by omega, by omega⟩ rfl hdg kk
theorem gM_r1 (X : OK l R K x cc nL RX3) (hdg : decode cc pc = .ok (.getfield 17, 3)) (kk : GG l R K x (wM K q S) (pc + 3) lv (.ref (q 2) :: st)) : GG l R K x (wM K q S) pc lv (.ref (q 0) :: st) :=
  gx_get X (ci := 3) (T := TX3) (N := 26) (C := RX3) i_M 0 rfl rfl 4 (by decide) t_M_17 rfl rfl hdg kk
theorem gM_l1 (X : OK l R K x cc nL RX3) {z v : Int} (hz : 0 ≤ z ∧ z < 64) (hv : S.2 1 z = v) (hdg : decode cc pc = .ok (.iaload, 1)) (kk : GG l R K x (wM K q S) (pc + 1) lv (.int (iI v) :: st)) : GG l R K x (wM K q S) pc lv (.int (iI z) :: .ref (q 2) :: st) :=
  gx_iald X 2 rfl ⟨hz.1, by omega, by omega⟩ hv hdg kk
theorem gM_s1 (X : OK l R K x cc nL RX3) (hD : va_D (cx_A x) (wM K q S)) {z v : Int} (hz : 0 ≤ z ∧ z < 64) (hdg : decode cc pc = .ok (.iastore, 1)) (kk : GG l R K x (wM K q (mA S 1 z v)) (pc + 1) lv st) : GG l R K x (wM K q S) pc lv (.int (iI v) :: .int (iI z) :: .ref (q 2) :: st) :=
  gx_iast X hD 2 rfl ⟨hz.1, by omega, by omega⟩ rfl hdg kk
theorem gM_r2 (X : OK l R K x cc nL RX3) (hdg : decode cc pc = .ok (.getfield 20, 3)) (kk : GG l R K x (wM K q S) (pc + 3) lv (.ref (q 3) :: st)) : GG l R K x (wM K q S) pc lv (.ref (q 0) :: st) :=
  gx_get X (ci := 3) (T := TX3) (N := 26) (C := RX3) i_M 0 rfl rfl 5 (by decide) t_M_20 rfl rfl hdg kk
theorem gM_l2 (X : OK l R K x cc nL RX3) {z v : Int} (hz : 0 ≤ z ∧ z < 16) (hv : S.2 2 z = v) (hdg : decode cc pc = .ok (.iaload, 1)) (kk : GG l R K x (wM K q S) (pc + 1) lv (.int (iI v) :: st)) : GG l R K x (wM K q S) pc lv (.int (iI z) :: .ref (q 3) :: st) :=
  gx_iald X 3 rfl ⟨hz.1, by omega, by omega⟩ hv hdg kk
theorem gM_s2 (X : OK l R K x cc nL RX3) (hD : va_D (cx_A x) (wM K q S)) {z v : Int} (hz : 0 ≤ z ∧ z < 16) (hdg : decode cc pc = .ok (.iastore, 1)) (kk : GG l R K x (wM K q (mA S 2 z v)) (pc + 1) lv st) : GG l R K x (wM K q S) pc lv (.int (iI v) :: .int (iI z) :: .ref (q 3) :: st) :=
  gx_iast X hD 3 rfl ⟨hz.1, by omega, by omega⟩ rfl hdg kk
theorem gM_r3 (X : OK l R K x cc nL RX3) (hdg : decode cc pc = .ok (.getfield 23, 3)) (kk : GG l R K x (wM K q S) (pc + 3) lv (.ref (q 4) :: st)) : GG l R K x (wM K q S) pc lv (.ref (q 0) :: st) :=
  gx_get X (ci := 3) (T := TX3) (N := 26) (C := RX3) i_M 0 rfl rfl 6 (by decide) t_M_23 rfl rfl hdg kk
theorem gM_l3 (X : OK l R K x cc nL RX3) {z v : Int} (hz : 0 ≤ z ∧ z < 16) (hv : S.2 3 z = v) (hdg : decode cc pc = .ok (.iaload, 1)) (kk : GG l R K x (wM K q S) (pc + 1) lv (.int (iI v) :: st)) : GG l R K x (wM K q S) pc lv (.int (iI z) :: .ref (q 4) :: st) :=
  gx_iald X 4 rfl ⟨hz.1, by omega, by omega⟩ hv hdg kk
theorem gM_s3 (X : OK l R K x cc nL RX3) (hD : va_D (cx_A x) (wM K q S)) {z v : Int} (hz : 0 ≤ z ∧ z < 16) (hdg : decode cc pc = .ok (.iastore, 1)) (kk : GG l R K x (wM K q (mA S 3 z v)) (pc + 1) lv st) : GG l R K x (wM K q S) pc lv (.int (iI v) :: .int (iI z) :: .ref (q 4) :: st) :=
  gx_iast X hD 4 rfl ⟨hz.1, by omega, by omega⟩ rfl hdg kk
theorem gM_r4 (X : OK l R K x cc nL RX3) (hdg : decode cc pc = .ok (.getfield 26, 3)) (kk : GG l R K x (wM K q S) (pc + 3) lv (.ref (q 5) :: st)) : GG l R K x (wM K q S) pc lv (.ref (q 0) :: st) :=
  gx_get X (ci := 3) (T := TX3) (N := 26) (C := RX3) i_M 0 rfl rfl 7 (by decide) t_M_26 rfl rfl hdg kk
theorem gM_l4 (X : OK l R K x cc nL RX3) {z v : Int} (hz : 0 ≤ z ∧ z < 16) (hv : S.2 4 z = v) (hdg : decode cc pc = .ok (.iaload, 1)) (kk : GG l R K x (wM K q S) (pc + 1) lv (.int (iI v) :: st)) : GG l R K x (wM K q S) pc lv (.int (iI z) :: .ref (q 5) :: st) :=
  gx_iald X 5 rfl ⟨hz.1, by omega, by omega⟩ hv hdg kk
theorem gM_s4 (X : OK l R K x cc nL RX3) (hD : va_D (cx_A x) (wM K q S)) {z v : Int} (hz : 0 ≤ z ∧ z < 16) (hdg : decode cc pc = .ok (.iastore, 1)) (kk : GG l R K x (wM K q (mA S 4 z v)) (pc + 1) lv st) : GG l R K x (wM K q S) pc lv (.int (iI v) :: .int (iI z) :: .ref (q 5) :: st) :=
  gx_iast X hD 5 rfl ⟨hz.1, by omega, by omega⟩ rfl hdg kk
theorem gM_r5 (X : OK l R K x cc nL RX3) (hdg : decode cc pc = .ok (.getfield 29, 3)) (kk : GG l R K x (wM K q S) (pc + 3) lv (.ref (q 6) :: st)) : GG l R K x (wM K q S) pc lv (.ref (q 0) :: st) :=
  gx_get X (ci := 3) (T := TX3) (N := 26) (C := RX3) i_M 0 rfl rfl 8 (by decide) t_M_29 rfl rfl hdg kk
theorem gM_l5 (X : OK l R K x cc nL RX3) {z v : Int} (hz : 0 ≤ z ∧ z < 16) (hv : S.2 5 z = v) (hdg : decode cc pc = .ok (.iaload, 1)) (kk : GG l R K x (wM K q S) (pc + 1) lv (.int (iI v) :: st)) : GG l R K x (wM K q S) pc lv (.int (iI z) :: .ref (q 6) :: st) :=
  gx_iald X 6 rfl ⟨hz.1, by omega, by omega⟩ hv hdg kk
theorem gM_s5 (X : OK l R K x cc nL RX3) (hD : va_D (cx_A x) (wM K q S)) {z v : Int} (hz : 0 ≤ z ∧ z < 16) (hdg : decode cc pc = .ok (.iastore, 1)) (kk : GG l R K x (wM K q (mA S 5 z v)) (pc + 1) lv st) : GG l R K x (wM K q S) pc lv (.int (iI v) :: .int (iI z) :: .ref (q 6) :: st) :=
  gx_iast X hD 6 rfl ⟨hz.1, by omega, by omega⟩ rfl hdg kk
theorem gM_r6 (X : OK l R K x cc nL RX3) (hdg : decode cc pc = .ok (.getfield 32, 3)) (kk : GG l R K x (wM K q S) (pc + 3) lv (.ref (q 7) :: st)) : GG l R K x (wM K q S) pc lv (.ref (q 0) :: st) :=
  gx_get X (ci := 3) (T := TX3) (N := 26) (C := RX3) i_M 0 rfl rfl 9 (by decide) t_M_32 rfl rfl hdg kk
theorem gM_l6 (X : OK l R K x cc nL RX3) {z v : Int} (hz : 0 ≤ z ∧ z < 16) (hv : S.2 6 z = v) (hdg : decode cc pc = .ok (.iaload, 1)) (kk : GG l R K x (wM K q S) (pc + 1) lv (.int (iI v) :: st)) : GG l R K x (wM K q S) pc lv (.int (iI z) :: .ref (q 7) :: st) :=
  gx_iald X 7 rfl ⟨hz.1, by omega, by omega⟩ hv hdg kk
theorem gM_s6 (X : OK l R K x cc nL RX3) (hD : va_D (cx_A x) (wM K q S)) {z v : Int} (hz : 0 ≤ z ∧ z < 16) (hdg : decode cc pc = .ok (.iastore, 1)) (kk : GG l R K x (wM K q (mA S 6 z v)) (pc + 1) lv st) : GG l R K x (wM K q S) pc lv (.int (iI v) :: .int (iI z) :: .ref (q 7) :: st) :=
  gx_iast X hD 7 rfl ⟨hz.1, by omega, by omega⟩ rfl hdg kk
theorem gM_r7 (X : OK l R K x cc nL RX3) (hdg : decode cc pc = .ok (.getfield 35, 3)) (kk : GG l R K x (wM K q S) (pc + 3) lv (.ref (q 8) :: st)) : GG l R K x (wM K q S) pc lv (.ref (q 0) :: st) :=
  gx_get X (ci := 3) (T := TX3) (N := 26) (C := RX3) i_M 0 rfl rfl 10 (by decide) t_M_35 rfl rfl hdg kk
theorem gM_l7 (X : OK l R K x cc nL RX3) {z v : Int} (hz : 0 ≤ z ∧ z < 3840) (hv : S.2 7 z = v) (hdg : decode cc pc = .ok (.iaload, 1)) (kk : GG l R K x (wM K q S) (pc + 1) lv (.int (iI v) :: st)) : GG l R K x (wM K q S) pc lv (.int (iI z) :: .ref (q 8) :: st) :=
  gx_iald X 8 rfl ⟨hz.1, by omega, by omega⟩ hv hdg kk
theorem gM_s7 (X : OK l R K x cc nL RX3) (hD : va_D (cx_A x) (wM K q S)) {z v : Int} (hz : 0 ≤ z ∧ z < 3840) (hdg : decode cc pc = .ok (.iastore, 1)) (kk : GG l R K x (wM K q (mA S 7 z v)) (pc + 1) lv st) : GG l R K x (wM K q S) pc lv (.int (iI v) :: .int (iI z) :: .ref (q 8) :: st) :=
  gx_iast X hD 8 rfl ⟨hz.1, by omega, by omega⟩ rfl hdg kk
theorem gM_r8 (X : OK l R K x cc nL RX3) (hdg : decode cc pc = .ok (.getfield 38, 3)) (kk : GG l R K x (wM K q S) (pc + 3) lv (.ref (q 9) :: st)) : GG l R K x (wM K q S) pc lv (.ref (q 0) :: st) :=
  gx_get X (ci := 3) (T := TX3) (N := 26) (C := RX3) i_M 0 rfl rfl 11 (by decide) t_M_38 rfl rfl hdg kk
theorem gM_l8 (X : OK l R K x cc nL RX3) {z v : Int} (hz : 0 ≤ z ∧ z < 960) (hv : S.2 8 z = v) (hdg : decode cc pc = .ok (.iaload, 1)) (kk : GG l R K x (wM K q S) (pc + 1) lv (.int (iI v) :: st)) : GG l R K x (wM K q S) pc lv (.int (iI z) :: .ref (q 9) :: st) :=
  gx_iald X 9 rfl ⟨hz.1, by omega, by omega⟩ hv hdg kk
theorem gM_s8 (X : OK l R K x cc nL RX3) (hD : va_D (cx_A x) (wM K q S)) {z v : Int} (hz : 0 ≤ z ∧ z < 960) (hdg : decode cc pc = .ok (.iastore, 1)) (kk : GG l R K x (wM K q (mA S 8 z v)) (pc + 1) lv st) : GG l R K x (wM K q S) pc lv (.int (iI v) :: .int (iI z) :: .ref (q 9) :: st) :=
  gx_iast X hD 9 rfl ⟨hz.1, by omega, by omega⟩ rfl hdg kk
theorem gM_r9 (X : OK l R K x cc nL RX3) (hdg : decode cc pc = .ok (.getfield 41, 3)) (kk : GG l R K x (wM K q S) (pc + 3) lv (.ref (q 10) :: st)) : GG l R K x (wM K q S) pc lv (.ref (q 0) :: st) :=
  gx_get X (ci := 3) (T := TX3) (N := 26) (C := RX3) i_M 0 rfl rfl 12 (by decide) t_M_41 rfl rfl hdg kk
theorem gM_l9 (X : OK l R K x cc nL RX3) {z v : Int} (hz : 0 ≤ z ∧ z < 960) (hv : S.2 9 z = v) (hdg : decode cc pc = .ok (.iaload, 1)) (kk : GG l R K x (wM K q S) (pc + 1) lv (.int (iI v) :: st)) : GG l R K x (wM K q S) pc lv (.int (iI z) :: .ref (q 10) :: st) :=
  gx_iald X 10 rfl ⟨hz.1, by omega, by omega⟩ hv hdg kk
theorem gM_s9 (X : OK l R K x cc nL RX3) (hD : va_D (cx_A x) (wM K q S)) {z v : Int} (hz : 0 ≤ z ∧ z < 960) (hdg : decode cc pc = .ok (.iastore, 1)) (kk : GG l R K x (wM K q (mA S 9 z v)) (pc + 1) lv st) : GG l R K x (wM K q S) pc lv (.int (iI v) :: .int (iI z) :: .ref (q 10) :: st) :=
  gx_iast X hD 10 rfl ⟨hz.1, by omega, by omega⟩ rfl hdg kk
theorem gM_r10 (X : OK l R K x cc nL RX3) (hdg : decode cc pc = .ok (.getfield 44, 3)) (kk : GG l R K x (wM K q S) (pc + 3) lv (.ref (q 11) :: st)) : GG l R K x (wM K q S) pc lv (.ref (q 0) :: st) :=
  gx_get X (ci := 3) (T := TX3) (N := 26) (C := RX3) i_M 0 rfl rfl 13 (by decide) t_M_44 rfl rfl hdg kk
theorem gM_l10 (X : OK l R K x cc nL RX3) {z v : Int} (hz : 0 ≤ z ∧ z < 960) (hv : S.2 10 z = v) (hdg : decode cc pc = .ok (.iaload, 1)) (kk : GG l R K x (wM K q S) (pc + 1) lv (.int (iI v) :: st)) : GG l R K x (wM K q S) pc lv (.int (iI z) :: .ref (q 11) :: st) :=
  gx_iald X 11 rfl ⟨hz.1, by omega, by omega⟩ hv hdg kk
theorem gM_s10 (X : OK l R K x cc nL RX3) (hD : va_D (cx_A x) (wM K q S)) {z v : Int} (hz : 0 ≤ z ∧ z < 960) (hdg : decode cc pc = .ok (.iastore, 1)) (kk : GG l R K x (wM K q (mA S 10 z v)) (pc + 1) lv st) : GG l R K x (wM K q S) pc lv (.int (iI v) :: .int (iI z) :: .ref (q 11) :: st) :=
  gx_iast X hD 11 rfl ⟨hz.1, by omega, by omega⟩ rfl hdg kk
theorem gM_r11 (X : OK l R K x cc nL RX3) (hdg : decode cc pc = .ok (.getfield 47, 3)) (kk : GG l R K x (wM K q S) (pc + 3) lv (.ref (q 12) :: st)) : GG l R K x (wM K q S) pc lv (.ref (q 0) :: st) :=
  gx_get X (ci := 3) (T := TX3) (N := 26) (C := RX3) i_M 0 rfl rfl 14 (by decide) t_M_47 rfl rfl hdg kk
theorem gM_l11 (X : OK l R K x cc nL RX3) {z v : Int} (hz : 0 ≤ z ∧ z < 960) (hv : S.2 11 z = v) (hdg : decode cc pc = .ok (.iaload, 1)) (kk : GG l R K x (wM K q S) (pc + 1) lv (.int (iI v) :: st)) : GG l R K x (wM K q S) pc lv (.int (iI z) :: .ref (q 12) :: st) :=
  gx_iald X 12 rfl ⟨hz.1, by omega, by omega⟩ hv hdg kk
theorem gM_s11 (X : OK l R K x cc nL RX3) (hD : va_D (cx_A x) (wM K q S)) {z v : Int} (hz : 0 ≤ z ∧ z < 960) (hdg : decode cc pc = .ok (.iastore, 1)) (kk : GG l R K x (wM K q (mA S 11 z v)) (pc + 1) lv st) : GG l R K x (wM K q S) pc lv (.int (iI v) :: .int (iI z) :: .ref (q 12) :: st) :=
  gx_iast X hD 12 rfl ⟨hz.1, by omega, by omega⟩ rfl hdg kk
theorem gM_r12 (X : OK l R K x cc nL RX3) (hdg : decode cc pc = .ok (.getfield 50, 3)) (kk : GG l R K x (wM K q S) (pc + 3) lv (.ref (q 13) :: st)) : GG l R K x (wM K q S) pc lv (.ref (q 0) :: st) :=
  gx_get X (ci := 3) (T := TX3) (N := 26) (C := RX3) i_M 0 rfl rfl 15 (by decide) t_M_50 rfl rfl hdg kk
theorem gM_l12 (X : OK l R K x cc nL RX3) {z v : Int} (hz : 0 ≤ z ∧ z < 960) (hv : S.2 12 z = v) (hdg : decode cc pc = .ok (.iaload, 1)) (kk : GG l R K x (wM K q S) (pc + 1) lv (.int (iI v) :: st)) : GG l R K x (wM K q S) pc lv (.int (iI z) :: .ref (q 13) :: st) :=
  gx_iald X 13 rfl ⟨hz.1, by omega, by omega⟩ hv hdg kk
theorem gM_s12 (X : OK l R K x cc nL RX3) (hD : va_D (cx_A x) (wM K q S)) {z v : Int} (hz : 0 ≤ z ∧ z < 960) (hdg : decode cc pc = .ok (.iastore, 1)) (kk : GG l R K x (wM K q (mA S 12 z v)) (pc + 1) lv st) : GG l R K x (wM K q S) pc lv (.int (iI v) :: .int (iI z) :: .ref (q 13) :: st) :=
  gx_iast X hD 13 rfl ⟨hz.1, by omega, by omega⟩ rfl hdg kk
theorem gM_r13 (X : OK l R K x cc nL RX3) (hdg : decode cc pc = .ok (.getfield 53, 3)) (kk : GG l R K x (wM K q S) (pc + 3) lv (.ref (q 14) :: st)) : GG l R K x (wM K q S) pc lv (.ref (q 0) :: st) :=
  gx_get X (ci := 3) (T := TX3) (N := 26) (C := RX3) i_M 0 rfl rfl 16 (by decide) t_M_53 rfl rfl hdg kk
theorem gM_l13 (X : OK l R K x cc nL RX3) {z v : Int} (hz : 0 ≤ z ∧ z < 960) (hv : S.2 13 z = v) (hdg : decode cc pc = .ok (.iaload, 1)) (kk : GG l R K x (wM K q S) (pc + 1) lv (.int (iI v) :: st)) : GG l R K x (wM K q S) pc lv (.int (iI z) :: .ref (q 14) :: st) :=
  gx_iald X 14 rfl ⟨hz.1, by omega, by omega⟩ hv hdg kk
theorem gM_s13 (X : OK l R K x cc nL RX3) (hD : va_D (cx_A x) (wM K q S)) {z v : Int} (hz : 0 ≤ z ∧ z < 960) (hdg : decode cc pc = .ok (.iastore, 1)) (kk : GG l R K x (wM K q (mA S 13 z v)) (pc + 1) lv st) : GG l R K x (wM K q S) pc lv (.int (iI v) :: .int (iI z) :: .ref (q 14) :: st) :=
  gx_iast X hD 14 rfl ⟨hz.1, by omega, by omega⟩ rfl hdg kk
theorem gM_r14 (X : OK l R K x cc nL RX3) (hdg : decode cc pc = .ok (.getfield 56, 3)) (kk : GG l R K x (wM K q S) (pc + 3) lv (.ref (q 15) :: st)) : GG l R K x (wM K q S) pc lv (.ref (q 0) :: st) :=
  gx_get X (ci := 3) (T := TX3) (N := 26) (C := RX3) i_M 0 rfl rfl 17 (by decide) t_M_56 rfl rfl hdg kk
theorem gM_l14 (X : OK l R K x cc nL RX3) {z v : Int} (hz : 0 ≤ z ∧ z < 960) (hv : S.2 14 z = v) (hdg : decode cc pc = .ok (.iaload, 1)) (kk : GG l R K x (wM K q S) (pc + 1) lv (.int (iI v) :: st)) : GG l R K x (wM K q S) pc lv (.int (iI z) :: .ref (q 15) :: st) :=
  gx_iald X 15 rfl ⟨hz.1, by omega, by omega⟩ hv hdg kk
theorem gM_s14 (X : OK l R K x cc nL RX3) (hD : va_D (cx_A x) (wM K q S)) {z v : Int} (hz : 0 ≤ z ∧ z < 960) (hdg : decode cc pc = .ok (.iastore, 1)) (kk : GG l R K x (wM K q (mA S 14 z v)) (pc + 1) lv st) : GG l R K x (wM K q S) pc lv (.int (iI v) :: .int (iI z) :: .ref (q 15) :: st) :=
  gx_iast X hD 15 rfl ⟨hz.1, by omega, by omega⟩ rfl hdg kk
theorem gM_r15 (X : OK l R K x cc nL RX3) (hdg : decode cc pc = .ok (.getfield 59, 3)) (kk : GG l R K x (wM K q S) (pc + 3) lv (.ref (q 16) :: st)) : GG l R K x (wM K q S) pc lv (.ref (q 0) :: st) :=
  gx_get X (ci := 3) (T := TX3) (N := 26) (C := RX3) i_M 0 rfl rfl 18 (by decide) t_M_59 rfl rfl hdg kk
theorem gM_l15 (X : OK l R K x cc nL RX3) {z v : Int} (hz : 0 ≤ z ∧ z < 960) (hv : S.2 15 z = v) (hdg : decode cc pc = .ok (.iaload, 1)) (kk : GG l R K x (wM K q S) (pc + 1) lv (.int (iI v) :: st)) : GG l R K x (wM K q S) pc lv (.int (iI z) :: .ref (q 16) :: st) :=
  gx_iald X 16 rfl ⟨hz.1, by omega, by omega⟩ hv hdg kk
theorem gM_s15 (X : OK l R K x cc nL RX3) (hD : va_D (cx_A x) (wM K q S)) {z v : Int} (hz : 0 ≤ z ∧ z < 960) (hdg : decode cc pc = .ok (.iastore, 1)) (kk : GG l R K x (wM K q (mA S 15 z v)) (pc + 1) lv st) : GG l R K x (wM K q S) pc lv (.int (iI v) :: .int (iI z) :: .ref (q 16) :: st) :=
  gx_iast X hD 16 rfl ⟨hz.1, by omega, by omega⟩ rfl hdg kk
theorem gM_r16 (X : OK l R K x cc nL RX3) (hdg : decode cc pc = .ok (.getfield 62, 3)) (kk : GG l R K x (wM K q S) (pc + 3) lv (.ref (q 17) :: st)) : GG l R K x (wM K q S) pc lv (.ref (q 0) :: st) :=
  gx_get X (ci := 3) (T := TX3) (N := 26) (C := RX3) i_M 0 rfl rfl 19 (by decide) t_M_62 rfl rfl hdg kk
theorem gM_l16 (X : OK l R K x cc nL RX3) {z v : Int} (hz : 0 ≤ z ∧ z < 480) (hv : S.2 16 z = v) (hdg : decode cc pc = .ok (.iaload, 1)) (kk : GG l R K x (wM K q S) (pc + 1) lv (.int (iI v) :: st)) : GG l R K x (wM K q S) pc lv (.int (iI z) :: .ref (q 17) :: st) :=
  gx_iald X 17 rfl ⟨hz.1, by omega, by omega⟩ hv hdg kk
theorem gM_s16 (X : OK l R K x cc nL RX3) (hD : va_D (cx_A x) (wM K q S)) {z v : Int} (hz : 0 ≤ z ∧ z < 480) (hdg : decode cc pc = .ok (.iastore, 1)) (kk : GG l R K x (wM K q (mA S 16 z v)) (pc + 1) lv st) : GG l R K x (wM K q S) pc lv (.int (iI v) :: .int (iI z) :: .ref (q 17) :: st) :=
  gx_iast X hD 17 rfl ⟨hz.1, by omega, by omega⟩ rfl hdg kk
theorem gM_g3 (X : OK l R K x cc nL RX3) {v : Int} (hv : S.1 3 = v) (hdg : decode cc pc = .ok (.getfield 65, 3)) (kk : GG l R K x (wM K q S) (pc + 3) lv (.int (iI v) :: st)) : GG l R K x (wM K q S) pc lv (.ref (q 0) :: st) := by
  subst hv
  exact gx_get X (ci := 3) (T := TX3) (N := 26) (C := RX3) i_M 0 rfl rfl 20 (by decide) t_M_65 rfl rfl hdg kk
theorem gM_p3 (X : OK l R K x cc nL RX3) (hD : va_D (cx_A x) (wM K q S)) {v : Int} (hdg : decode cc pc = .ok (.putfield 65, 3)) (kk : GG l R K x (wM K q (mI S 3 v)) (pc + 3) lv st) : GG l R K x (wM K q S) pc lv (.int (iI v) :: .ref (q 0) :: st) :=
  gx_put X (ci := 3) (T := TX3) (N := 26) (C := RX3) (ty := .int) i_M tyX3 tyX3_ok nmX3 hD 0 rfl rfl 20 (by decide) t_M_65 rfl rfl (by decide) rfl rfl (Nat.le_of_ble_eq_true rfl) rfl hdg kk
theorem gM_g4 (X : OK l R K x cc nL RX3) {v : Int} (hv : S.1 4 = v) (hdg : decode cc pc = .ok (.getfield 68, 3)) (kk : GG l R K x (wM K q S) (pc + 3) lv (.int (iI v) :: st)) : GG l R K x (wM K q S) pc lv (.ref (q 0) :: st) := by
  subst hv
  exact gx_get X (ci := 3) (T := TX3) (N := 26) (C := RX3) i_M 0 rfl rfl 21 (by decide) t_M_68 rfl rfl hdg kk
theorem gM_p4 (X : OK l R K x cc nL RX3) (hD : va_D (cx_A x) (wM K q S)) {v : Int} (hdg : decode cc pc = .ok (.putfield 68, 3)) (kk : GG l R K x (wM K q (mI S 4 v)) (pc + 3) lv st) : GG l R K x (wM K q S) pc lv (.int (iI v) :: .ref (q 0) :: st) :=
  gx_put X (ci := 3) (T := TX3) (N := 26) (C := RX3) (ty := .int) i_M tyX3 tyX3_ok nmX3 hD 0 rfl rfl 21 (by decide) t_M_68 rfl rfl (by decide) rfl rfl (Nat.le_of_ble_eq_true rfl) rfl hdg kk
theorem gM_r17 (X : OK l R K x cc nL RX3) (hdg : decode cc pc = .ok (.getfield 72, 3)) (kk : GG l R K x (wM K q S) (pc + 3) lv (.ref (q 18) :: st)) : GG l R K x (wM K q S) pc lv (.ref (q 0) :: st) :=
  gx_get X (ci := 3) (T := TX3) (N := 26) (C := RX3) i_M 0 rfl rfl 22 (by decide) t_M_72 rfl rfl hdg kk
theorem gM_l17 (X : OK l R K x cc nL RX3) {z v : Int} (hz : 0 ≤ z ∧ z < 302560) (hv : S.2 17 z = v) (hdg : decode cc pc = .ok (.iaload, 1)) (kk : GG l R K x (wM K q S) (pc + 1) lv (.int (iI v) :: st)) : GG l R K x (wM K q S) pc lv (.int (iI z) :: .ref (q 18) :: st) :=
  gx_iald X 18 rfl ⟨hz.1, by omega, by omega⟩ hv hdg kk
theorem gM_s17 (X : OK l R K x cc nL RX3) (hD : va_D (cx_A x) (wM K q S)) {z v : Int} (hz : 0 ≤ z ∧ z < 302560) (hdg : decode cc pc = .ok (.iastore, 1)) (kk : GG l R K x (wM K q (mA S 17 z v)) (pc + 1) lv st) : GG l R K x (wM K q S) pc lv (.int (iI v) :: .int (iI z) :: .ref (q 18) :: st) :=
  gx_iast X hD 18 rfl ⟨hz.1, by omega, by omega⟩ rfl hdg kk
theorem gM_r18 (X : OK l R K x cc nL RX3) (hdg : decode cc pc = .ok (.getfield 75, 3)) (kk : GG l R K x (wM K q S) (pc + 3) lv (.ref (q 19) :: st)) : GG l R K x (wM K q S) pc lv (.ref (q 0) :: st) :=
  gx_get X (ci := 3) (T := TX3) (N := 26) (C := RX3) i_M 0 rfl rfl 23 (by decide) t_M_75 rfl rfl hdg kk
theorem gM_l18 (X : OK l R K x cc nL RX3) {z v : Int} (hz : 0 ≤ z ∧ z < 30) (hv : S.2 18 z = v) (hdg : decode cc pc = .ok (.iaload, 1)) (kk : GG l R K x (wM K q S) (pc + 1) lv (.int (iI v) :: st)) : GG l R K x (wM K q S) pc lv (.int (iI z) :: .ref (q 19) :: st) :=
  gx_iald X 19 rfl ⟨hz.1, by omega, by omega⟩ hv hdg kk
theorem gM_s18 (X : OK l R K x cc nL RX3) (hD : va_D (cx_A x) (wM K q S)) {z v : Int} (hz : 0 ≤ z ∧ z < 30) (hdg : decode cc pc = .ok (.iastore, 1)) (kk : GG l R K x (wM K q (mA S 18 z v)) (pc + 1) lv st) : GG l R K x (wM K q S) pc lv (.int (iI v) :: .int (iI z) :: .ref (q 19) :: st) :=
  gx_iast X hD 19 rfl ⟨hz.1, by omega, by omega⟩ rfl hdg kk
theorem gM_r19 (X : OK l R K x cc nL RX3) (hdg : decode cc pc = .ok (.getfield 78, 3)) (kk : GG l R K x (wM K q S) (pc + 3) lv (.ref (q 20) :: st)) : GG l R K x (wM K q S) pc lv (.ref (q 0) :: st) :=
  gx_get X (ci := 3) (T := TX3) (N := 26) (C := RX3) i_M 0 rfl rfl 24 (by decide) t_M_78 rfl rfl hdg kk
theorem gM_l19 (X : OK l R K x cc nL RX3) {z v : Int} (hz : 0 ≤ z ∧ z < 480) (hv : S.2 19 z = v) (hdg : decode cc pc = .ok (.iaload, 1)) (kk : GG l R K x (wM K q S) (pc + 1) lv (.int (iI v) :: st)) : GG l R K x (wM K q S) pc lv (.int (iI z) :: .ref (q 20) :: st) :=
  gx_iald X 20 rfl ⟨hz.1, by omega, by omega⟩ hv hdg kk
theorem gM_s19 (X : OK l R K x cc nL RX3) (hD : va_D (cx_A x) (wM K q S)) {z v : Int} (hz : 0 ≤ z ∧ z < 480) (hdg : decode cc pc = .ok (.iastore, 1)) (kk : GG l R K x (wM K q (mA S 19 z v)) (pc + 1) lv st) : GG l R K x (wM K q S) pc lv (.int (iI v) :: .int (iI z) :: .ref (q 20) :: st) :=
  gx_iast X hD 20 rfl ⟨hz.1, by omega, by omega⟩ rfl hdg kk
theorem gM_g5 (X : OK l R K x cc nL RX3) {v : Int} (hv : S.1 5 = v) (hdg : decode cc pc = .ok (.getfield 172, 3)) (kk : GG l R K x (wM K q S) (pc + 3) lv (.int (iI v) :: st)) : GG l R K x (wM K q S) pc lv (.ref (q 0) :: st) := by
  subst hv
  exact gx_get X (ci := 3) (T := TX3) (N := 26) (C := RX3) i_M 0 rfl rfl 25 (by decide) t_M_172 rfl rfl hdg kk
theorem gM_p5 (X : OK l R K x cc nL RX3) (hD : va_D (cx_A x) (wM K q S)) {v : Int} (hdg : decode cc pc = .ok (.putfield 172, 3)) (kk : GG l R K x (wM K q (mI S 5 v)) (pc + 3) lv st) : GG l R K x (wM K q S) pc lv (.int (iI v) :: .ref (q 0) :: st) :=
  gx_put X (ci := 3) (T := TX3) (N := 26) (C := RX3) (ty := .int) i_M tyX3 tyX3_ok nmX3 hD 0 rfl rfl 25 (by decide) t_M_172 rfl rfl (by decide) rfl rfl (Nat.le_of_ble_eq_true rfl) rfl hdg kk
theorem gM_t0 (X : OK l R K x cc nL RX3) (hD : va_D (cx_A x) (wM K q S)) (h : S.1 0 = 0) (hdg : decode cc pc = .ok (.putfield 85, 3)) (kk : GG l R K x (wM K q S) (pc + 3) lv st) : GG l R K x (wM K q S) pc lv (.int (iI 0) :: .ref (q 0) :: st) :=
  gM_p0 X hD hdg (by rw [mI_same h]; exact kk)
end WM
