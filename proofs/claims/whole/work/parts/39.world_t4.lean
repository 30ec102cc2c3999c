/-! the class's invariants, card i within the class's world -/
def InvTC (N : Int) (T : TS) : Prop := ((1 ≤ T.1 0 ∧ T.1 0 ≤ 16) ∧ (0 ≤ T.1 1 ∧ T.1 1 ≤ 60) ∧ (1 ≤ T.1 2 ∧ T.1 2 ≤ 30) ∧ (0 ≤ T.1 3 ∧ T.1 3 ≤ 9)) ∧ ∀ i : Int, InvP N (T.2.2.1, T.2.2.2 i)
def InvTCT (T : TS) : Prop := ∀ i : Int, InvCT (T.2.2.2 i)
theorem InvTC_s0 {N : Int} {T : TS} (h : InvTC N T) : 1 ≤ T.1 0 ∧ T.1 0 ≤ 16 := h.1.1
theorem InvTC_s1 {N : Int} {T : TS} (h : InvTC N T) : 0 ≤ T.1 1 ∧ T.1 1 ≤ 60 := h.1.2.1
theorem InvTC_s2 {N : Int} {T : TS} (h : InvTC N T) : 1 ≤ T.1 2 ∧ T.1 2 ≤ 30 := h.1.2.2.1
theorem InvTC_s3 {N : Int} {T : TS} (h : InvTC N T) : 0 ≤ T.1 3 ∧ T.1 3 ≤ 9 := h.1.2.2.2
theorem InvTC_c {N : Int} {T : TS} (h : InvTC N T) (i : Int) : InvC N (T.2.2.2 i) := (h.2 i).1
theorem InvTC.tC {N : Int} {T : TS} {i : Int} {X : Sta} (h : InvTC N T) (hX : InvC N X) : InvTC N (tC T i X) := by
  refine ⟨h.1, fun j => ?_⟩
  show InvP N (T.2.2.1, iu T.2.2.2 i X j)
  unfold iu
  split
  · exact ⟨hX, (h.2 j).2⟩
  · exact h.2 j
theorem InvTC.tW {N : Int} {T : TS} {z v : Int} (h : InvTC N T) : InvTC N (tW T z v) := h
theorem InvTC.tI0 {N : Int} {T : TS} {v : Int} (h : InvTC N T) (hv : 1 ≤ v ∧ v ≤ 16) : InvTC N (tI T 0 v) := ⟨⟨hv, h.1.2⟩, h.2⟩
theorem InvTC.tI1 {N : Int} {T : TS} {v : Int} (h : InvTC N T) (hv : 0 ≤ v ∧ v ≤ 60) : InvTC N (tI T 1 v) := ⟨⟨h.1.1, hv, h.1.2.2⟩, h.2⟩
theorem InvTC.tI2 {N : Int} {T : TS} {v : Int} (h : InvTC N T) (hv : 1 ≤ v ∧ v ≤ 30) : InvTC N (tI T 2 v) := ⟨⟨h.1.1, h.1.2.1, hv, h.1.2.2.2⟩, h.2⟩
theorem InvTC.tI3 {N : Int} {T : TS} {v : Int} (h : InvTC N T) (hv : 0 ≤ v ∧ v ≤ 9) : InvTC N (tI T 3 v) := ⟨⟨h.1.1, h.1.2.1, h.1.2.2.1, hv⟩, h.2⟩
theorem InvTCT.tC {T : TS} {i : Int} {X : Sta} (h : InvTCT T) (hX : InvCT X) : InvTCT (tC T i X) := by
  intro j
  show InvCT (iu T.2.2.2 i X j)
  unfold iu
  split
  · exact hX
  · exact h j
theorem tC_at (T : TS) (i : Int) (X : Sta) : (tC T i X).2.2.2 i = X := iu_same _ _ _
theorem tC_ne (T : TS) {i j : Int} (X : Sta) (h : j ≠ i) : (tC T i X).2.2.2 j = T.2.2.2 j := iu_ne _ _ h
theorem iu_id {α : Type} (g : Int → α) (z : Int) : iu g z (g z) = g := by
  funext j
  unfold iu
  split
  · next h => rw [h]
  · rfl
theorem iu_iu {α : Type} (g : Int → α) (z : Int) (v w : α) : iu (iu g z v) z w = iu g z w := by
  funext j
  unfold iu
  split <;> rfl
theorem tC_same (T : TS) (i : Int) : tC T i (T.2.2.2 i) = T := by
  unfold tC
  rw [iu_id]
theorem tC_tC (T : TS) (i : Int) (X Y : Sta) : tC (tC T i X) i Y = tC T i Y := by
  unfold tC
  dsimp only
  rw [iu_iu]
theorem tC_upd (T : TS) (i : Int) (X : Sta) (f : Sta → Sta) : tC T i (f X) = tC (tC T i X) i (f ((tC T i X).2.2.2 i)) := by
  rw [tC_at, tC_tC]
theorem jn_cd {A0 : Nat → Prop} (K : KK) (u r : Nat → Nat) (ca : Nat → Nat → Nat) (T : TS) {i : Int} (hi : 0 ≤ i ∧ i < 16) {X : Sta} (S' : Sta) (e : T.2.2.2 i = X) (hD : va_D A0 (wT K u r ca T)) : Jn (wT K u r ca T) (wC K (ca i.toNat) X) (wC K (ca i.toNat) S') (wT K u r ca (tC T i S')) := by
  subst e
  exact jn_card K u r ca T hi S' hD
theorem jn_cdP {A0 : Nat → Prop} (K : KK) (u r : Nat → Nat) (ca : Nat → Nat → Nat) (T : TS) {i : Int} (hi : 0 ≤ i ∧ i < 16) {X : Sta} (e : T.2.2.2 i = X) (hD : va_D A0 (wT K u r ca T)) : Jn (wT K u r ca T) (wC K (ca i.toNat) X) (wC K (ca i.toNat) X) (wT K u r ca T) := by
  subst e
  have h := jn_card K u r ca T hi (T.2.2.2 i) hD
  rw [tC_same] at h
  exact h
/-! the JDK's count of bits -/
def zi_ushr (a b : Int) : Int := ((iI a).toUInt32 >>> ((iI b).toUInt32 &&& Int32.toUInt32 31)).toInt32.toInt
theorem ok_ushr (a b : Int) : ok32 (zi_ushr a b) := ok_toInt _
section GG4
variable {l : Launch} {R : Room} {K : KK} {x : Cx} {cc : ByteArray} {nL : Nat} {own : String} {ws : va_W} {pc : Nat} {lv : List (Nat × Value)} {st : List Value}
theorem gx_iushr (X : OK l R K x cc nL own) {a b : Int} (hdg : decode cc pc = .ok (.iushr, 1)) (kk : GG l R K x ws (pc + 1) lv (.int (iI (zi_ushr a b)) :: st)) : GG l R K x ws pc lv (.int (iI b) :: .int (iI a) :: st) := by
  intro H locs ls hP hS hl
  exact lv_iushr X.1.1.1 X.1.1.2.1 hdg (v := iI (zi_ushr a b)) (iI_of _) (kk H locs ls hP hS hl)
theorem gx_ldcw (X : OK l R K x cc nL own) {i : Nat} {v : Int32} {z : Int} (hm : Jvm.Cond.constant own i v ∈ TT) (hdg : decode cc pc = .ok (.ldc_w i, 3)) (hv : v = iI z) (kk : GG l R K x ws (pc + 3) lv (.int (iI z) :: st)) : GG l R K x ws pc lv (st) := by
  intro H locs ls hP hS hl
  exact lv_ldcw X.1.1.1 X.1.1.2.1 X.1.1.2.2.2.1 (X.1.1.2.2.2.2 _ hm) hdg (hv ▸ (kk H locs ls hP hS hl))
end GG4
/-! the card's invariant, kept by its methods -/
theorem C_twistOf_rg {N : Int} {S : Sta} (t : Int) (h : InvC N S) : C_twistOf S t = 0 ∨ C_twistOf S t = 1 ∨ C_twistOf S t = -1 := by
  have h0 := C_sense_sp S
  unfold C_twistOf
  repeat' split
  all_goals omega
theorem icpy_all {N : Int} {k : Nat} {g : Int → Int} {a b n : Int} (h : ∀ j, rgC N k (g j)) : ∀ j, rgC N k (icpy g a b n j) := by
  intro j
  unfold icpy
  split
  · exact h _
  · exact h _
theorem C_move_inv {N : Int} {S : Sta} {t : Int} (h : InvC N S) : InvC N (C_move S t) := by
  have h1 : InvC N (mI (mI S 6 0) 2 (S.1 2 + C_twistOf (mI S 6 0) t)) := InvC.mI (k := 2) (InvC.mI (k := 6) h (show (0 : Int) ≤ 0 ∧ (0 : Int) ≤ 1 by decide)) trivial
  unfold C_move
  repeat' split
  · exact (h1.mW (icpy_all (h.2.2 0))).mA (h.2.2 0 _)
  · exact (h1.mW (icpy_all (h.2.2 0))).mA (h.2.2 0 _)
  · exact h1
theorem C_slantOf_rg {N : Int} {S : Sta} (p t : Int) (h : InvC N S) : 0 ≤ C_slantOf S p t ∧ C_slantOf S p t ≤ 1 := by
  have h4 := InvC_a4 h (p - 1)
  unfold C_slantOf
  repeat' split
  all_goals omega
theorem C_turnIn_inv {N : Int} {S : Sta} {p t : Int} (h : InvC N S) (ht : 0 ≤ t ∧ t ≤ 2) : InvC N (C_turnIn S p t) := by
  have h1 := InvC.mA (k := 5) (z := p) h (show rgC N 5 (S.1 3) from h.2.1 3)
  have h2 := InvC.mA (k := 2) (z := p) h1 (show rgC N 2 t from ht)
  have h3 := InvC.mA (k := 4) (z := p) h2 (show rgC N 4 _ from C_slantOf_rg p t h2)
  have h4 := C_move_inv (t := t) h3
  refine InvC.mA (k := 3) (z := p) h4 (show rgC N 3 _ from ?_)
  split
  · exact C_showing_rg _ p h4
  · exact h4.2.2 0 t
theorem C_takeBack_inv {N : Int} {S : Sta} {p : Int} (h : InvC N S) : InvC N (C_takeBack S p) := by
  unfold C_takeBack C_takeBack_m20
  have h1 : InvC N (if (S.1 3 - S.2 5 p) % 2 = 0 then S else C_turnOver S) := by
    split
    · exact h
    · exact C_turnOver_inv h
  exact C_move_inv (InvC.mI (k := 3) h1 (h1.2.2 5 p))
theorem C_reset_l2_inv {N : Int} : ∀ (n : Nat) (v : Int) (S : Sta), 0 ≤ v → InvC N S → InvC N (C_reset_l2 n v S) := by
  intro n
  induction n with
  | zero => intro v S _ h; exact h
  | succ n ih =>
    intro v S hv h
    rw [C_reset_l2_s]
    split
    · exact h
    · exact ih _ _ (by omega) (InvC.mA (k := 1) (InvC.mA (k := 0) h (show 0 ≤ v ∧ v ≤ 3 by omega)) (show 0 ≤ v ∧ v ≤ 7 by omega))
theorem C_reset_inv {N : Int} {S : Sta} (h : InvC N S) : InvC N (C_reset S) := by
  have h1 := C_reset_l2_inv 5 0 S (by decide) h
  have hN := h.1
  have z01 : (0 : Int) ≤ 0 ∧ (0 : Int) ≤ 1 := by decide
  refine InvC.mI (k := 6) (InvC.mI (k := 3) (InvC.mI (k := 2) (InvC.mI (k := 1) (InvC.mI (k := 0) (h1.mW (k := 6) (fun j => ?_)) z01) (show (0 : Int) ≤ 0 ∧ (0 : Int) ≤ 3 by decide)) trivial) (show (0 : Int) ≤ 0 ∧ 0 ≤ N from ⟨by decide, hN.1⟩)) z01
  show -99 ≤ J_fillA_l5 30 (-99) (30 + 1) 0 ((C_reset_l2 5 0 S).2 6) j ∧ J_fillA_l5 30 (-99) (30 + 1) 0 ((C_reset_l2 5 0 S).2 6) j ≤ 7
  rw [J_fillA_l5_sp _ _ _ _ _ (by decide) (by decide)]
  split
  · omega
  · exact h1.2.2 6 j

theorem t_J_265 : Jvm.Cond.constant RJ6 265 (1431655765) ∈ TT := tt_mem 570 (by decide +kernel) (by decide +kernel)
theorem t_J_266 : Jvm.Cond.constant RJ6 266 (858993459) ∈ TT := tt_mem 571 (by decide +kernel) (by decide +kernel)
theorem t_J_267 : Jvm.Cond.constant RJ6 267 (252645135) ∈ TT := tt_mem 572 (by decide +kernel) (by decide +kernel)
def J_bitCount (v : Int) : Int := (zi_and (((zi_and (((zi_and (v - (zi_and (zi_ushr v 1) 1431655765)) 858993459) + (zi_and (zi_ushr (v - (zi_and (zi_ushr v 1) 1431655765)) 2) 858993459)) + (zi_ushr ((zi_and (v - (zi_and (zi_ushr v 1) 1431655765)) 858993459) + (zi_and (zi_ushr (v - (zi_and (zi_ushr v 1) 1431655765)) 2) 858993459)) 4)) 252645135) + (zi_ushr (zi_and (((zi_and (v - (zi_and (zi_ushr v 1) 1431655765)) 858993459) + (zi_and (zi_ushr (v - (zi_and (zi_ushr v 1) 1431655765)) 2) 858993459)) + (zi_ushr ((zi_and (v - (zi_and (zi_ushr v 1) 1431655765)) 858993459) + (zi_and (zi_ushr (v - (zi_and (zi_ushr v 1) 1431655765)) 2) 858993459)) 4)) 252645135) 8)) + (zi_ushr ((zi_and (((zi_and (v - (zi_and (zi_ushr v 1) 1431655765)) 858993459) + (zi_and (zi_ushr (v - (zi_and (zi_ushr v 1) 1431655765)) 2) 858993459)) + (zi_ushr ((zi_and (v - (zi_and (zi_ushr v 1) 1431655765)) 858993459) + (zi_and (zi_ushr (v - (zi_and (zi_ushr v 1) 1431655765)) 2) 858993459)) 4)) 252645135) + (zi_ushr (zi_and (((zi_and (v - (zi_and (zi_ushr v 1) 1431655765)) 858993459) + (zi_and (zi_ushr (v - (zi_and (zi_ushr v 1) 1431655765)) 2) 858993459)) + (zi_ushr ((zi_and (v - (zi_and (zi_ushr v 1) 1431655765)) 858993459) + (zi_and (zi_ushr (v - (zi_and (zi_ushr v 1) 1431655765)) 2) 858993459)) 4)) 252645135) 8)) 16)) 63)
set_option maxRecDepth 100000 in
theorem c_J_bitCount {l : Launch} {K : KK} (v : Int)  : CtI l yJ6_bitCount_0f7a4 cJ6_bitCount_0f7a4 1 .int (0, 0) K [.int (iI v)] [] (J_bitCount v) [] := by
  refine ctI_ofF (by decide +kernel) (Nat.le_of_ble_eq_true rfl) rfl ?_
  intro x X hD hR
  refine gx_iload_n X dJ6_bitCount_0f7a4_0 rfl 0 rfl ?_
  refine gx_iload_n X dJ6_bitCount_0f7a4_1 rfl 0 rfl ?_
  refine gx_iconst (z := 1) X dJ6_bitCount_0f7a4_2 rfl ?_
  refine gx_iushr X dJ6_bitCount_0f7a4_3 ?_
  have ho3 := ok_ushr v 1
  refine gx_ldcw (z := 1431655765) X t_J_265 dJ6_bitCount_0f7a4_4 (by decide) ?_
  refine gx_iand X dJ6_bitCount_0f7a4_7 ?_
  have ho7 := ok_and (zi_ushr v 1) 1431655765
  refine gx_isub X dJ6_bitCount_0f7a4_8 ?_
  refine gx_istore_n X dJ6_bitCount_0f7a4_9 rfl (by decide) rfl ?_
  refine gx_iload_n X dJ6_bitCount_0f7a4_10 rfl 0 rfl ?_
  refine gx_ldcw (z := 858993459) X t_J_266 dJ6_bitCount_0f7a4_11 (by decide) ?_
  refine gx_iand X dJ6_bitCount_0f7a4_14 ?_
  have ho14 := ok_and (v - (zi_and (zi_ushr v 1) 1431655765)) 858993459
  refine gx_iload_n X dJ6_bitCount_0f7a4_15 rfl 0 rfl ?_
  refine gx_iconst (z := 2) X dJ6_bitCount_0f7a4_16 rfl ?_
  refine gx_iushr X dJ6_bitCount_0f7a4_17 ?_
  have ho17 := ok_ushr (v - (zi_and (zi_ushr v 1) 1431655765)) 2
  refine gx_ldcw (z := 858993459) X t_J_266 dJ6_bitCount_0f7a4_18 (by decide) ?_
  refine gx_iand X dJ6_bitCount_0f7a4_21 ?_
  have ho21 := ok_and (zi_ushr (v - (zi_and (zi_ushr v 1) 1431655765)) 2) 858993459
  refine gx_iadd X dJ6_bitCount_0f7a4_22 ?_
  refine gx_istore_n X dJ6_bitCount_0f7a4_23 rfl (by decide) rfl ?_
  refine gx_iload_n X dJ6_bitCount_0f7a4_24 rfl 0 rfl ?_
  refine gx_iload_n X dJ6_bitCount_0f7a4_25 rfl 0 rfl ?_
  refine gx_iconst (z := 4) X dJ6_bitCount_0f7a4_26 rfl ?_
  refine gx_iushr X dJ6_bitCount_0f7a4_27 ?_
  have ho27 := ok_ushr ((zi_and (v - (zi_and (zi_ushr v 1) 1431655765)) 858993459) + (zi_and (zi_ushr (v - (zi_and (zi_ushr v 1) 1431655765)) 2) 858993459)) 4
  refine gx_iadd X dJ6_bitCount_0f7a4_28 ?_
  refine gx_ldcw (z := 252645135) X t_J_267 dJ6_bitCount_0f7a4_29 (by decide) ?_
  refine gx_iand X dJ6_bitCount_0f7a4_32 ?_
  have ho32 := ok_and (((zi_and (v - (zi_and (zi_ushr v 1) 1431655765)) 858993459) + (zi_and (zi_ushr (v - (zi_and (zi_ushr v 1) 1431655765)) 2) 858993459)) + (zi_ushr ((zi_and (v - (zi_and (zi_ushr v 1) 1431655765)) 858993459) + (zi_and (zi_ushr (v - (zi_and (zi_ushr v 1) 1431655765)) 2) 858993459)) 4)) 252645135
  refine gx_istore_n X dJ6_bitCount_0f7a4_33 rfl (by decide) rfl ?_
  refine gx_iload_n X dJ6_bitCount_0f7a4_34 rfl 0 rfl ?_
  refine gx_iload_n X dJ6_bitCount_0f7a4_35 rfl 0 rfl ?_
  refine gx_bipush (z := 8) X dJ6_bitCount_0f7a4_36 (by decide) ?_
  refine gx_iushr X dJ6_bitCount_0f7a4_38 ?_
  have ho38 := ok_ushr (zi_and (((zi_and (v - (zi_and (zi_ushr v 1) 1431655765)) 858993459) + (zi_and (zi_ushr (v - (zi_and (zi_ushr v 1) 1431655765)) 2) 858993459)) + (zi_ushr ((zi_and (v - (zi_and (zi_ushr v 1) 1431655765)) 858993459) + (zi_and (zi_ushr (v - (zi_and (zi_ushr v 1) 1431655765)) 2) 858993459)) 4)) 252645135) 8
  refine gx_iadd X dJ6_bitCount_0f7a4_39 ?_
  refine gx_istore_n X dJ6_bitCount_0f7a4_40 rfl (by decide) rfl ?_
  refine gx_iload_n X dJ6_bitCount_0f7a4_41 rfl 0 rfl ?_
  refine gx_iload_n X dJ6_bitCount_0f7a4_42 rfl 0 rfl ?_
  refine gx_bipush (z := 16) X dJ6_bitCount_0f7a4_43 (by decide) ?_
  refine gx_iushr X dJ6_bitCount_0f7a4_45 ?_
  have ho45 := ok_ushr ((zi_and (((zi_and (v - (zi_and (zi_ushr v 1) 1431655765)) 858993459) + (zi_and (zi_ushr (v - (zi_and (zi_ushr v 1) 1431655765)) 2) 858993459)) + (zi_ushr ((zi_and (v - (zi_and (zi_ushr v 1) 1431655765)) 858993459) + (zi_and (zi_ushr (v - (zi_and (zi_ushr v 1) 1431655765)) 2) 858993459)) 4)) 252645135) + (zi_ushr (zi_and (((zi_and (v - (zi_and (zi_ushr v 1) 1431655765)) 858993459) + (zi_and (zi_ushr (v - (zi_and (zi_ushr v 1) 1431655765)) 2) 858993459)) + (zi_ushr ((zi_and (v - (zi_and (zi_ushr v 1) 1431655765)) 858993459) + (zi_and (zi_ushr (v - (zi_and (zi_ushr v 1) 1431655765)) 2) 858993459)) 4)) 252645135) 8)) 16
  refine gx_iadd X dJ6_bitCount_0f7a4_46 ?_
  refine gx_istore_n X dJ6_bitCount_0f7a4_47 rfl (by decide) rfl ?_
  refine gx_iload_n X dJ6_bitCount_0f7a4_48 rfl 0 rfl ?_
  refine gx_bipush (z := 63) X dJ6_bitCount_0f7a4_49 (by decide) ?_
  refine gx_iand X dJ6_bitCount_0f7a4_51 ?_
  have ho51 := ok_and (((zi_and (((zi_and (v - (zi_and (zi_ushr v 1) 1431655765)) 858993459) + (zi_and (zi_ushr (v - (zi_and (zi_ushr v 1) 1431655765)) 2) 858993459)) + (zi_ushr ((zi_and (v - (zi_and (zi_ushr v 1) 1431655765)) 858993459) + (zi_and (zi_ushr (v - (zi_and (zi_ushr v 1) 1431655765)) 2) 858993459)) 4)) 252645135) + (zi_ushr (zi_and (((zi_and (v - (zi_and (zi_ushr v 1) 1431655765)) 858993459) + (zi_and (zi_ushr (v - (zi_and (zi_ushr v 1) 1431655765)) 2) 858993459)) + (zi_ushr ((zi_and (v - (zi_and (zi_ushr v 1) 1431655765)) 858993459) + (zi_and (zi_ushr (v - (zi_and (zi_ushr v 1) 1431655765)) 2) 858993459)) 4)) 252645135) 8)) + (zi_ushr ((zi_and (((zi_and (v - (zi_and (zi_ushr v 1) 1431655765)) 858993459) + (zi_and (zi_ushr (v - (zi_and (zi_ushr v 1) 1431655765)) 2) 858993459)) + (zi_ushr ((zi_and (v - (zi_and (zi_ushr v 1) 1431655765)) 858993459) + (zi_and (zi_ushr (v - (zi_and (zi_ushr v 1) 1431655765)) 2) 858993459)) 4)) 252645135) + (zi_ushr (zi_and (((zi_and (v - (zi_and (zi_ushr v 1) 1431655765)) 858993459) + (zi_and (zi_ushr (v - (zi_and (zi_ushr v 1) 1431655765)) 2) 858993459)) + (zi_ushr ((zi_and (v - (zi_and (zi_ushr v 1) 1431655765)) 858993459) + (zi_and (zi_ushr (v - (zi_and (zi_ushr v 1) 1431655765)) 2) 858993459)) 4)) 252645135) 8)) 16)) 63
  exact gx_iret hR (rfl) rfl dJ6_bitCount_0f7a4_52
