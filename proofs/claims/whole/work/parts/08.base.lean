/-! BASE: ints by their values, a walk that hides heap and locals (GG), contracts that name answer and world. -/
def iI (z : Int) : Int32 := Int32.ofInt z
abbrev ok32 (z : Int) : Prop := -2147483648 ≤ z ∧ z ≤ 2147483647
theorem iI_toInt {z : Int} (h : ok32 z) : (iI z).toInt = z := Int32.toInt_ofInt_of_le (by have := h.1; omega) (by have := h.2; omega)
theorem iI_of (x : Int32) : x = iI x.toInt := (Int32.ofInt_toInt x).symm
theorem ok_toInt (x : Int32) : ok32 x.toInt := ⟨by have := Int32.le_toInt x; omega, by have := Int32.toInt_lt x; omega⟩
theorem iI_add (a b : Int) : iI a + iI b = iI (a + b) := (Int32.ofInt_add a b).symm
theorem iI_sub (a b : Int) : iI a - iI b = iI (a - b) := (Int32.ofInt_sub a b).symm
theorem iI_mul (a b : Int) : iI a * iI b = iI (a * b) := (Int32.ofInt_mul a b).symm
theorem iI_neg (a : Int) : -iI a = iI (-a) := (Int32.ofInt_neg a).symm
theorem iI_lt {a b : Int} (ha : ok32 a) (hb : ok32 b) : iI a < iI b ↔ a < b := by rw [Int32.lt_iff_toInt_lt, iI_toInt ha, iI_toInt hb]
theorem iI_le {a b : Int} (ha : ok32 a) (hb : ok32 b) : iI a ≤ iI b ↔ a ≤ b := by rw [Int32.le_iff_toInt_le, iI_toInt ha, iI_toInt hb]
theorem iI_eq {a b : Int} (ha : ok32 a) (hb : ok32 b) : iI a = iI b ↔ a = b := by rw [← Int32.toInt_inj, iI_toInt ha, iI_toInt hb]
theorem iI_z : iI 0 = 0 := rfl
theorem ok_z : ok32 0 := by decide
theorem iI_clamp {z : Int} (h : ok32 z) : (iI z).toNatClampNeg = z.toNat := by
  show (iI z).toInt.toNat = _
  rw [iI_toInt h]
theorem iI_in {z : Int} {n : Nat} (h0 : 0 ≤ z) (h1 : z < (n : Int)) (h2 : z ≤ 2147483647) : vp_in (iI z) n := by
  rw [vp_in_iff, iI_toInt ⟨by omega, h2⟩]
  exact ⟨h0, h1⟩
def zi_and (a b : Int) : Int := (iI a &&& iI b).toInt
def zi_or (a b : Int) : Int := (iI a ||| iI b).toInt
def zi_xor (a b : Int) : Int := (iI a ^^^ iI b).toInt
def zi_shl (a b : Int) : Int := (iI a <<< (iI b &&& 31)).toInt
def zi_shr (a b : Int) : Int := (iI a >>> (iI b &&& 31)).toInt
theorem ok_and (a b : Int) : ok32 (zi_and a b) := ok_toInt _
theorem ok_or (a b : Int) : ok32 (zi_or a b) := ok_toInt _
theorem ok_xor (a b : Int) : ok32 (zi_xor a b) := ok_toInt _
theorem ok_shl (a b : Int) : ok32 (zi_shl a b) := ok_toInt _
theorem ok_shr (a b : Int) : ok32 (zi_shr a b) := ok_toInt _
theorem iI_div {a b : Int} (ha : 0 ≤ a) (ha2 : a ≤ 2147483647) (hb : 0 < b) (hb2 : b ≤ 2147483647) : iI a / iI b = iI (a / b) := by
  apply Int32.toInt_inj.mp
  have hd : a / b ≤ a := Int.ediv_le_self b ha
  have hd0 : 0 ≤ a / b := Int.ediv_nonneg ha (by omega)
  rw [Int32.toInt_div_of_ne_left, iI_toInt ⟨by omega, ha2⟩, iI_toInt ⟨by omega, hb2⟩, iI_toInt ⟨by omega, by omega⟩, Int.tdiv_eq_ediv_of_nonneg ha]
  intro h
  have h2 := congrArg Int32.toInt h
  rw [iI_toInt ⟨by omega, ha2⟩] at h2
  have h3 : Int32.minValue.toInt = -2147483648 := by decide
  omega
theorem iI_rem {a b : Int} (ha : 0 ≤ a) (ha2 : a ≤ 2147483647) (hb : 0 < b) (hb2 : b ≤ 2147483647) : iI a - iI a / iI b * iI b = iI (a % b) := by
  rw [iI_div ha ha2 hb hb2, iI_mul, iI_sub]
  congr 1
  have := Int.emod_add_mul_ediv a b
  have h2 : a / b * b = b * (a / b) := Int.mul_comm _ _
  omega
theorem iI_ne0 {b : Int} (hb : 0 < b) (hb2 : b ≤ 2147483647) : ¬ iI b = 0 := by
  rw [← iI_z, iI_eq ⟨by omega, hb2⟩ ok_z]
  omega
/-- arrays by functions on Int -/
def ia (g : Int → Int) : Nat → Int32 := fun j => iI (g (j : Int))
def la (g : Int → Int64) : Nat → Int64 := fun j => g (j : Int)
def iu {α : Type} (g : Int → α) (z : Int) (v : α) : Int → α := fun j => if j = z then v else g j
theorem iu_same {α : Type} (g : Int → α) (z : Int) (v : α) : iu g z v z = v := if_pos rfl
theorem iu_ne {α : Type} (g : Int → α) {z j : Int} (v : α) (h : j ≠ z) : iu g z v j = g j := if_neg h
theorem ia_rd {g : Int → Int} {z : Int} (h0 : 0 ≤ z) (h2 : z ≤ 2147483647) : ia g (iI z).toNatClampNeg = iI (g z) := by
  rw [iI_clamp ⟨by omega, h2⟩, ia, Int.toNat_of_nonneg h0]
theorem ia_wr {g : Int → Int} {z v : Int} (h0 : 0 ≤ z) (h2 : z ≤ 2147483647) : upd (ia g) (iI z).toNatClampNeg (iI v) = ia (iu g z v) := by
  rw [iI_clamp ⟨by omega, h2⟩]
  funext j
  by_cases h : j = z.toNat
  · subst h
    simp [upd, ia, iu, Int.toNat_of_nonneg h0]
  · have : ¬ (j : Int) = z := by omega
    simp [upd, ia, iu, h, this]
theorem la_rd {g : Int → Int64} {z : Int} (h0 : 0 ≤ z) (h2 : z ≤ 2147483647) : la g (iI z).toNatClampNeg = g z := by
  rw [iI_clamp ⟨by omega, h2⟩, la, Int.toNat_of_nonneg h0]
theorem la_wr {g : Int → Int64} {z : Int} {v : Int64} (h0 : 0 ≤ z) (h2 : z ≤ 2147483647) : vp_updL (la g) (iI z).toNatClampNeg v = la (iu g z v) := by
  rw [iI_clamp ⟨by omega, h2⟩]
  funext j
  by_cases h : j = z.toNat
  · subst h
    simp [vp_updL, la, iu, Int.toNat_of_nonneg h0]
  · have : ¬ (j : Int) = z := by omega
    simp [vp_updL, la, iu, h, this]
def lI (z : Int) : Int64 := Int64.ofInt z
def zcmp (a b : Int) : Int := if b < a then 1 else if a = b then 0 else -1
theorem zcmp_ok (a b : Int) : -1 ≤ zcmp a b ∧ zcmp a b ≤ 1 := by unfold zcmp; omega
theorem zcmp_lt (a b : Int) : zcmp a b < 0 ↔ a < b := by unfold zcmp; omega
theorem zcmp_gt (a b : Int) : 0 < zcmp a b ↔ b < a := by unfold zcmp; omega
def zcr (a b : Int64) : Int := if b < a then 1 else if a = b then 0 else -1
theorem zcr_ok (a b : Int64) : -1 ≤ zcr a b ∧ zcr a b ≤ 1 := by
  unfold zcr
  split
  · omega
  · split <;> omega
theorem lI_toInt {z : Int} (h : ok32 z) : (lI z).toInt = z := Int64.toInt_ofInt_of_le (by have := h.1; omega) (by have := h.2; omega)
theorem lI_lt {a b : Int} (ha : ok32 a) (hb : ok32 b) : lI a < lI b ↔ a < b := by rw [Int64.lt_iff_toInt_lt, lI_toInt ha, lI_toInt hb]
theorem lI_eq {a b : Int} (ha : ok32 a) (hb : ok32 b) : lI a = lI b ↔ a = b := by rw [← Int64.toInt_inj, lI_toInt ha, lI_toInt hb]
theorem lI_i2l {a : Int} (h : ok32 a) : (iI a).toInt64 = lI a := by
  apply Int64.toInt_inj.mp
  rw [Int32.toInt_toInt64, iI_toInt h, lI_toInt h]
theorem lI_cmp {a b : Int} (ha : ok32 a) (hb : ok32 b) : lg_cmp (lI a) (lI b) = iI (zcmp a b) := by
  unfold lg_cmp zcmp
  simp only [gt_iff_lt]
  by_cases h1 : b < a
  · rw [if_pos h1, if_pos ((lI_lt hb ha).mpr h1)]; rfl
  · rw [if_neg h1, if_neg (fun h => h1 ((lI_lt hb ha).mp h))]
    by_cases h2 : a = b
    · rw [if_pos h2, if_pos (by rw [h2])]; rfl
    · rw [if_neg h2, if_neg (fun h => h2 ((lI_eq ha hb).mp h))]; rfl
theorem lr_cmp (a b : Int64) : lg_cmp a b = iI (zcr a b) := by
  unfold lg_cmp zcr
  simp only [gt_iff_lt]
  by_cases h1 : b < a
  · rw [if_pos h1, if_pos h1]; rfl
  · rw [if_neg h1, if_neg h1]
    by_cases h2 : a = b
    · rw [if_pos h2, if_pos h2]; rfl
    · rw [if_neg h2, if_neg h2]; rfl
def zl_shl (a : Int64) (b : Int) : Int64 := a <<< ((iI b).toInt64 &&& 63)
def zl_ushr (a : Int64) (b : Int) : Int64 := (a.toUInt64 >>> ((iI b).toInt64.toUInt64 &&& Int64.toUInt64 63)).toInt64
theorem narrow_bool {z : Int} (h : z = 0 ∨ z = 1) : narrow .boolean (.int (iI z)) = .int (iI z) := by
  rcases h with rfl | rfl <;> decide
theorem shl1_rg (n : Int) (h : 1 ≤ n ∧ n ≤ 16) : 2 ≤ zi_shl 1 n ∧ zi_shl 1 n ≤ 65536 := by
  have h2 : n = 1 ∨ n = 2 ∨ n = 3 ∨ n = 4 ∨ n = 5 ∨ n = 6 ∨ n = 7 ∨ n = 8 ∨ n = 9 ∨ n = 10 ∨ n = 11 ∨ n = 12 ∨ n = 13 ∨ n = 14 ∨ n = 15 ∨ n = 16 := by omega
  rcases h2 with rfl | rfl | rfl | rfl | rfl | rfl | rfl | rfl | rfl | rfl | rfl | rfl | rfl | rfl | rfl | rfl <;> decide
theorem ret2 {α β : Type} {a : α × β} {r : α} {s : β} (w : β → va_W) (h : a = (r, s)) : w a.2 = w s := by rw [h]
/-! GG: the walk at (world, pc, named locals, stack); heap, write-list and locals array are hidden. -/
def rmK (k : Nat × Nat) : Room := { frames := k.1, cells := 0, slots := 0, locals := k.2 }
abbrev KK : Type := va_G × (ClassId × ClassId × ClassId)
def kt (K : KK) : List (ClassId × FieldType) := [(K.2.1, .int), (K.2.2.1, .long), (K.2.2.2, .object "TurnedCards$Card")]
/-- an int array of n places, a long array, an array of references -/
def zA (K : KK) (n : Nat) (g : Int → Int) : va_E := .inl (K.2.1, n, .inl (ia g))
def zL (K : KK) (n : Nat) (g : Int → Int64) : va_E := .inl (K.2.2.1, n, .inr (.inl (la g)))
def zR (K : KK) (n : Nat) (f : Nat → Option Nat) : va_E := .inl (K.2.2.2, n, .inr (.inr (.inr (.inr f))))
abbrev Cx : Type := Program × Env × State × MethodId × Array Value × List Frame × Method × Code × (State → Prop) × (Nat → Prop) × Nat × Nat
def cx_p (x : Cx) : Program := x.1
def cx_e (x : Cx) : Env := x.2.1
def cx_s (x : Cx) : State := x.2.2.1
def cx_m (x : Cx) : MethodId := x.2.2.2.1
def cx_a (x : Cx) : Array Value := x.2.2.2.2.1
def cx_b (x : Cx) : List Frame := x.2.2.2.2.2.1
def cx_t (x : Cx) : Method := x.2.2.2.2.2.2.1
def cx_c (x : Cx) : Code := x.2.2.2.2.2.2.2.1
def cx_Q (x : Cx) : State → Prop := x.2.2.2.2.2.2.2.2.1
def cx_A (x : Cx) : Nat → Prop := x.2.2.2.2.2.2.2.2.2.1
def cx_k (x : Cx) : Nat := x.2.2.2.2.2.2.2.2.2.2.1
def cx_z (x : Cx) : Nat := x.2.2.2.2.2.2.2.2.2.2.2
def WW (l : Launch) (R : Room) (x : Cx) (H : Heap) (locs : List Loc) (g : JFrame) : Prop := W (cx_p x) l (cx_e x) R (cx_s x) (cx_m x) (cx_a x) (cx_b x) (cx_t x) (cx_c x) H locs (cx_k x) (cx_z x) (cx_Q x) g
def GG (l : Launch) (R : Room) (K : KK) (x : Cx) (ws : va_W) (pc : Nat) (lv : List (Nat × Value)) (st : List Value) : Prop :=
  ∀ (H : Heap) (locs : List Loc) (ls : Array Slot), va_P K.1 vwCl ws H → va_S (cx_A x) (cx_s x).heap H locs → lv_has ls (cx_c x).maxLocals lv → WW l R x H locs (F0 (cx_m x) pc ls st)
def OK (l : Launch) (R : Room) (K : KK) (x : Cx) (cc : ByteArray) (nL : Nat) (own : String) : Prop :=
  (CallFix (cx_p x) (cx_m x) (cx_c x) cc nL (cx_s x) (cx_a x) TT own ∧ va_K K.1 vwCl (kt K) (cx_s x)) ∧ (∀ q : Nat, (cx_s x).heap.size ≤ q → cx_A x q) ∧ cx_k x ≤ R.cells ∧ cx_z x ≤ R.slots ∧ l = l
section GGR
variable {l : Launch} {R : Room} {K : KK} {x : Cx} {cc : ByteArray} {nL : Nat} {own : String} {ws : va_W} {pc : Nat} {lv : List (Nat × Value)} {st : List Value}
theorem gx_sub {lv' : List (Nat × Value)} (ks : List Nat) (hl : lv_pick lv ks = lv') (kk : GG l R K x ws pc lv' st) : GG l R K x ws pc lv st :=
  fun H locs ls hP hS h => kk H locs ls hP hS (lv_sub h ks hl)
theorem gx_eq {ws' : va_W} {lv' : List (Nat × Value)} {st' : List Value} (kk : GG l R K x ws' pc lv' st') (h1 : ws' = ws) (h2 : lv' = lv) (h3 : st' = st) : GG l R K x ws pc lv st := by subst h1; subst h2; subst h3; exact kk
theorem gx_iconst (X : OK l R K x cc nL own) {n z : Int} (hdg : decode cc pc = .ok (.iconst n, 1)) (hv : n = z) (kk : GG l R K x ws (pc + 1) lv (.int (iI z) :: st)) : GG l R K x ws pc lv (st) := by
  intro H locs ls hP hS hl
  exact lv_iconst X.1.1.1 X.1.1.2.1 hdg (by rw [hv]; rfl) (kk H locs ls hP hS hl)
theorem gx_bipush (X : OK l R K x cc nL own) {n z : Int} (hdg : decode cc pc = .ok (.bipush n, 2)) (hv : (Int8.ofInt n).toInt32 = iI z) (kk : GG l R K x ws (pc + 2) lv (.int (iI z) :: st)) : GG l R K x ws pc lv (st) := by
  intro H locs ls hP hS hl
  exact lv_bipush X.1.1.1 X.1.1.2.1 hdg hv (kk H locs ls hP hS hl)
theorem gx_sipush (X : OK l R K x cc nL own) {n z : Int} (hdg : decode cc pc = .ok (.sipush n, 3)) (hv : (Int16.ofInt n).toInt32 = iI z) (kk : GG l R K x ws (pc + 3) lv (.int (iI z) :: st)) : GG l R K x ws pc lv (st) := by
  intro H locs ls hP hS hl
  exact lv_sipush X.1.1.1 X.1.1.2.1 hdg hv (kk H locs ls hP hS hl)
theorem gx_ldc (X : OK l R K x cc nL own) {i : Nat} {v : Int32} {z : Int} (hm : Jvm.Cond.constant own i v ∈ TT) (hdg : decode cc pc = .ok (.ldc i, 2)) (hv : v = iI z) (kk : GG l R K x ws (pc + 2) lv (.int (iI z) :: st)) : GG l R K x ws pc lv (st) := by
  intro H locs ls hP hS hl
  exact lv_ldc X.1.1.1 X.1.1.2.1 X.1.1.2.2.2.1 (X.1.1.2.2.2.2 _ hm) hdg (hv ▸ (kk H locs ls hP hS hl))
theorem gx_ldc2 (X : OK l R K x cc nL own) {i : Nat} {v : Int64} (hm : Jvm.Cond.constantLong own i v ∈ TT) (hdg : decode cc pc = .ok (.ldc2_w i, 3)) (kk : GG l R K x ws (pc + 3) lv (.long v :: st)) : GG l R K x ws pc lv (st) := by
  intro H locs ls hP hS hl
  exact lv_ldc2 X.1.1.1 X.1.1.2.1 X.1.1.2.2.2.1 (X.1.1.2.2.2.2 _ hm) hdg (kk H locs ls hP hS hl)
theorem gx_lconst (X : OK l R K x cc nL own) {n : Fin 2} {v : Int64} (hdg : decode cc pc = .ok (.lconst n, 1)) (hv : Int64.ofNat (n : Nat) = v) (kk : GG l R K x ws (pc + 1) lv (.long v :: st)) : GG l R K x ws pc lv (st) := by
  intro H locs ls hP hS hl
  exact lv_lconst X.1.1.1 X.1.1.2.1 hdg hv (kk H locs ls hP hS hl)
theorem gx_iload_n (X : OK l R K x cc nL own) {k : Fin 4} {i : Nat} {v : Int32} (hdg : decode cc pc = .ok (.iload_n k, 1)) (hi : (k : Nat) = i) (j : Nat) (hj : lv[j]? = some (i, .int v)) (kk : GG l R K x ws (pc + 1) lv (.int v :: st)) : GG l R K x ws pc lv (st) := by
  intro H locs ls hP hS hl
  exact lv_iload_n X.1.1.1 X.1.1.2.1 hdg hi (lv_at hl j hj) (kk H locs ls hP hS hl)
theorem gx_iload (X : OK l R K x cc nL own) {i : Nat} {v : Int32} (hdg : decode cc pc = .ok (.iload i, 2)) (j : Nat) (hj : lv[j]? = some (i, .int v)) (kk : GG l R K x ws (pc + 2) lv (.int v :: st)) : GG l R K x ws pc lv (st) := by
  intro H locs ls hP hS hl
  exact lv_iload X.1.1.1 X.1.1.2.1 hdg (lv_at hl j hj) (kk H locs ls hP hS hl)
theorem gx_lload_n (X : OK l R K x cc nL own) {k : Fin 4} {i : Nat} {v : Int64} (hdg : decode cc pc = .ok (.lload_n k, 1)) (hi : (k : Nat) = i) (j : Nat) (hj : lv[j]? = some (i, .long v)) (kk : GG l R K x ws (pc + 1) lv (.long v :: st)) : GG l R K x ws pc lv (st) := by
  intro H locs ls hP hS hl
  exact lv_lload_n X.1.1.1 X.1.1.2.1 hdg hi (lv_at hl j hj) (kk H locs ls hP hS hl)
theorem gx_lload (X : OK l R K x cc nL own) {i : Nat} {v : Int64} (hdg : decode cc pc = .ok (.lload i, 2)) (j : Nat) (hj : lv[j]? = some (i, .long v)) (kk : GG l R K x ws (pc + 2) lv (.long v :: st)) : GG l R K x ws pc lv (st) := by
  intro H locs ls hP hS hl
  exact lv_lload X.1.1.1 X.1.1.2.1 hdg (lv_at hl j hj) (kk H locs ls hP hS hl)
theorem gx_aload_n (X : OK l R K x cc nL own) {k : Fin 4} {i : Nat} {v : Nat} (hdg : decode cc pc = .ok (.aload_n k, 1)) (hi : (k : Nat) = i) (j : Nat) (hj : lv[j]? = some (i, .ref v)) (kk : GG l R K x ws (pc + 1) lv (.ref v :: st)) : GG l R K x ws pc lv (st) := by
  intro H locs ls hP hS hl
  exact lv_aload_n X.1.1.1 X.1.1.2.1 hdg hi (lv_at hl j hj) (kk H locs ls hP hS hl)
theorem gx_aload (X : OK l R K x cc nL own) {i : Nat} {v : Nat} (hdg : decode cc pc = .ok (.aload i, 2)) (j : Nat) (hj : lv[j]? = some (i, .ref v)) (kk : GG l R K x ws (pc + 2) lv (.ref v :: st)) : GG l R K x ws pc lv (st) := by
  intro H locs ls hP hS hl
  exact lv_aload X.1.1.1 X.1.1.2.1 hdg (lv_at hl j hj) (kk H locs ls hP hS hl)
theorem gx_istore_n (X : OK l R K x cc nL own) {k : Fin 4} {i : Nat} {v : Int32} {lv' : List (Nat × Value)} (hdg : decode cc pc = .ok (.istore_n k, 1)) (hi : (k : Nat) = i) (hn : i < nL) (hl9 : (i, Value.int v) :: lv.filter (fun q => !(q.1 == i) && !(q.1 + 1 == i && q.2.category == 2)) = lv') (kk : GG l R K x ws (pc + 1) lv' st) : GG l R K x ws pc lv (.int v :: st) := by
  intro H locs ls hP hS hl
  exact lv_istore_n X.1.1.1 X.1.1.2.1 hdg hi hl (by rw [X.1.1.2.2.1]; exact hn) hl9 (fun ls' h' => kk H locs ls' hP hS h')
theorem gx_istore (X : OK l R K x cc nL own) {i : Nat} {v : Int32} {lv' : List (Nat × Value)} (hdg : decode cc pc = .ok (.istore i, 2)) (hn : i < nL) (hl9 : (i, Value.int v) :: lv.filter (fun q => !(q.1 == i) && !(q.1 + 1 == i && q.2.category == 2)) = lv') (kk : GG l R K x ws (pc + 2) lv' st) : GG l R K x ws pc lv (.int v :: st) := by
  intro H locs ls hP hS hl
  exact lv_istore X.1.1.1 X.1.1.2.1 hdg hl (by rw [X.1.1.2.2.1]; exact hn) hl9 (fun ls' h' => kk H locs ls' hP hS h')
theorem gx_astore_n (X : OK l R K x cc nL own) {k : Fin 4} {i : Nat} {v : Nat} {lv' : List (Nat × Value)} (hdg : decode cc pc = .ok (.astore_n k, 1)) (hi : (k : Nat) = i) (hn : i < nL) (hl9 : (i, Value.ref v) :: lv.filter (fun q => !(q.1 == i) && !(q.1 + 1 == i && q.2.category == 2)) = lv') (kk : GG l R K x ws (pc + 1) lv' st) : GG l R K x ws pc lv (.ref v :: st) := by
  intro H locs ls hP hS hl
  exact lv_astore_n X.1.1.1 X.1.1.2.1 hdg hi hl (by rw [X.1.1.2.2.1]; exact hn) hl9 (fun ls' h' => kk H locs ls' hP hS h')
theorem gx_astore (X : OK l R K x cc nL own) {i : Nat} {v : Nat} {lv' : List (Nat × Value)} (hdg : decode cc pc = .ok (.astore i, 2)) (hn : i < nL) (hl9 : (i, Value.ref v) :: lv.filter (fun q => !(q.1 == i) && !(q.1 + 1 == i && q.2.category == 2)) = lv') (kk : GG l R K x ws (pc + 2) lv' st) : GG l R K x ws pc lv (.ref v :: st) := by
  intro H locs ls hP hS hl
  exact lv_astore X.1.1.1 X.1.1.2.1 hdg hl (by rw [X.1.1.2.2.1]; exact hn) hl9 (fun ls' h' => kk H locs ls' hP hS h')
theorem gx_lstore (X : OK l R K x cc nL own) {i : Nat} {v : Int64} {lv' : List (Nat × Value)} (hdg : decode cc pc = .ok (.lstore i, 2)) (hn : i + 1 < nL) (hl9 : (i, Value.long v) :: lv.filter (fun q => !(q.1 == i) && (!(q.1 == i + 1) && !(q.1 + 1 == i && q.2.category == 2))) = lv') (kk : GG l R K x ws (pc + 2) lv' st) : GG l R K x ws pc lv (.long v :: st) := by
  intro H locs ls hP hS hl
  exact lv_lstore X.1.1.1 X.1.1.2.1 hdg hl (by rw [X.1.1.2.2.1]; exact hn) hl9 (fun ls' h' => kk H locs ls' hP hS h')
theorem gx_iinc (X : OK l R K x cc nL own) {i : Nat} {n z : Int} {lv' : List (Nat × Value)} (hdg : decode cc pc = .ok (.iinc i n, 3)) (j : Nat) (hj : lv[j]? = some (i, .int (iI z))) (hn : i < nL) (hl9 : (i, Value.int (iI (z + n))) :: lv.filter (fun q => !(q.1 == i) && !(q.1 + 1 == i && q.2.category == 2)) = lv') (kk : GG l R K x ws (pc + 3) lv' st) : GG l R K x ws pc lv st := by
  intro H locs ls hP hS hl
  exact lv_iinc X.1.1.1 X.1.1.2.1 hdg hl hj (v := iI (z + n)) (iI_add z n) (by rw [X.1.1.2.2.1]; exact hn) hl9 (fun ls' h' => kk H locs ls' hP hS h')
theorem gx_dup (X : OK l R K x cc nL own) {v : Value} (hdg : decode cc pc = .ok (.dup, 1)) (hc : v.category = 1) (kk : GG l R K x ws (pc + 1) lv (v :: v :: st)) : GG l R K x ws pc lv (v :: st) := by
  intro H locs ls hP hS hl
  exact lv_dup X.1.1.1 X.1.1.2.1 hdg hc (kk H locs ls hP hS hl)
theorem gx_iadd (X : OK l R K x cc nL own) {a b : Int} (hdg : decode cc pc = .ok (.iadd, 1)) (kk : GG l R K x ws (pc + 1) lv (.int (iI (a + b)) :: st)) : GG l R K x ws pc lv (.int (iI b) :: .int (iI a) :: st) := by
  intro H locs ls hP hS hl
  exact lv_iadd X.1.1.1 X.1.1.2.1 hdg (iI_add a b ▸ (kk H locs ls hP hS hl))
theorem gx_isub (X : OK l R K x cc nL own) {a b : Int} (hdg : decode cc pc = .ok (.isub, 1)) (kk : GG l R K x ws (pc + 1) lv (.int (iI (a - b)) :: st)) : GG l R K x ws pc lv (.int (iI b) :: .int (iI a) :: st) := by
  intro H locs ls hP hS hl
  exact lv_isub X.1.1.1 X.1.1.2.1 hdg (iI_sub a b ▸ (kk H locs ls hP hS hl))
theorem gx_imul (X : OK l R K x cc nL own) {a b : Int} (hdg : decode cc pc = .ok (.imul, 1)) (kk : GG l R K x ws (pc + 1) lv (.int (iI (a * b)) :: st)) : GG l R K x ws pc lv (.int (iI b) :: .int (iI a) :: st) := by
  intro H locs ls hP hS hl
  exact lv_imul X.1.1.1 X.1.1.2.1 hdg (iI_mul a b ▸ (kk H locs ls hP hS hl))
theorem gx_ineg (X : OK l R K x cc nL own) {a : Int} (hdg : decode cc pc = .ok (.ineg, 1)) (kk : GG l R K x ws (pc + 1) lv (.int (iI (-a)) :: st)) : GG l R K x ws pc lv (.int (iI a) :: st) := by
  intro H locs ls hP hS hl
  exact lv_ineg X.1.1.1 X.1.1.2.1 hdg (iI_neg a ▸ (kk H locs ls hP hS hl))
theorem gx_iand (X : OK l R K x cc nL own) {a b : Int} (hdg : decode cc pc = .ok (.iand, 1)) (kk : GG l R K x ws (pc + 1) lv (.int (iI (zi_and a b)) :: st)) : GG l R K x ws pc lv (.int (iI b) :: .int (iI a) :: st) := by
  intro H locs ls hP hS hl
  exact lv_iand X.1.1.1 X.1.1.2.1 hdg (by rw [show _ = iI (zi_and a b) from iI_of _]; exact (kk H locs ls hP hS hl))
theorem gx_ior (X : OK l R K x cc nL own) {a b : Int} (hdg : decode cc pc = .ok (.ior, 1)) (kk : GG l R K x ws (pc + 1) lv (.int (iI (zi_or a b)) :: st)) : GG l R K x ws pc lv (.int (iI b) :: .int (iI a) :: st) := by
  intro H locs ls hP hS hl
  exact lv_ior X.1.1.1 X.1.1.2.1 hdg (by rw [show _ = iI (zi_or a b) from iI_of _]; exact (kk H locs ls hP hS hl))
theorem gx_ixor (X : OK l R K x cc nL own) {a b : Int} (hdg : decode cc pc = .ok (.ixor, 1)) (kk : GG l R K x ws (pc + 1) lv (.int (iI (zi_xor a b)) :: st)) : GG l R K x ws pc lv (.int (iI b) :: .int (iI a) :: st) := by
  intro H locs ls hP hS hl
  exact lv_ixor X.1.1.1 X.1.1.2.1 hdg (by rw [show _ = iI (zi_xor a b) from iI_of _]; exact (kk H locs ls hP hS hl))
theorem gx_ishl (X : OK l R K x cc nL own) {a b : Int} (hdg : decode cc pc = .ok (.ishl, 1)) (kk : GG l R K x ws (pc + 1) lv (.int (iI (zi_shl a b)) :: st)) : GG l R K x ws pc lv (.int (iI b) :: .int (iI a) :: st) := by
  intro H locs ls hP hS hl
  exact lv_ishl X.1.1.1 X.1.1.2.1 hdg (by rw [show _ = iI (zi_shl a b) from iI_of _]; exact (kk H locs ls hP hS hl))
theorem gx_ishr (X : OK l R K x cc nL own) {a b : Int} (hdg : decode cc pc = .ok (.ishr, 1)) (kk : GG l R K x ws (pc + 1) lv (.int (iI (zi_shr a b)) :: st)) : GG l R K x ws pc lv (.int (iI b) :: .int (iI a) :: st) := by
  intro H locs ls hP hS hl
  exact lv_ishr X.1.1.1 X.1.1.2.1 hdg (by rw [show _ = iI (zi_shr a b) from iI_of _]; exact (kk H locs ls hP hS hl))
theorem gx_irem (X : OK l R K x cc nL own) {a b : Int} (hdg : decode cc pc = .ok (.irem, 1)) (h : 0 ≤ a ∧ a ≤ 2147483647 ∧ 0 < b ∧ b ≤ 2147483647) (kk : GG l R K x ws (pc + 1) lv (.int (iI (a % b)) :: st)) : GG l R K x ws pc lv (.int (iI b) :: .int (iI a) :: st) := by
  intro H locs ls hP hS hl
  exact lv_irem X.1.1.1 X.1.1.2.1 hdg (iI_ne0 h.2.2.1 h.2.2.2) (iI_rem h.1 h.2.1 h.2.2.1 h.2.2.2 ▸ (kk H locs ls hP hS hl))
theorem gx_idiv (X : OK l R K x cc nL own) {a b : Int} (hdg : decode cc pc = .ok (.idiv, 1)) (h : 0 ≤ a ∧ a ≤ 2147483647 ∧ 0 < b ∧ b ≤ 2147483647) (kk : GG l R K x ws (pc + 1) lv (.int (iI (a / b)) :: st)) : GG l R K x ws pc lv (.int (iI b) :: .int (iI a) :: st) := by
  intro H locs ls hP hS hl
  exact lv_idiv X.1.1.1 X.1.1.2.1 hdg (iI_ne0 h.2.2.1 h.2.2.2) (iI_div h.1 h.2.1 h.2.2.1 h.2.2.2 ▸ (kk H locs ls hP hS hl))
theorem gx_land (X : OK l R K x cc nL own) {a b : Int64} (hdg : decode cc pc = .ok (.land, 1)) (kk : GG l R K x ws (pc + 1) lv (.long (a &&& b) :: st)) : GG l R K x ws pc lv (.long b :: .long a :: st) := by
  intro H locs ls hP hS hl
  exact lv_land X.1.1.1 X.1.1.2.1 hdg (kk H locs ls hP hS hl)
theorem gx_lor (X : OK l R K x cc nL own) {a b : Int64} (hdg : decode cc pc = .ok (.lor, 1)) (kk : GG l R K x ws (pc + 1) lv (.long (a ||| b) :: st)) : GG l R K x ws pc lv (.long b :: .long a :: st) := by
  intro H locs ls hP hS hl
  exact lv_lor X.1.1.1 X.1.1.2.1 hdg (kk H locs ls hP hS hl)
theorem gx_i2l (X : OK l R K x cc nL own) {a : Int} (hdg : decode cc pc = .ok (.i2l, 1)) (h : ok32 a) (kk : GG l R K x ws (pc + 1) lv (.long (lI a) :: st)) : GG l R K x ws pc lv (.int (iI a) :: st) := by
  intro H locs ls hP hS hl
  exact lv_i2l X.1.1.1 X.1.1.2.1 hdg (lI_i2l h) (kk H locs ls hP hS hl)
theorem gx_lshl (X : OK l R K x cc nL own) {a v : Int64} {b : Int} (hdg : decode cc pc = .ok (.lshl, 1)) (hv : a <<< ((iI b).toInt64 &&& 63) = v) (kk : GG l R K x ws (pc + 1) lv (.long v :: st)) : GG l R K x ws pc lv (.int (iI b) :: .long a :: st) := by
  intro H locs ls hP hS hl
  exact lv_lshl X.1.1.1 X.1.1.2.1 hdg hv (kk H locs ls hP hS hl)
theorem gx_lushr (X : OK l R K x cc nL own) {a v : Int64} {b : Int} (hdg : decode cc pc = .ok (.lushr, 1)) (hv : (a.toUInt64 >>> ((iI b).toInt64.toUInt64 &&& Int64.toUInt64 63)).toInt64 = v) (kk : GG l R K x ws (pc + 1) lv (.long v :: st)) : GG l R K x ws pc lv (.int (iI b) :: .long a :: st) := by
  intro H locs ls hP hS hl
  exact lv_lushr X.1.1.1 X.1.1.2.1 hdg hv (kk H locs ls hP hS hl)
theorem gx_lcmpi (X : OK l R K x cc nL own) {a b : Int} (hdg : decode cc pc = .ok (.lcmp, 1)) (h : ok32 a ∧ ok32 b) (kk : GG l R K x ws (pc + 1) lv (.int (iI (zcmp a b)) :: st)) : GG l R K x ws pc lv (.long (lI b) :: .long (lI a) :: st) := by
  intro H locs ls hP hS hl
  exact W.lcmp X.1.1.1 X.1.1.2.1 hdg (by rw [lI_cmp h.1 h.2]; exact (kk H locs ls hP hS hl))
theorem gx_lcmpr (X : OK l R K x cc nL own) {a b : Int64} (hdg : decode cc pc = .ok (.lcmp, 1)) (kk : GG l R K x ws (pc + 1) lv (.int (iI (zcr a b)) :: st)) : GG l R K x ws pc lv (.long b :: .long a :: st) := by
  intro H locs ls hP hS hl
  exact W.lcmp X.1.1.1 X.1.1.2.1 hdg (by rw [lr_cmp]; exact (kk H locs ls hP hS hl))
theorem gx_dup2 (X : OK l R K x cc nL own) {v w : Value} (hdg : decode cc pc = .ok (.dup2, 1)) (hv : v.category = 1) (hw : w.category = 1) (kk : GG l R K x ws (pc + 1) lv (v :: w :: v :: w :: st)) : GG l R K x ws pc lv (v :: w :: st) := by
  intro H locs ls hP hS hl
  exact lv_dup2_11 X.1.1.1 X.1.1.2.1 hdg hv hw (kk H locs ls hP hS hl)
theorem gx_switchIn (X : OK l R K x cc nL own) {dflt lo hi : Int} {offs : Array Int} {len : Nat} {a : Int} {off : Int} {tgt : Nat} (hdg : decode cc pc = .ok (.tableswitch dflt lo hi offs, len)) (k : Int) (hk : a = k) (hr : ok32 k) (hb : lo ≤ k ∧ k ≤ hi) (ho : offs[(k - lo).toNat]? = some off) (ht : (pc : Int) + off = (tgt : Int)) (kk : GG l R K x ws tgt lv st) : GG l R K x ws pc lv (.int (iI a) :: st) := by
  intro H locs ls hP hS hl
  subst hk
  exact lv_tableIn X.1.1.1 X.1.1.2.1 hdg (by rw [iI_toInt hr]; omega) (by rw [iI_toInt hr]; omega) (by rw [iI_toInt hr]; exact ho) ht (kk H locs ls hP hS hl)
theorem gx_switchOut (X : OK l R K x cc nL own) {dflt lo hi : Int} {offs : Array Int} {len : Nat} {a : Int} {tgt : Nat} (hdg : decode cc pc = .ok (.tableswitch dflt lo hi offs, len)) (hr : ok32 a) (h : a < lo ∨ hi < a) (ht : (pc : Int) + dflt = (tgt : Int)) (kk : GG l R K x ws tgt lv st) : GG l R K x ws pc lv (.int (iI a) :: st) := by
  intro H locs ls hP hS hl
  exact lv_tableOut X.1.1.1 X.1.1.2.1 hdg (by rw [iI_toInt hr]; exact h) ht (kk H locs ls hP hS hl)
theorem gx_goto (X : OK l R K x cc nL own) {off : Int} {tgt : Nat} (hdg : decode cc pc = .ok (.goto off, 3)) (ht : (pc : Int) + off = (tgt : Int)) (kk : GG l R K x ws tgt lv st) : GG l R K x ws pc lv st := by
  intro H locs ls hP hS hl
  exact lv_goto X.1.1.1 X.1.1.2.1 hdg ht (kk H locs ls hP hS hl)
theorem gx_icmp_eq (X : OK l R K x cc nL own) {a b : Int} {off : Int} {tgt : Nat} (hdg : decode cc pc = .ok (.if_icmp .eq off, 3)) (ht : (pc : Int) + off = (tgt : Int)) (hr : ok32 a ∧ ok32 b) (kt : a = b → GG l R K x ws tgt lv st) (kf : ¬ a = b → GG l R K x ws (pc + 3) lv st) : GG l R K x ws pc lv (.int (iI b) :: .int (iI a) :: st) := by
  obtain ⟨ha, hb⟩ := hr
  intro H locs ls hP hS hl
  exact lv_icmp_eq X.1.1.1 X.1.1.2.1 hdg ht (fun h => kt ((iI_eq ha hb).mp h) H locs ls hP hS hl) (fun h => kf (fun h9 => h ((iI_eq ha hb).mpr h9)) H locs ls hP hS hl)
theorem gx_if_eq (X : OK l R K x cc nL own) {a : Int} {off : Int} {tgt : Nat} (hdg : decode cc pc = .ok (.ifCond .eq off, 3)) (ht : (pc : Int) + off = (tgt : Int)) (ha : ok32 a) (kt : a = 0 → GG l R K x ws tgt lv st) (kf : ¬ a = 0 → GG l R K x ws (pc + 3) lv st) : GG l R K x ws pc lv (.int (iI a) :: st) := by
  intro H locs ls hP hS hl
  exact lv_if_eq X.1.1.1 X.1.1.2.1 hdg ht (fun h => kt ((iI_eq ha ok_z).mp h) H locs ls hP hS hl) (fun h => kf (fun h9 => h (by rw [h9]; rfl)) H locs ls hP hS hl)
theorem gx_icmp_ne (X : OK l R K x cc nL own) {a b : Int} {off : Int} {tgt : Nat} (hdg : decode cc pc = .ok (.if_icmp .ne off, 3)) (ht : (pc : Int) + off = (tgt : Int)) (hr : ok32 a ∧ ok32 b) (kt : ¬ a = b → GG l R K x ws tgt lv st) (kf : a = b → GG l R K x ws (pc + 3) lv st) : GG l R K x ws pc lv (.int (iI b) :: .int (iI a) :: st) := by
  obtain ⟨ha, hb⟩ := hr
  intro H locs ls hP hS hl
  exact lv_icmp_ne X.1.1.1 X.1.1.2.1 hdg ht (fun h => kt (fun h9 => h ((iI_eq ha hb).mpr h9)) H locs ls hP hS hl) (fun h => kf ((iI_eq ha hb).mp h) H locs ls hP hS hl)
theorem gx_if_ne (X : OK l R K x cc nL own) {a : Int} {off : Int} {tgt : Nat} (hdg : decode cc pc = .ok (.ifCond .ne off, 3)) (ht : (pc : Int) + off = (tgt : Int)) (ha : ok32 a) (kt : ¬ a = 0 → GG l R K x ws tgt lv st) (kf : a = 0 → GG l R K x ws (pc + 3) lv st) : GG l R K x ws pc lv (.int (iI a) :: st) := by
  intro H locs ls hP hS hl
  exact lv_if_ne X.1.1.1 X.1.1.2.1 hdg ht (fun h => kt (fun h9 => h (by rw [h9]; rfl)) H locs ls hP hS hl) (fun h => kf ((iI_eq ha ok_z).mp h) H locs ls hP hS hl)
theorem gx_icmp_lt (X : OK l R K x cc nL own) {a b : Int} {off : Int} {tgt : Nat} (hdg : decode cc pc = .ok (.if_icmp .lt off, 3)) (ht : (pc : Int) + off = (tgt : Int)) (hr : ok32 a ∧ ok32 b) (kt : a < b → GG l R K x ws tgt lv st) (kf : ¬ a < b → GG l R K x ws (pc + 3) lv st) : GG l R K x ws pc lv (.int (iI b) :: .int (iI a) :: st) := by
  obtain ⟨ha, hb⟩ := hr
  intro H locs ls hP hS hl
  exact lv_icmp_lt X.1.1.1 X.1.1.2.1 hdg ht (fun h => kt ((iI_lt ha hb).mp h) H locs ls hP hS hl) (fun h => kf (fun h9 => h ((iI_lt ha hb).mpr h9)) H locs ls hP hS hl)
theorem gx_if_lt (X : OK l R K x cc nL own) {a : Int} {off : Int} {tgt : Nat} (hdg : decode cc pc = .ok (.ifCond .lt off, 3)) (ht : (pc : Int) + off = (tgt : Int)) (ha : ok32 a) (kt : a < 0 → GG l R K x ws tgt lv st) (kf : ¬ a < 0 → GG l R K x ws (pc + 3) lv st) : GG l R K x ws pc lv (.int (iI a) :: st) := by
  intro H locs ls hP hS hl
  exact lv_if_lt X.1.1.1 X.1.1.2.1 hdg ht (fun h => kt ((iI_lt ha ok_z).mp h) H locs ls hP hS hl) (fun h => kf (fun h9 => h ((iI_lt ha ok_z).mpr h9)) H locs ls hP hS hl)
theorem gx_icmp_ge (X : OK l R K x cc nL own) {a b : Int} {off : Int} {tgt : Nat} (hdg : decode cc pc = .ok (.if_icmp .ge off, 3)) (ht : (pc : Int) + off = (tgt : Int)) (hr : ok32 a ∧ ok32 b) (kt : b ≤ a → GG l R K x ws tgt lv st) (kf : ¬ b ≤ a → GG l R K x ws (pc + 3) lv st) : GG l R K x ws pc lv (.int (iI b) :: .int (iI a) :: st) := by
  obtain ⟨ha, hb⟩ := hr
  intro H locs ls hP hS hl
  exact lv_icmp_ge X.1.1.1 X.1.1.2.1 hdg ht (fun h => kt ((iI_le hb ha).mp h) H locs ls hP hS hl) (fun h => kf (fun h9 => h ((iI_le hb ha).mpr h9)) H locs ls hP hS hl)
theorem gx_if_ge (X : OK l R K x cc nL own) {a : Int} {off : Int} {tgt : Nat} (hdg : decode cc pc = .ok (.ifCond .ge off, 3)) (ht : (pc : Int) + off = (tgt : Int)) (ha : ok32 a) (kt : 0 ≤ a → GG l R K x ws tgt lv st) (kf : ¬ 0 ≤ a → GG l R K x ws (pc + 3) lv st) : GG l R K x ws pc lv (.int (iI a) :: st) := by
  intro H locs ls hP hS hl
  exact lv_if_ge X.1.1.1 X.1.1.2.1 hdg ht (fun h => kt ((iI_le ok_z ha).mp h) H locs ls hP hS hl) (fun h => kf (fun h9 => h ((iI_le ok_z ha).mpr h9)) H locs ls hP hS hl)
theorem gx_icmp_gt (X : OK l R K x cc nL own) {a b : Int} {off : Int} {tgt : Nat} (hdg : decode cc pc = .ok (.if_icmp .gt off, 3)) (ht : (pc : Int) + off = (tgt : Int)) (hr : ok32 a ∧ ok32 b) (kt : b < a → GG l R K x ws tgt lv st) (kf : ¬ b < a → GG l R K x ws (pc + 3) lv st) : GG l R K x ws pc lv (.int (iI b) :: .int (iI a) :: st) := by
  obtain ⟨ha, hb⟩ := hr
  intro H locs ls hP hS hl
  exact lv_icmp_gt X.1.1.1 X.1.1.2.1 hdg ht (fun h => kt ((iI_lt hb ha).mp h) H locs ls hP hS hl) (fun h => kf (fun h9 => h ((iI_lt hb ha).mpr h9)) H locs ls hP hS hl)
theorem gx_if_gt (X : OK l R K x cc nL own) {a : Int} {off : Int} {tgt : Nat} (hdg : decode cc pc = .ok (.ifCond .gt off, 3)) (ht : (pc : Int) + off = (tgt : Int)) (ha : ok32 a) (kt : 0 < a → GG l R K x ws tgt lv st) (kf : ¬ 0 < a → GG l R K x ws (pc + 3) lv st) : GG l R K x ws pc lv (.int (iI a) :: st) := by
  intro H locs ls hP hS hl
  exact lv_if_gt X.1.1.1 X.1.1.2.1 hdg ht (fun h => kt ((iI_lt ok_z ha).mp h) H locs ls hP hS hl) (fun h => kf (fun h9 => h ((iI_lt ok_z ha).mpr h9)) H locs ls hP hS hl)
theorem gx_icmp_le (X : OK l R K x cc nL own) {a b : Int} {off : Int} {tgt : Nat} (hdg : decode cc pc = .ok (.if_icmp .le off, 3)) (ht : (pc : Int) + off = (tgt : Int)) (hr : ok32 a ∧ ok32 b) (kt : a ≤ b → GG l R K x ws tgt lv st) (kf : ¬ a ≤ b → GG l R K x ws (pc + 3) lv st) : GG l R K x ws pc lv (.int (iI b) :: .int (iI a) :: st) := by
  obtain ⟨ha, hb⟩ := hr
  intro H locs ls hP hS hl
  exact lv_icmp_le X.1.1.1 X.1.1.2.1 hdg ht (fun h => kt ((iI_le ha hb).mp h) H locs ls hP hS hl) (fun h => kf (fun h9 => h ((iI_le ha hb).mpr h9)) H locs ls hP hS hl)
theorem gx_if_le (X : OK l R K x cc nL own) {a : Int} {off : Int} {tgt : Nat} (hdg : decode cc pc = .ok (.ifCond .le off, 3)) (ht : (pc : Int) + off = (tgt : Int)) (ha : ok32 a) (kt : a ≤ 0 → GG l R K x ws tgt lv st) (kf : ¬ a ≤ 0 → GG l R K x ws (pc + 3) lv st) : GG l R K x ws pc lv (.int (iI a) :: st) := by
  intro H locs ls hP hS hl
  exact lv_if_le X.1.1.1 X.1.1.2.1 hdg ht (fun h => kt ((iI_le ha ok_z).mp h) H locs ls hP hS hl) (fun h => kf (fun h9 => h ((iI_le ha ok_z).mpr h9)) H locs ls hP hS hl)
theorem gx_get (X : OK l R K x cc nL own) {ref C : String} {T : u_T} {N ci index : Nat} {a : Nat} (hin : ∀ w ∈ u_ws C T N, w ∈ TT) (q0 : Nat) {fs : List Value} (he : ws[q0]? = some (a, .inr (ci, fs))) (hc :  vwCl[ci]? = some (C, T, N)) (k : Nat) (hk : k < N) (hlink : Cond.fieldLink own index ref (T k).2.1 (T k).2.2.1 ∈ TT) (href : (T k).1 = ref) {v : Value} (hv : fs[k]? = some v) (hdg : decode cc pc = .ok (.getfield index, 3)) (kk : GG l R K x ws (pc + 3) lv (v :: st)) : GG l R K x ws pc lv (.ref a :: st) := by
  intro H locs ls hP hS hl
  exact va_get X.1.1.1 X.1.1.2.1 X.1.1.2.2.2.2 hin X.1.1.2.2.2.1 X.1.2 hP q0 he hc k hk (X.1.1.2.2.2.2 _ hlink) (fun _ h9 => href ▸ h9) hv hdg (kk H locs ls hP hS hl)
theorem gx_put (X : OK l R K x cc nL own) {ref C : String} {T : u_T} {N ci index : Nat} {a : Nat} (hin : ∀ w ∈ u_ws C T N, w ∈ TT) (ty0 : Nat → FieldType) (hty : ∀ k, k < N → parseFieldDescriptor (T k).2.2.1 = some (ty0 k)) (hnm : ∀ a, a < N → ∀ b, b < N → a ≠ b → (T a).2.1 ≠ (T b).2.1) (hD : va_D (cx_A x) ws) (q0 : Nat) {fs : List Value} (he : ws[q0]? = some (a, .inr (ci, fs))) (hc :  vwCl[ci]? = some (C, T, N)) (k : Nat) (hk : k < N) (hlink : Cond.fieldLink own index ref (T k).2.1 (T k).2.2.1 ∈ TT) (href : (T k).1 = ref) (hfin : (T k).2.2.2 = false) {ty : FieldType} {v : Value} (hd : parseFieldDescriptor (T k).2.2.1 = some ty) (hn : narrow ty v = v) (hfit : fits ty v = true) (hl9 : k < fs.length) {ws' : va_W} (hset : ws.set q0 (a, .inr (ci, fs.set k v)) = ws') (hdg : decode cc pc = .ok (.putfield index, 3)) (kk : GG l R K x ws' (pc + 3) lv st) : GG l R K x ws pc lv (v :: .ref a :: st) := by
  intro H locs ls hP hS hl
  subst hset
  exact va_put X.1.1.1 X.1.1.2.1 X.1.1.2.2.2.2 hin ty0 hty hnm X.1.1.2.2.2.1 X.1.2 hP hD hS q0 he hc k hk (X.1.1.2.2.2.2 _ hlink) (fun _ h9 => href ▸ h9) hfin hd hn hfit hl9 hdg (fun H1 locs1 hP1 _ hS1 => kk H1 locs1 ls hP1 hS1 hl)
theorem gx_iald (X : OK l R K x cc nL own) {a n : Nat} {g : Int → Int} {z v : Int} (q0 : Nat) (ha : ws[q0]? = some (a, zA K n g)) (hz : 0 ≤ z ∧ z < (n : Int) ∧ z ≤ 2147483647) (hv : g z = v) (hdg : decode cc pc = .ok (.iaload, 1)) (kk : GG l R K x ws (pc + 1) lv (.int (iI v) :: st)) : GG l R K x ws pc lv (.int (iI z) :: .ref a :: st) := by
  intro H locs ls hP hS hl
  subst hv
  exact va_iald X.1.1.1 X.1.1.2.1 X.1.2 hP q0 0 ha rfl (iI_in hz.1 hz.2.1 hz.2.2) hdg (by rw [ia_rd hz.1 hz.2.2]; exact (kk H locs ls hP hS hl))
theorem gx_iast (X : OK l R K x cc nL own) {a n : Nat} {g : Int → Int} {z v : Int} (hD : va_D (cx_A x) ws) (q0 : Nat) (ha : ws[q0]? = some (a, zA K n g)) (hz : 0 ≤ z ∧ z < (n : Int) ∧ z ≤ 2147483647) {ws' : va_W} (hset : ws.set q0 (a, zA K n (iu g z v)) = ws') (hdg : decode cc pc = .ok (.iastore, 1)) (kk : GG l R K x ws' (pc + 1) lv st) : GG l R K x ws pc lv (.int (iI v) :: .int (iI z) :: .ref a :: st) := by
  intro H locs ls hP hS hl
  subst hset
  refine va_iast X.1.1.1 X.1.1.2.1 X.1.2 hP hD hS q0 0 ha rfl (iI_in hz.1 hz.2.1 hz.2.2) hdg (fun H1 locs1 hP1 _ hS1 => ?_)
  rw [ia_wr hz.1 hz.2.2] at hP1
  exact kk H1 locs1 ls hP1 hS1 hl
theorem gx_lald (X : OK l R K x cc nL own) {a n : Nat} {g : Int → Int64} {z : Int} {v : Int64} (q0 : Nat) (ha : ws[q0]? = some (a, zL K n g)) (hz : 0 ≤ z ∧ z < (n : Int) ∧ z ≤ 2147483647) (hv : g z = v) (hdg : decode cc pc = .ok (.laload, 1)) (kk : GG l R K x ws (pc + 1) lv (.long v :: st)) : GG l R K x ws pc lv (.int (iI z) :: .ref a :: st) := by
  intro H locs ls hP hS hl
  subst hv
  exact va_lald X.1.1.1 X.1.1.2.1 X.1.2 hP q0 1 ha rfl (iI_in hz.1 hz.2.1 hz.2.2) hdg (by rw [la_rd hz.1 hz.2.2]; exact (kk H locs ls hP hS hl))
theorem gx_last (X : OK l R K x cc nL own) {a n : Nat} {g : Int → Int64} {z : Int} {v : Int64} (hD : va_D (cx_A x) ws) (q0 : Nat) (ha : ws[q0]? = some (a, zL K n g)) (hz : 0 ≤ z ∧ z < (n : Int) ∧ z ≤ 2147483647) {ws' : va_W} (hset : ws.set q0 (a, zL K n (iu g z v)) = ws') (hdg : decode cc pc = .ok (.lastore, 1)) (kk : GG l R K x ws' (pc + 1) lv st) : GG l R K x ws pc lv (.long v :: .int (iI z) :: .ref a :: st) := by
  intro H locs ls hP hS hl
  subst hset
  refine va_last X.1.1.1 X.1.1.2.1 X.1.2 hP hD hS q0 1 ha rfl (iI_in hz.1 hz.2.1 hz.2.2) hdg (fun H1 locs1 hP1 _ hS1 => ?_)
  rw [la_wr hz.1 hz.2.2] at hP1
  exact kk H1 locs1 ls hP1 hS1 hl
theorem gx_aald (X : OK l R K x cc nL own) {a n v : Nat} {f : Nat → Option Nat} {z : Int} (q0 : Nat) (ha : ws[q0]? = some (a, zR K n f)) (hz : 0 ≤ z ∧ z < (n : Int) ∧ z ≤ 2147483647) (hv : f z.toNat = some v) (hdg : decode cc pc = .ok (.aaload, 1)) (kk : GG l R K x ws (pc + 1) lv (.ref v :: st)) : GG l R K x ws pc lv (.int (iI z) :: .ref a :: st) := by
  intro H locs ls hP hS hl
  refine va_aldq X.1.1.1 X.1.1.2.1 X.1.2 hP q0 2 ha rfl (iI_in hz.1 hz.2.1 hz.2.2) hdg ?_
  rw [iI_clamp ⟨by omega, hz.2.2⟩, hv]
  exact (kk H locs ls hP hS hl)
/-- the machine's end at an answer -/
def ReI (l : Launch) (R : Room) (K : KK) (x : Cx) (cc : ByteArray) (z : Int) (ws' : va_W) : Prop := ∀ (H : Heap) (locs : List Loc) (ls : Array Slot) (pc : Nat), va_P K.1 vwCl ws' H → va_S (cx_A x) (cx_s x).heap H locs → decode cc pc = .ok (.ireturn, 1) → WW l R x H locs (F0 (cx_m x) pc ls [.int (iI z)])
def ReV (l : Launch) (R : Room) (K : KK) (x : Cx) (cc : ByteArray) (ws' : va_W) : Prop := ∀ (H : Heap) (locs : List Loc) (ls : Array Slot) (pc : Nat), va_P K.1 vwCl ws' H → va_S (cx_A x) (cx_s x).heap H locs → decode cc pc = .ok (.return_, 1) → WW l R x H locs (F0 (cx_m x) pc ls [])
def ReL (l : Launch) (R : Room) (K : KK) (x : Cx) (cc : ByteArray) (z : Int64) (ws' : va_W) : Prop := ∀ (H : Heap) (locs : List Loc) (ls : Array Slot) (pc : Nat), va_P K.1 vwCl ws' H → va_S (cx_A x) (cx_s x).heap H locs → decode cc pc = .ok (.lreturn, 1) → WW l R x H locs (F0 (cx_m x) pc ls [.long z])
def ReA (l : Launch) (R : Room) (K : KK) (x : Cx) (cc : ByteArray) (a : Nat) (ws' : va_W) : Prop := ∀ (H : Heap) (locs : List Loc) (ls : Array Slot) (pc : Nat), va_P K.1 vwCl ws' H → va_S (cx_A x) (cx_s x).heap H locs → decode cc pc = .ok (.areturn, 1) → WW l R x H locs (F0 (cx_m x) pc ls [.ref a])
theorem gx_iret {z r : Int} {ws' : va_W} (hR : ReI l R K x cc z ws') (h : z = r) (hw : ws' = ws) (hdg : decode cc pc = .ok (.ireturn, 1)) : GG l R K x ws pc lv [.int (iI r)] := by
  subst h; subst hw
  intro H locs ls hP hS _
  exact hR H locs ls pc hP hS hdg
theorem gx_lret {z r : Int64} {ws' : va_W} (hR : ReL l R K x cc z ws') (h : z = r) (hw : ws' = ws) (hdg : decode cc pc = .ok (.lreturn, 1)) : GG l R K x ws pc lv [.long r] := by
  subst h; subst hw
  intro H locs ls hP hS _
  exact hR H locs ls pc hP hS hdg
theorem gx_aret {z r : Nat} {ws' : va_W} (hR : ReA l R K x cc z ws') (h : z = r) (hw : ws' = ws) (hdg : decode cc pc = .ok (.areturn, 1)) : GG l R K x ws pc lv [.ref r] := by
  subst h; subst hw
  intro H locs ls hP hS _
  exact hR H locs ls pc hP hS hdg
theorem gx_vret {ws' : va_W} (hR : ReV l R K x cc ws') (hw : ws' = ws) (hdg : decode cc pc = .ok (.return_, 1)) : GG l R K x ws pc lv [] := by
  subst hw
  intro H locs ls hP hS _
  exact hR H locs ls pc hP hS hdg
end GGR
/-! contracts -/
def pw (K : KK) (ws : va_W) (sz : Nat) (U : State) : Prop := U.heap.size = sz ∧ va_P K.1 vwCl ws U.heap ∧ va_K K.1 vwCl (kt K) U ∧ va_D (fun _ => True) ws
def CtI (l : Launch) (y : MethodName) (b : ByteArray) (mL : Nat) (rt : FieldType) (k : Nat × Nat) (K : KK) (av : List Value) (ws : va_W) (z : Int) (ws' : va_W) : Prop :=
  ∀ sz, Met l y (.code y b mL (some rt) :: TT) (rmK k) (va_Pc av (pw K ws sz)) (va_Qi (S := Unit) (fun r _ => r = iI z) (fun _ t => va_P K.1 vwCl ws' t.heap) (va_A ws sz)) 0 0 (va_A ws sz)
def CtL (l : Launch) (y : MethodName) (b : ByteArray) (mL : Nat) (k : Nat × Nat) (K : KK) (av : List Value) (ws : va_W) (z : Int64) (ws' : va_W) : Prop :=
  ∀ sz, Met l y (.code y b mL (some .long) :: TT) (rmK k) (va_Pc av (pw K ws sz)) (va_Ql (S := Unit) (fun r _ => r = z) (fun _ t => va_P K.1 vwCl ws' t.heap) (va_A ws sz)) 0 0 (va_A ws sz)
def CtV (l : Launch) (y : MethodName) (b : ByteArray) (mL : Nat) (k : Nat × Nat) (K : KK) (av : List Value) (ws : va_W) (ws' : va_W) : Prop :=
  ∀ sz, Met l y (.code y b mL none :: TT) (rmK k) (va_Pc av (pw K ws sz)) (va_Qv (S := Unit) (fun _ => True) (fun _ t => va_P K.1 vwCl ws' t.heap) (va_A ws sz)) 0 0 (va_A ws sz)
def CtA (l : Launch) (y : MethodName) (b : ByteArray) (mL : Nat) (rt : FieldType) (k : Nat × Nat) (K : KK) (av : List Value) (ws : va_W) (a : Nat) (ws' : va_W) : Prop :=
  ∀ sz, Met l y (.code y b mL (some rt) :: TT) (rmK k) (va_Pc av (pw K ws sz)) (va_Qr (S := Unit) (fun _ => True) (fun _ r t => r = a ∧ va_P K.1 vwCl ws' t.heap) (va_A ws sz)) 0 0 (va_A ws sz)
theorem ctI_of {l : Launch} {y : MethodName} {b : ByteArray} {mL : Nat} {rt : FieldType} {z : Int} {k : Nat × Nat} {K : KK} {av : List Value} {ws ws' : va_W} (hy : plainName y.cls = true) (hlen : (lg_sl av).length ≤ mL) (hn9 : narrow rt (.int (iI z)) = .int (iI z))
    (body : ∀ x : Cx, OK l (rmK k) K x b mL y.cls → va_D (cx_A x) ws → ReI l (rmK k) K x b z ws' → GG l (rmK k) K x ws 0 (lv_args 0 av) []) : CtI l y b mL rt k K av ws z ws' := by
  intro sz
  refine Met.ofW (cc := b) (maxL := mL) (ret := some rt) hy rfl ?_
  intro p e s m args below meth c s₁ B hml hv
  obtain ⟨rfl, hsz, hP, hK, hD0⟩ := hv
  have hlocks := B.notSynchronized
  have hts0 := atoms_spec (ws := .code y b mL (some rt) :: TT) B.pre
  have hts : ∀ w ∈ TT, w.before av.toArray s = true := fun w hw => hts0 w (List.mem_cons_of_mem _ hw)
  have hown : s.vm.findClass y.cls = some m.cls := findClass_of_methodNamed B.named
  have hr := B.returns
  subst hsz
  rw [lg_entry_eq]
  refine body (p, e, s, m, av.toArray, below, meth, c, MQ below _ av.toArray s 0 0 (va_A ws s.heap.size), va_A ws s.heap.size, 0, 0) ⟨⟨⟨B.exec, B.bytes, hml, hown, hts⟩, hK⟩, fun q h => Or.inr h, Nat.zero_le _, Nat.zero_le _, rfl⟩ hD0.self ?_ s.heap [] _ hP va_S.rf (by rw [show (cx_c (p, e, s, m, av.toArray, below, meth, c, _, _, _, _)).maxLocals = mL from hml]; exact lv_entry av hlen)
  intro H locs ls pc hP9 hS9 hdg
  exact W.zret B.exec B.bytes hr hn9 (fun t ht hW => ⟨⟨iI z, (), rfl, rfl, by show va_P _ _ _ t.heap; rw [ht]; exact hP9⟩, hS9.F ht⟩) hS9.2.2 hdg
theorem ctL_of {l : Launch} {y : MethodName} {b : ByteArray} {mL : Nat} {z : Int64} {k : Nat × Nat} {K : KK} {av : List Value} {ws ws' : va_W} (hy : plainName y.cls = true) (hlen : (lg_sl av).length ≤ mL) 
    (body : ∀ x : Cx, OK l (rmK k) K x b mL y.cls → va_D (cx_A x) ws → ReL l (rmK k) K x b z ws' → GG l (rmK k) K x ws 0 (lv_args 0 av) []) : CtL l y b mL k K av ws z ws' := by
  intro sz
  refine Met.ofW (cc := b) (maxL := mL) (ret := some .long) hy rfl ?_
  intro p e s m args below meth c s₁ B hml hv
  obtain ⟨rfl, hsz, hP, hK, hD0⟩ := hv
  have hlocks := B.notSynchronized
  have hts0 := atoms_spec (ws := .code y b mL (some .long) :: TT) B.pre
  have hts : ∀ w ∈ TT, w.before av.toArray s = true := fun w hw => hts0 w (List.mem_cons_of_mem _ hw)
  have hown : s.vm.findClass y.cls = some m.cls := findClass_of_methodNamed B.named
  have hr := B.returns
  subst hsz
  rw [lg_entry_eq]
  refine body (p, e, s, m, av.toArray, below, meth, c, MQ below _ av.toArray s 0 0 (va_A ws s.heap.size), va_A ws s.heap.size, 0, 0) ⟨⟨⟨B.exec, B.bytes, hml, hown, hts⟩, hK⟩, fun q h => Or.inr h, Nat.zero_le _, Nat.zero_le _, rfl⟩ hD0.self ?_ s.heap [] _ hP va_S.rf (by rw [show (cx_c (p, e, s, m, av.toArray, below, meth, c, _, _, _, _)).maxLocals = mL from hml]; exact lv_entry av hlen)
  intro H locs ls pc hP9 hS9 hdg
  exact W.lret B.exec B.bytes hr (fun t ht hW => ⟨⟨z, (), rfl, rfl, by show va_P _ _ _ t.heap; rw [ht]; exact hP9⟩, hS9.F ht⟩) hS9.2.2 hdg
theorem ctV_of {l : Launch} {y : MethodName} {b : ByteArray} {mL : Nat}  {k : Nat × Nat} {K : KK} {av : List Value} {ws ws' : va_W} (hy : plainName y.cls = true) (hlen : (lg_sl av).length ≤ mL) 
    (body : ∀ x : Cx, OK l (rmK k) K x b mL y.cls → va_D (cx_A x) ws → ReV l (rmK k) K x b ws' → GG l (rmK k) K x ws 0 (lv_args 0 av) []) : CtV l y b mL k K av ws ws' := by
  intro sz
  refine Met.ofW (cc := b) (maxL := mL) (ret := none) hy rfl ?_
  intro p e s m args below meth c s₁ B hml hv
  obtain ⟨rfl, hsz, hP, hK, hD0⟩ := hv
  have hlocks := B.notSynchronized
  have hts0 := atoms_spec (ws := .code y b mL (none) :: TT) B.pre
  have hts : ∀ w ∈ TT, w.before av.toArray s = true := fun w hw => hts0 w (List.mem_cons_of_mem _ hw)
  have hown : s.vm.findClass y.cls = some m.cls := findClass_of_methodNamed B.named
  have hr := B.returns
  subst hsz
  rw [lg_entry_eq]
  refine body (p, e, s, m, av.toArray, below, meth, c, MQ below _ av.toArray s 0 0 (va_A ws s.heap.size), va_A ws s.heap.size, 0, 0) ⟨⟨⟨B.exec, B.bytes, hml, hown, hts⟩, hK⟩, fun q h => Or.inr h, Nat.zero_le _, Nat.zero_le _, rfl⟩ hD0.self ?_ s.heap [] _ hP va_S.rf (by rw [show (cx_c (p, e, s, m, av.toArray, below, meth, c, _, _, _, _)).maxLocals = mL from hml]; exact lv_entry av hlen)
  intro H locs ls pc hP9 hS9 hdg
  exact W.vret B.exec B.bytes hr (fun t ht hW => ⟨⟨(), rfl, trivial, by show va_P _ _ _ t.heap; rw [ht]; exact hP9⟩, hS9.F ht⟩) hS9.2.2 hdg
theorem ctA_of {l : Launch} {y : MethodName} {b : ByteArray} {mL : Nat} {rt : FieldType} {a : Nat} {k : Nat × Nat} {K : KK} {av : List Value} {ws ws' : va_W} (hy : plainName y.cls = true) (hlen : (lg_sl av).length ≤ mL) (hn9 : (∃ n, rt = .object n) ∨ ∃ t, rt = .array t)
    (body : ∀ x : Cx, OK l (rmK k) K x b mL y.cls → va_D (cx_A x) ws → ReA l (rmK k) K x b a ws' → GG l (rmK k) K x ws 0 (lv_args 0 av) []) : CtA l y b mL rt k K av ws a ws' := by
  intro sz
  refine Met.ofW (cc := b) (maxL := mL) (ret := some rt) hy rfl ?_
  intro p e s m args below meth c s₁ B hml hv
  obtain ⟨rfl, hsz, hP, hK, hD0⟩ := hv
  have hlocks := B.notSynchronized
  have hts0 := atoms_spec (ws := .code y b mL (some rt) :: TT) B.pre
  have hts : ∀ w ∈ TT, w.before av.toArray s = true := fun w hw => hts0 w (List.mem_cons_of_mem _ hw)
  have hown : s.vm.findClass y.cls = some m.cls := findClass_of_methodNamed B.named
  have hr := B.returns
  subst hsz
  rw [lg_entry_eq]
  refine body (p, e, s, m, av.toArray, below, meth, c, MQ below _ av.toArray s 0 0 (va_A ws s.heap.size), va_A ws s.heap.size, 0, 0) ⟨⟨⟨B.exec, B.bytes, hml, hown, hts⟩, hK⟩, fun q h => Or.inr h, Nat.zero_le _, Nat.zero_le _, rfl⟩ hD0.self ?_ s.heap [] _ hP va_S.rf (by rw [show (cx_c (p, e, s, m, av.toArray, below, meth, c, _, _, _, _)).maxLocals = mL from hml]; exact lv_entry av hlen)
  intro H locs ls pc hP9 hS9 hdg
  exact W.aret B.exec B.bytes hr hn9 (Or.inr ⟨a, rfl⟩) (fun t ht hW => ⟨⟨(), a, rfl, trivial, rfl, by show va_P _ _ _ t.heap; rw [ht]; exact hP9⟩, hS9.F ht⟩) hS9.2.2 hdg
/-- what a call takes along (wc) of a world (ws), what comes back (wc'), and the world then (ws') -/
def Jn (ws wc wc' ws' : va_W) : Prop := (∀ q ∈ wc, q ∈ ws) ∧ (∀ q ∈ ws', q ∈ wc' ∨ (q ∈ ws ∧ q.1 ∉ wc.map Prod.fst)) ∧ (∀ A, va_D A ws → va_D (fun _ => True) wc)
theorem jn_nil {ws : va_W} : Jn ws [] [] ws := ⟨fun _ h => absurd h List.not_mem_nil, fun q h => Or.inr ⟨h, by simp⟩, fun A _ => ⟨fun i j p q h => by simp at h, fun k q h => by simp at h⟩⟩
theorem jn_all {ws ws' : va_W} : Jn ws ws ws' ws' := ⟨fun _ h => h, fun q h => Or.inl h, fun A h => h.weaken (fun _ _ _ _ => trivial)⟩
theorem jn_P {D : va_G} {cl : List vw_C} {ws wc wc' ws' : va_W} {H H1 : Heap} (h : Jn ws wc wc' ws') (hP : va_P D cl ws H) (hP1 : va_P D cl wc' H1) (hk : ∀ q : Nat, q < H.size → ¬ va_A wc H.size q → H1[q]? = H[q]?) : va_P D cl ws' H1 := by
  intro k q hq
  rcases h.2.1 q (List.mem_of_getElem? hq) with h1 | ⟨h1, h2⟩
  · obtain ⟨i, hi⟩ := List.getElem?_of_mem h1
    exact hP1 i q hi
  · obtain ⟨i, hi⟩ := List.getElem?_of_mem h1
    have h3 := hP i q hi
    refine h3.kept (hk q.1 h3.lt ?_)
    rintro (⟨j, e, hj⟩ | h4)
    · exact h2 (List.mem_map.mpr ⟨(q.1, e), List.mem_of_getElem? hj, rfl⟩)
    · have := h3.lt
      omega
theorem jn_sub {D : va_G} {cl : List vw_C} {ws wc : va_W} {H : Heap} (h : ∀ q ∈ wc, q ∈ ws) (hP : va_P D cl ws H) : va_P D cl wc H := by
  intro k q hq
  obtain ⟨i, hi⟩ := List.getElem?_of_mem (h q (List.mem_of_getElem? hq))
  exact hP i q hi
theorem jn_free {A : Nat → Prop} {ws wc : va_W} {H0 H : Heap} {locs : List Loc} (h : ∀ q ∈ wc, q ∈ ws) (hD : va_D A ws) (hS : va_S A H0 H locs) (hA : ∀ q, H0.size ≤ q → A q) : ∀ q, va_A wc H.size q → A q := by
  rintro q (⟨k, e, hk⟩ | h1)
  · obtain ⟨i, hi⟩ := List.getElem?_of_mem (h _ (List.mem_of_getElem? hk))
    exact hD.2 i _ hi
  · exact hA q (Nat.le_trans hS.1 h1)
/-- the same addresses in the same order -/
theorem va_D_same {A : Nat → Prop} {ws ws' : va_W} (h : va_D A ws) (e : ws'.map Prod.fst = ws.map Prod.fst) : va_D A ws' := by
  have key : ∀ (k : Nat) (q : Nat × va_E), ws'[k]? = some q → ∃ q0, ws[k]? = some q0 ∧ q0.1 = q.1 := by
    intro k q hk
    have h1 : (ws'.map Prod.fst)[k]? = some q.1 := by rw [List.getElem?_map, hk]; rfl
    rw [e, List.getElem?_map] at h1
    cases hq : ws[k]? with
    | none => rw [hq] at h1; cases h1
    | some q0 => rw [hq] at h1; exact ⟨q0, rfl, Option.some.inj h1⟩
  refine ⟨fun i j p q hi hj hpq => ?_, fun k q hk => ?_⟩
  · obtain ⟨p0, h1, h2⟩ := key i p hi
    obtain ⟨q0, h3, h4⟩ := key j q hj
    exact h.1 i j p0 q0 h1 h3 (h2.trans (hpq.trans h4.symm))
  · obtain ⟨q0, h1, h2⟩ := key k q hk
    rw [← h2]
    exact h.2 k q0 h1
/-- what the tables say of a call: ordinary (LkV), static (LkS) -/
def LkV (own : String) (i : Nat) (y : MethodName) (b : ByteArray) (mL : Nat) (rt : Option FieldType) (n : Nat) : Prop := Cond.methodLink own i y ∈ TT ∧ Cond.instanceMethod y ∈ TT ∧ Cond.selects y.cls y y ∈ TT ∧ Cond.initialized y.cls ∈ TT ∧ Cond.code y b mL rt ∈ TT ∧ (y.cls ≠ "java/lang/invoke/MethodHandle" ∧ y.cls ≠ "java/lang/invoke/VarHandle" ∧ (parseMethodDescriptor y.desc).map (fun d => d.parameters.length) = some n)
def LkS (own : String) (i : Nat) (y : MethodName) (b : ByteArray) (mL : Nat) (rt : Option FieldType) (n : Nat) : Prop := Cond.methodLink own i y ∈ TT ∧ Cond.static y ∈ TT ∧ Cond.initialized y.cls ∈ TT ∧ Cond.code y b mL rt ∈ TT ∧ (y.cls ≠ "java/lang/invoke/MethodHandle" ∧ y.cls ≠ "java/lang/invoke/VarHandle" ∧ (parseMethodDescriptor y.desc).map (fun d => d.parameters.length) = some n)
theorem tt_good {y : MethodName} {b : ByteArray} {mL : Nat} {rt : Option FieldType} (h : Cond.code y b mL rt ∈ TT) : GoodIn TT (.code y b mL rt :: TT) := by
  intro w hw
  have h1 : w ∈ TT := by
    rcases List.mem_cons.mp hw with rfl | h1
    · exact h
    · exact h1
  exact ⟨h1, good_of_word (List.mem_filter.mp h1).2⟩
theorem pw_blind {K : KK} {ws : va_W} {sz : Nat} {av : List Value} : FrameBlind (va_Pc av (pw K ws sz)) := fun a U g mk q => by
  obtain ⟨q0, q1, qP, qK, qD⟩ := q
  exact ⟨q0, q1, qP, va_K.moved (u := U) (U := U.calling g mk a) (Vm.Alike.refl U.vm) qK, qD⟩
theorem gx_callVI {l : Launch} {R : Room} {K : KK} {x : Cx} {cc : ByteArray} {nL : Nat} {own : String} {ws wc wc' ws' : va_W} {pc : Nat} {lv : List (Nat × Value)} {rest : List Value} {y : MethodName} {b : ByteArray} {mL i n : Nat} {k : Nat × Nat} {rt : FieldType} {z : Int} {As : List Value} (X : OK l R K x cc nL own) (hD : va_D (cx_A x) ws) (L : LkV own i y b mL (some rt) n) {a : Nat} {ci : Nat} {fs : List Value} {r : vw_C} (hc :  vwCl[ci]? = some r) (hcn : r.1 = y.cls) (q0 : Nat) (hq : wc[q0]? = some (a, .inr (ci, fs))) (hM : CtI l y b mL rt k K (.ref a :: As) wc z wc') (J : Jn ws wc wc' ws') (hn : As.length = n) (hR : (rmK k).frames + 1 ≤ R.frames ∧ 8 + (mL + 11) + (rmK k).locals ≤ R.locals) (hr : (rest.map fun v => v.category).sum ≤ 8) (hdg : decode cc pc = .ok (.invokevirtual i, 3)) (kk : GG l R K x ws' (pc + 3) lv (.int (iI z) :: rest)) : GG l R K x ws pc lv (As.reverse ++ .ref a :: rest) := by
  intro H locs ls hP hS hl
  have hPc := jn_sub J.1 hP
  have hF := jn_free J.1 hD hS X.2.1
  refine va_calli (va_runV (C := y.cls) (As := As) (rest := rest) (g := F0 (cx_m x) pc ls (As.reverse ++ .ref a :: rest)) X.1.1 (hM H.size) ⟨callB_of n X.1.1.2.2.2.2 (tt_good L.2.2.2.2.1) rfl rfl rfl (X.1.1.2.2.2.2 _ L.2.2.2.1) (X.1.1.2.2.2.2 _ L.1) L.2.2.2.2.2 hR, X.1.1.2.2.2.2 _ L.2.1, X.1.1.2.2.2.2 _ L.2.2.1⟩ ⟨pw_blind, by rw [← hcn]; exact va_recv X.1.2 hPc hc hq, fun U hU hW => ⟨rfl, by rw [hU], by rw [hU]; exact hPc, va_K.moved hW.alike X.1.2, J.2.2 _ hD⟩⟩ rfl hn (by show ls.size = nL; rw [hl.1]; exact X.1.1.2.2.1) rfl (lv_room hr) hdg ⟨X.2.2.1, X.2.2.2.1⟩) hS (fun q _ h => hF q h) hF (fun r u t H1 locs1 ht hvm hw hB hz1 hk1 hS1 => ?_)
  subst hw
  rw [ht] at hB
  exact kk H1 locs1 ls (jn_P J hP hB hk1) hS1 hl
theorem gx_callVL {l : Launch} {R : Room} {K : KK} {x : Cx} {cc : ByteArray} {nL : Nat} {own : String} {ws wc wc' ws' : va_W} {pc : Nat} {lv : List (Nat × Value)} {rest : List Value} {y : MethodName} {b : ByteArray} {mL i n : Nat} {k : Nat × Nat} {z : Int64} {As : List Value} (X : OK l R K x cc nL own) (hD : va_D (cx_A x) ws) (L : LkV own i y b mL (some .long) n) {a : Nat} {ci : Nat} {fs : List Value} {r : vw_C} (hc :  vwCl[ci]? = some r) (hcn : r.1 = y.cls) (q0 : Nat) (hq : wc[q0]? = some (a, .inr (ci, fs))) (hM : CtL l y b mL k K (.ref a :: As) wc z wc') (J : Jn ws wc wc' ws') (hn : As.length = n) (hR : (rmK k).frames + 1 ≤ R.frames ∧ 8 + (mL + 11) + (rmK k).locals ≤ R.locals) (hr : (rest.map fun v => v.category).sum ≤ 8) (hdg : decode cc pc = .ok (.invokevirtual i, 3)) (kk : GG l R K x ws' (pc + 3) lv (.long z :: rest)) : GG l R K x ws pc lv (As.reverse ++ .ref a :: rest) := by
  intro H locs ls hP hS hl
  have hPc := jn_sub J.1 hP
  have hF := jn_free J.1 hD hS X.2.1
  refine va_calll (va_runV (C := y.cls) (As := As) (rest := rest) (g := F0 (cx_m x) pc ls (As.reverse ++ .ref a :: rest)) X.1.1 (hM H.size) ⟨callB_of n X.1.1.2.2.2.2 (tt_good L.2.2.2.2.1) rfl rfl rfl (X.1.1.2.2.2.2 _ L.2.2.2.1) (X.1.1.2.2.2.2 _ L.1) L.2.2.2.2.2 hR, X.1.1.2.2.2.2 _ L.2.1, X.1.1.2.2.2.2 _ L.2.2.1⟩ ⟨pw_blind, by rw [← hcn]; exact va_recv X.1.2 hPc hc hq, fun U hU hW => ⟨rfl, by rw [hU], by rw [hU]; exact hPc, va_K.moved hW.alike X.1.2, J.2.2 _ hD⟩⟩ rfl hn (by show ls.size = nL; rw [hl.1]; exact X.1.1.2.2.1) rfl (lv_room hr) hdg ⟨X.2.2.1, X.2.2.2.1⟩) hS (fun q _ h => hF q h) hF (fun r u t H1 locs1 ht hvm hw hB hz1 hk1 hS1 => ?_)
  subst hw
  rw [ht] at hB
  exact kk H1 locs1 ls (jn_P J hP hB hk1) hS1 hl
theorem gx_callVV {l : Launch} {R : Room} {K : KK} {x : Cx} {cc : ByteArray} {nL : Nat} {own : String} {ws wc wc' ws' : va_W} {pc : Nat} {lv : List (Nat × Value)} {rest : List Value} {y : MethodName} {b : ByteArray} {mL i n : Nat} {k : Nat × Nat}  {As : List Value} (X : OK l R K x cc nL own) (hD : va_D (cx_A x) ws) (L : LkV own i y b mL none n) {a : Nat} {ci : Nat} {fs : List Value} {r : vw_C} (hc :  vwCl[ci]? = some r) (hcn : r.1 = y.cls) (q0 : Nat) (hq : wc[q0]? = some (a, .inr (ci, fs))) (hM : CtV l y b mL k K (.ref a :: As) wc wc') (J : Jn ws wc wc' ws') (hn : As.length = n) (hR : (rmK k).frames + 1 ≤ R.frames ∧ 8 + (mL + 11) + (rmK k).locals ≤ R.locals) (hr : (rest.map fun v => v.category).sum ≤ 8) (hdg : decode cc pc = .ok (.invokevirtual i, 3)) (kk : GG l R K x ws' (pc + 3) lv (rest)) : GG l R K x ws pc lv (As.reverse ++ .ref a :: rest) := by
  intro H locs ls hP hS hl
  have hPc := jn_sub J.1 hP
  have hF := jn_free J.1 hD hS X.2.1
  refine va_callv (va_runV (C := y.cls) (As := As) (rest := rest) (g := F0 (cx_m x) pc ls (As.reverse ++ .ref a :: rest)) X.1.1 (hM H.size) ⟨callB_of n X.1.1.2.2.2.2 (tt_good L.2.2.2.2.1) rfl rfl rfl (X.1.1.2.2.2.2 _ L.2.2.2.1) (X.1.1.2.2.2.2 _ L.1) L.2.2.2.2.2 hR, X.1.1.2.2.2.2 _ L.2.1, X.1.1.2.2.2.2 _ L.2.2.1⟩ ⟨pw_blind, by rw [← hcn]; exact va_recv X.1.2 hPc hc hq, fun U hU hW => ⟨rfl, by rw [hU], by rw [hU]; exact hPc, va_K.moved hW.alike X.1.2, J.2.2 _ hD⟩⟩ rfl hn (by show ls.size = nL; rw [hl.1]; exact X.1.1.2.2.1) rfl (lv_room hr) hdg ⟨X.2.2.1, X.2.2.2.1⟩) hS (fun q _ h => hF q h) hF (fun u t H1 locs1 ht hvm hw hB hz1 hk1 hS1 => ?_)
  rw [ht] at hB
  exact kk H1 locs1 ls (jn_P J hP hB hk1) hS1 hl
theorem gx_callVA {l : Launch} {R : Room} {K : KK} {x : Cx} {cc : ByteArray} {nL : Nat} {own : String} {ws wc wc' ws' : va_W} {pc : Nat} {lv : List (Nat × Value)} {rest : List Value} {y : MethodName} {b : ByteArray} {mL i n : Nat} {k : Nat × Nat} {rt : FieldType} {z : Nat} {As : List Value} (X : OK l R K x cc nL own) (hD : va_D (cx_A x) ws) (L : LkV own i y b mL (some rt) n) {a : Nat} {ci : Nat} {fs : List Value} {r : vw_C} (hc :  vwCl[ci]? = some r) (hcn : r.1 = y.cls) (q0 : Nat) (hq : wc[q0]? = some (a, .inr (ci, fs))) (hM : CtA l y b mL rt k K (.ref a :: As) wc z wc') (J : Jn ws wc wc' ws') (hn : As.length = n) (hR : (rmK k).frames + 1 ≤ R.frames ∧ 8 + (mL + 11) + (rmK k).locals ≤ R.locals) (hr : (rest.map fun v => v.category).sum ≤ 8) (hdg : decode cc pc = .ok (.invokevirtual i, 3)) (kk : GG l R K x ws' (pc + 3) lv (.ref z :: rest)) : GG l R K x ws pc lv (As.reverse ++ .ref a :: rest) := by
  intro H locs ls hP hS hl
  have hPc := jn_sub J.1 hP
  have hF := jn_free J.1 hD hS X.2.1
  refine va_callr (va_runV (C := y.cls) (As := As) (rest := rest) (g := F0 (cx_m x) pc ls (As.reverse ++ .ref a :: rest)) X.1.1 (hM H.size) ⟨callB_of n X.1.1.2.2.2.2 (tt_good L.2.2.2.2.1) rfl rfl rfl (X.1.1.2.2.2.2 _ L.2.2.2.1) (X.1.1.2.2.2.2 _ L.1) L.2.2.2.2.2 hR, X.1.1.2.2.2.2 _ L.2.1, X.1.1.2.2.2.2 _ L.2.2.1⟩ ⟨pw_blind, by rw [← hcn]; exact va_recv X.1.2 hPc hc hq, fun U hU hW => ⟨rfl, by rw [hU], by rw [hU]; exact hPc, va_K.moved hW.alike X.1.2, J.2.2 _ hD⟩⟩ rfl hn (by show ls.size = nL; rw [hl.1]; exact X.1.1.2.2.1) rfl (lv_room hr) hdg ⟨X.2.2.1, X.2.2.2.1⟩) hS (fun q _ h => hF q h) hF (fun u ra t H1 locs1 ht hvm hw hB hz1 hk1 hS1 => ?_)
  obtain ⟨rfl, hP1⟩ := hB
  rw [ht] at hP1
  exact kk H1 locs1 ls (jn_P J hP hP1 hk1) hS1 hl
theorem gx_callSI {l : Launch} {R : Room} {K : KK} {x : Cx} {cc : ByteArray} {nL : Nat} {own : String} {ws wc wc' ws' : va_W} {pc : Nat} {lv : List (Nat × Value)} {rest : List Value} {y : MethodName} {b : ByteArray} {mL i n : Nat} {k : Nat × Nat} {rt : FieldType} {z : Int} {As : List Value} (X : OK l R K x cc nL own) (hD : va_D (cx_A x) ws) (L : LkS own i y b mL (some rt) n)  (hM : CtI l y b mL rt k K As wc z wc') (J : Jn ws wc wc' ws') (hn : As.length = n) (hR : (rmK k).frames + 1 ≤ R.frames ∧ 8 + (mL + 11) + (rmK k).locals ≤ R.locals) (hr : (rest.map fun v => v.category).sum ≤ 8) (hdg : decode cc pc = .ok (.invokestatic i, 3)) (kk : GG l R K x ws' (pc + 3) lv (.int (iI z) :: rest)) : GG l R K x ws pc lv (As.reverse ++ rest) := by
  intro H locs ls hP hS hl
  have hPc := jn_sub J.1 hP
  have hF := jn_free J.1 hD hS X.2.1
  refine va_calli (va_runS (As := As) (rest := rest) (g := F0 (cx_m x) pc ls (As.reverse ++ rest)) X.1.1 (hM H.size) ⟨callB_of n X.1.1.2.2.2.2 (tt_good L.2.2.2.1) rfl rfl rfl (X.1.1.2.2.2.2 _ L.2.2.1) (X.1.1.2.2.2.2 _ L.1) L.2.2.2.2 hR, X.1.1.2.2.2.2 _ L.2.1⟩ ⟨pw_blind, fun U hU hW => ⟨rfl, by rw [hU], by rw [hU]; exact hPc, va_K.moved hW.alike X.1.2, J.2.2 _ hD⟩⟩ rfl hn (by show ls.size = nL; rw [hl.1]; exact X.1.1.2.2.1) rfl (lv_room hr) hdg ⟨X.2.2.1, X.2.2.2.1⟩) hS (fun q _ h => hF q h) hF (fun r u t H1 locs1 ht hvm hw hB hz1 hk1 hS1 => ?_)
  subst hw
  rw [ht] at hB
  exact kk H1 locs1 ls (jn_P J hP hB hk1) hS1 hl
theorem gx_callSL {l : Launch} {R : Room} {K : KK} {x : Cx} {cc : ByteArray} {nL : Nat} {own : String} {ws wc wc' ws' : va_W} {pc : Nat} {lv : List (Nat × Value)} {rest : List Value} {y : MethodName} {b : ByteArray} {mL i n : Nat} {k : Nat × Nat} {z : Int64} {As : List Value} (X : OK l R K x cc nL own) (hD : va_D (cx_A x) ws) (L : LkS own i y b mL (some .long) n)  (hM : CtL l y b mL k K As wc z wc') (J : Jn ws wc wc' ws') (hn : As.length = n) (hR : (rmK k).frames + 1 ≤ R.frames ∧ 8 + (mL + 11) + (rmK k).locals ≤ R.locals) (hr : (rest.map fun v => v.category).sum ≤ 8) (hdg : decode cc pc = .ok (.invokestatic i, 3)) (kk : GG l R K x ws' (pc + 3) lv (.long z :: rest)) : GG l R K x ws pc lv (As.reverse ++ rest) := by
  intro H locs ls hP hS hl
  have hPc := jn_sub J.1 hP
  have hF := jn_free J.1 hD hS X.2.1
  refine va_calll (va_runS (As := As) (rest := rest) (g := F0 (cx_m x) pc ls (As.reverse ++ rest)) X.1.1 (hM H.size) ⟨callB_of n X.1.1.2.2.2.2 (tt_good L.2.2.2.1) rfl rfl rfl (X.1.1.2.2.2.2 _ L.2.2.1) (X.1.1.2.2.2.2 _ L.1) L.2.2.2.2 hR, X.1.1.2.2.2.2 _ L.2.1⟩ ⟨pw_blind, fun U hU hW => ⟨rfl, by rw [hU], by rw [hU]; exact hPc, va_K.moved hW.alike X.1.2, J.2.2 _ hD⟩⟩ rfl hn (by show ls.size = nL; rw [hl.1]; exact X.1.1.2.2.1) rfl (lv_room hr) hdg ⟨X.2.2.1, X.2.2.2.1⟩) hS (fun q _ h => hF q h) hF (fun r u t H1 locs1 ht hvm hw hB hz1 hk1 hS1 => ?_)
  subst hw
  rw [ht] at hB
  exact kk H1 locs1 ls (jn_P J hP hB hk1) hS1 hl
theorem gx_callSV {l : Launch} {R : Room} {K : KK} {x : Cx} {cc : ByteArray} {nL : Nat} {own : String} {ws wc wc' ws' : va_W} {pc : Nat} {lv : List (Nat × Value)} {rest : List Value} {y : MethodName} {b : ByteArray} {mL i n : Nat} {k : Nat × Nat}  {As : List Value} (X : OK l R K x cc nL own) (hD : va_D (cx_A x) ws) (L : LkS own i y b mL none n)  (hM : CtV l y b mL k K As wc wc') (J : Jn ws wc wc' ws') (hn : As.length = n) (hR : (rmK k).frames + 1 ≤ R.frames ∧ 8 + (mL + 11) + (rmK k).locals ≤ R.locals) (hr : (rest.map fun v => v.category).sum ≤ 8) (hdg : decode cc pc = .ok (.invokestatic i, 3)) (kk : GG l R K x ws' (pc + 3) lv (rest)) : GG l R K x ws pc lv (As.reverse ++ rest) := by
  intro H locs ls hP hS hl
  have hPc := jn_sub J.1 hP
  have hF := jn_free J.1 hD hS X.2.1
  refine va_callv (va_runS (As := As) (rest := rest) (g := F0 (cx_m x) pc ls (As.reverse ++ rest)) X.1.1 (hM H.size) ⟨callB_of n X.1.1.2.2.2.2 (tt_good L.2.2.2.1) rfl rfl rfl (X.1.1.2.2.2.2 _ L.2.2.1) (X.1.1.2.2.2.2 _ L.1) L.2.2.2.2 hR, X.1.1.2.2.2.2 _ L.2.1⟩ ⟨pw_blind, fun U hU hW => ⟨rfl, by rw [hU], by rw [hU]; exact hPc, va_K.moved hW.alike X.1.2, J.2.2 _ hD⟩⟩ rfl hn (by show ls.size = nL; rw [hl.1]; exact X.1.1.2.2.1) rfl (lv_room hr) hdg ⟨X.2.2.1, X.2.2.2.1⟩) hS (fun q _ h => hF q h) hF (fun u t H1 locs1 ht hvm hw hB hz1 hk1 hS1 => ?_)
  rw [ht] at hB
  exact kk H1 locs1 ls (jn_P J hP hB hk1) hS1 hl
theorem gx_callSA {l : Launch} {R : Room} {K : KK} {x : Cx} {cc : ByteArray} {nL : Nat} {own : String} {ws wc wc' ws' : va_W} {pc : Nat} {lv : List (Nat × Value)} {rest : List Value} {y : MethodName} {b : ByteArray} {mL i n : Nat} {k : Nat × Nat} {rt : FieldType} {z : Nat} {As : List Value} (X : OK l R K x cc nL own) (hD : va_D (cx_A x) ws) (L : LkS own i y b mL (some rt) n)  (hM : CtA l y b mL rt k K As wc z wc') (J : Jn ws wc wc' ws') (hn : As.length = n) (hR : (rmK k).frames + 1 ≤ R.frames ∧ 8 + (mL + 11) + (rmK k).locals ≤ R.locals) (hr : (rest.map fun v => v.category).sum ≤ 8) (hdg : decode cc pc = .ok (.invokestatic i, 3)) (kk : GG l R K x ws' (pc + 3) lv (.ref z :: rest)) : GG l R K x ws pc lv (As.reverse ++ rest) := by
  intro H locs ls hP hS hl
  have hPc := jn_sub J.1 hP
  have hF := jn_free J.1 hD hS X.2.1
  refine va_callr (va_runS (As := As) (rest := rest) (g := F0 (cx_m x) pc ls (As.reverse ++ rest)) X.1.1 (hM H.size) ⟨callB_of n X.1.1.2.2.2.2 (tt_good L.2.2.2.1) rfl rfl rfl (X.1.1.2.2.2.2 _ L.2.2.1) (X.1.1.2.2.2.2 _ L.1) L.2.2.2.2 hR, X.1.1.2.2.2.2 _ L.2.1⟩ ⟨pw_blind, fun U hU hW => ⟨rfl, by rw [hU], by rw [hU]; exact hPc, va_K.moved hW.alike X.1.2, J.2.2 _ hD⟩⟩ rfl hn (by show ls.size = nL; rw [hl.1]; exact X.1.1.2.2.1) rfl (lv_room hr) hdg ⟨X.2.2.1, X.2.2.2.1⟩) hS (fun q _ h => hF q h) hF (fun u ra t H1 locs1 ht hvm hw hB hz1 hk1 hS1 => ?_)
  obtain ⟨rfl, hP1⟩ := hB
  rw [ht] at hP1
  exact kk H1 locs1 ls (jn_P J hP hP1 hk1) hS1 hl
