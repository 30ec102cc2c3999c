/-! BASE 2: signed remainder, array length, copies within an array, one cell of a world -/
def zi_rem (a b : Int) : Int := if 0 ≤ a then a % b else -((-a) % b)
theorem iI_remT {a b : Int} (ha : -2147483647 ≤ a ∧ a ≤ 2147483647) (hb : 0 < b ∧ b ≤ 2147483647) : iI a - iI a / iI b * iI b = iI (zi_rem a b) := by
  unfold zi_rem
  by_cases h : 0 ≤ a
  · rw [if_pos h]
    exact iI_rem h ha.2 hb.1 hb.2
  · rw [if_neg h]
    have hd : iI a / iI b = iI (-((-a) / b)) := by
      apply Int32.toInt_inj.mp
      have h1 : (-a) / b ≤ -a := Int.ediv_le_self b (by omega)
      have h2 : 0 ≤ (-a) / b := Int.ediv_nonneg (by omega) (by omega)
      rw [Int32.toInt_div_of_ne_left, iI_toInt ⟨by omega, by omega⟩, iI_toInt ⟨by omega, by omega⟩, iI_toInt ⟨by omega, by omega⟩]
      · have h3 : a.tdiv b = -((-a).tdiv b) := by rw [Int.neg_tdiv, Int.neg_neg]
        rw [h3, Int.tdiv_eq_ediv_of_nonneg (by omega)]
      · intro h4
        have h5 := congrArg Int32.toInt h4
        rw [iI_toInt ⟨by omega, by omega⟩] at h5
        have h6 : Int32.minValue.toInt = -2147483648 := by decide
        omega
    rw [hd, iI_mul, iI_sub]
    congr 1
    have h7 := Int.emod_add_mul_ediv (-a) b
    have h8 : -((-a) / b) * b = -(b * ((-a) / b)) := by rw [Int.neg_mul, Int.mul_comm]
    omega
def icpy (g : Int → Int) (sp dp n : Int) : Int → Int := fun k => if dp ≤ k ∧ k < dp + n then g (sp + (k - dp)) else g k
theorem ia_cpy (g : Int → Int) (sp dp n : Nat) : va_cpy (ia g) (ia g) sp dp n = ia (icpy g sp dp n) := by
  funext k
  unfold va_cpy ia icpy
  by_cases h : dp ≤ k ∧ k < dp + n
  · rw [if_pos h, if_pos ⟨by omega, by omega⟩]
    congr 2
    omega
  · rw [if_neg h, if_neg (fun q => h ⟨by omega, by omega⟩)]
section GG2
variable {l : Launch} {R : Room} {K : KK} {x : Cx} {cc : ByteArray} {nL : Nat} {own : String} {ws : va_W} {pc : Nat} {lv : List (Nat × Value)} {st : List Value}
theorem gx_iremT (X : OK l R K x cc nL own) {a b : Int} (hdg : decode cc pc = .ok (.irem, 1)) (h : (-2147483647 ≤ a ∧ a ≤ 2147483647) ∧ (0 < b ∧ b ≤ 2147483647)) (kk : GG l R K x ws (pc + 1) lv (.int (iI (zi_rem a b)) :: st)) : GG l R K x ws pc lv (.int (iI b) :: .int (iI a) :: st) := by
  intro H locs ls hP hS hl
  exact lv_irem X.1.1.1 X.1.1.2.1 hdg (iI_ne0 h.2.1 h.2.2) (by rw [iI_remT h.1 h.2]; exact kk H locs ls hP hS hl)
theorem gx_alen (X : OK l R K x cc nL own) {a n : Nat} {g : Int → Int} (q0 : Nat) (ha : ws[q0]? = some (a, zA K n g)) (hdg : decode cc pc = .ok (.arraylength, 1)) (kk : GG l R K x ws (pc + 1) lv (.int (iI (n : Int)) :: st)) : GG l R K x ws pc lv (.ref a :: st) := by
  intro H locs ls hP hS hl
  refine va_alen X.1.1.1 X.1.1.2.1 X.1.2 hP q0 0 ha rfl (v := iI (n : Int)) ?_ hdg (kk H locs ls hP hS hl)
  show Int32.ofNat n = Int32.ofInt n
  rfl
theorem gx_alenL (X : OK l R K x cc nL own) {a n : Nat} {g : Int → Int64} (q0 : Nat) (ha : ws[q0]? = some (a, zL K n g)) (hdg : decode cc pc = .ok (.arraylength, 1)) (kk : GG l R K x ws (pc + 1) lv (.int (iI (n : Int)) :: st)) : GG l R K x ws pc lv (.ref a :: st) := by
  intro H locs ls hP hS hl
  refine va_alen X.1.1.1 X.1.1.2.1 X.1.2 hP q0 1 ha rfl (v := iI (n : Int)) ?_ hdg (kk H locs ls hP hS hl)
  show Int32.ofNat n = Int32.ofInt n
  rfl
theorem gx_copy (X : OK l R K x cc nL own) (hD : va_D (cx_A x) ws) {a n i : Nat} {g : Int → Int} (sp dp m : Nat) {zs zd zm : Int} (es : zs = sp) (ed : zd = dp) (em : zm = m) (q0 : Nat) (ha : ws[q0]? = some (a, zA K n g)) (h4 : sp + m ≤ n ∧ dp + m ≤ n ∧ n < 2147483648) (hlink : Cond.methodLink own i arraycopyName ∈ TT) (hnat : Cond.native arraycopyName ∈ TT) (hstat : Cond.static arraycopyName ∈ TT) (hini : Cond.initialized "java/lang/System" ∈ TT) (hR : 1 ≤ R.frames ∧ (st.map fun v => v.category).sum + (nativeFrameWords "java/lang/System" "arraycopy" 5 + 11) ≤ R.locals) {ws' : va_W} (hset : ws.set q0 (a, zA K n (icpy g sp dp m)) = ws') (hdg : decode cc pc = .ok (.invokestatic i, 3)) (kk : GG l R K x ws' (pc + 3) lv st) : GG l R K x ws pc lv (.int (iI zm) :: .int (iI zd) :: .ref a :: .int (iI zs) :: .ref a :: st) := by
  subst es; subst ed; subst em; subst hset
  intro H locs ls hP hS hl
  have c1 : (iI (sp : Int)).toNatClampNeg = sp := by rw [iI_clamp ⟨by omega, by omega⟩]; omega
  have c2 : (iI (dp : Int)).toNatClampNeg = dp := by rw [iI_clamp ⟨by omega, by omega⟩]; omega
  have c3 : (iI (m : Int)).toNatClampNeg = m := by rw [iI_clamp ⟨by omega, by omega⟩]; omega
  have nn : ∀ k : Nat, k < 2147483648 → ¬ iI (k : Int) < 0 := fun k hk => by rw [← iI_z, iI_lt ⟨by omega, by omega⟩ ok_z]; omega
  refine va_copyi (ty := .int) X.1.1.1 X.1.1.2.1 (by rw [hl.1]) X.1.1.2.2.2.1 (X.1.1.2.2.2.2 _ hlink) (X.1.1.2.2.2.2 _ hnat) (X.1.1.2.2.2.2 _ hstat) (X.1.1.2.2.2.2 _ hini) X.1.2 hP hD hS q0 q0 0 0 ha ha rfl rfl rfl (nn sp (by omega)) (nn dp (by omega)) (nn m (by omega)) (by rw [c1, c3]; exact h4.1) (by rw [c2, c3]; exact h4.2.1) (fun _ _ => rfl) hR.1 hR.2 hdg (fun H1 locs1 hP1 _ hS1 => ?_)
  rw [c1, c2, c3, ia_cpy] at hP1
  exact kk H1 locs1 ls hP1 hS1 hl
end GG2
theorem jn_cell {A : Nat → Prop} {ws : va_W} {i : Nat} {a : Nat} {e e' : va_E} (hi : ws[i]? = some (a, e)) (hD : va_D A ws) : Jn ws [(a, e)] [(a, e')] (ws.set i (a, e')) := by
  have hl := (List.getElem?_eq_some_iff.mp hi).1
  refine ⟨fun q h => ?_, fun q h => ?_, fun A' _ => ?_⟩
  · rw [List.mem_singleton.mp h]
    exact List.mem_of_getElem? hi
  · obtain ⟨k, hk⟩ := List.getElem?_of_mem h
    by_cases e1 : k = i
    · subst e1
      rw [List.getElem?_set_self hl] at hk
      left
      rw [← Option.some.inj hk]
      exact List.mem_singleton.mpr rfl
    · rw [List.getElem?_set_ne (Ne.symm e1)] at hk
      right
      refine ⟨List.mem_of_getElem? hk, fun h2 => e1 (hD.1 k i q (a, e) hk hi ?_)⟩
      simpa using h2
  · refine ⟨fun i j p q h1 h2 _ => ?_, fun k q h => trivial⟩
    have a1 := (List.getElem?_eq_some_iff.mp h1).1
    have a2 := (List.getElem?_eq_some_iff.mp h2).1
    simp at a1 a2
    omega
/-- a whole array of a state is another one -/
def mW (S : Sta) (k : Nat) (g : Int → Int) : Sta := (S.1, fun i => if i = k then g else S.2 i)
