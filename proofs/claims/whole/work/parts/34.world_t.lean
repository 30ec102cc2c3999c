/-! THE CLASS'S WORLD: object, band, wrongTurns, planner, sixteen cards (nine cells each) -/
theorem fl_len {α : Type} (f : Nat → List α) (h : ∀ i, (f i).length = 9) : ∀ n : Nat, ((List.range n).flatMap f).length = 9 * n := by
  intro n
  induction n with
  | zero => rfl
  | succ n ih =>
    rw [List.range_succ, List.flatMap_append, List.length_append, ih]
    simp [h]
    omega
theorem fl_get {α : Type} (f : Nat → List α) (h : ∀ i, (f i).length = 9) : ∀ (n i k : Nat), i < n → k < 9 → ((List.range n).flatMap f)[9 * i + k]? = (f i)[k]? := by
  intro n
  induction n with
  | zero => intro i k hi; omega
  | succ n ih =>
    intro i k hi hk
    rw [List.range_succ, List.flatMap_append]
    by_cases e : i < n
    · rw [List.getElem?_append_left (by rw [fl_len f h]; omega)]
      exact ih i k e hk
    · have e2 : i = n := by omega
      subst e2
      rw [List.getElem?_append_right (by rw [fl_len f h]; omega), fl_len f h, Nat.add_sub_cancel_left]
      simp
theorem fl_set {α : Type} (f : Nat → List α) (h : ∀ i, (f i).length = 9) (n i k : Nat) (x : α) (hi : i < n) (hk : k < 9) : ((List.range n).flatMap f).set (9 * i + k) x = (List.range n).flatMap (fun j => if j = i then (f i).set k x else f j) := by
  have h2 : ∀ j, ((fun j => if j = i then (f i).set k x else f j) j).length = 9 := fun j => by
    show (if j = i then (f i).set k x else f j).length = 9
    split
    · rw [List.length_set]; exact h i
    · exact h j
  apply List.ext_getElem?
  intro m
  by_cases hm : m < 9 * n
  · have e1 : m = 9 * (m / 9) + m % 9 := by omega
    have m1 : m / 9 < n := by omega
    have m2 : m % 9 < 9 := by omega
    rw [e1, fl_get _ h2 n (m / 9) (m % 9) m1 m2]
    by_cases e : m / 9 = i
    · rw [e, if_pos rfl]
      by_cases e3 : m % 9 = k
      · rw [e3, List.getElem?_set_self (by rw [fl_len f h]; omega), List.getElem?_set_self (by rw [h]; omega)]
      · rw [List.getElem?_set_ne (by omega), List.getElem?_set_ne (Ne.symm e3), fl_get f h n i (m % 9) hi m2]
    · rw [if_neg e, List.getElem?_set_ne (by omega), fl_get f h n (m / 9) (m % 9) m1 m2]
  · rw [List.getElem?_eq_none (by rw [List.length_set, fl_len f h]; omega), List.getElem?_eq_none (by rw [fl_len _ h2]; omega)]
abbrev TS : Type := (Nat → Int) × (Int → Int) × PSt × (Int → Sta)
def wCs (K : KK) (ca : Nat → Nat → Nat) (C : Int → Sta) : va_W := (List.range 16).flatMap (fun i => wC K (ca i) (C (i : Int)))
def wT (K : KK) (u r : Nat → Nat) (ca : Nat → Nat → Nat) (T : TS) : va_W := [(u 0, .inr (2, [.ref (u 1), .ref (r 0), .ref (u 2), .int (iI (T.1 0)), .int (iI (T.1 1)), .int (iI (T.1 2)), .int (iI (T.1 3))])), (u 1, zR K 16 (fun i => some (ca i 0))), (u 2, zA K 60 T.2.1)] ++ (wP K r T.2.2.1 ++ wCs K ca T.2.2.2)
def tI (T : TS) (j : Nat) (v : Int) : TS := (fun i => if i = j then v else T.1 i, T.2)
def tW (T : TS) (z v : Int) : TS := (T.1, iu T.2.1 z v, T.2.2)
def tP (T : TS) (P : PSt) : TS := (T.1, T.2.1, P, T.2.2.2)
def tC (T : TS) (i : Int) (S : Sta) : TS := (T.1, T.2.1, T.2.2.1, iu T.2.2.2 i S)
theorem wC_len (K : KK) (q : Nat → Nat) (S : Sta) : (wC K q S).length = 9 := rfl
theorem wT_card (K : KK) (u r : Nat → Nat) (ca : Nat → Nat → Nat) (T : TS) {i : Int} (hi : 0 ≤ i ∧ i < 16) {k : Nat} (hk : k < 9) : (wT K u r ca T)[6 + (9 * i.toNat + k)]? = (wC K (ca i.toNat) (T.2.2.2 i))[k]? := by
  unfold wT
  rw [List.getElem?_append_right (by simp; omega)]
  show (wP K r T.2.2.1 ++ wCs K ca T.2.2.2)[6 + (9 * i.toNat + k) - 3]? = _
  rw [List.getElem?_append_right (by simp [wP]; omega)]
  show (wCs K ca T.2.2.2)[6 + (9 * i.toNat + k) - 3 - 3]? = _
  rw [show 6 + (9 * i.toNat + k) - 3 - 3 = 9 * i.toNat + k by omega]
  unfold wCs
  rw [fl_get _ (fun _ => rfl) 16 i.toNat k (by omega) hk, Int.toNat_of_nonneg hi.1]
theorem wT_set (K : KK) (u r : Nat → Nat) (ca : Nat → Nat → Nat) (T : TS) {i : Int} (hi : 0 ≤ i ∧ i < 16) {k : Nat} (hk : k < 9) (x : Nat × va_E) {S' : Sta} (hs : (wC K (ca i.toNat) (T.2.2.2 i)).set k x = wC K (ca i.toNat) S') : (wT K u r ca T).set (6 + (9 * i.toNat + k)) x = wT K u r ca (tC T i S') := by
  unfold wT
  rw [List.set_append_right _ _ (by simp; omega)]
  congr 1
  show (wP K r T.2.2.1 ++ wCs K ca T.2.2.2).set (6 + (9 * i.toNat + k) - 3) x = wP K r T.2.2.1 ++ wCs K ca (iu T.2.2.2 i S')
  rw [List.set_append_right _ _ (by simp [wP]; omega)]
  congr 1
  show (wCs K ca T.2.2.2).set (6 + (9 * i.toNat + k) - 3 - 3) x = _
  rw [show 6 + (9 * i.toNat + k) - 3 - 3 = 9 * i.toNat + k by omega]
  unfold wCs
  rw [fl_set _ (fun _ => rfl) 16 i.toNat k x (by omega) hk]
  congr 1
  funext j
  by_cases e : j = i.toNat
  · subst e
    rw [if_pos rfl, Int.toNat_of_nonneg hi.1, hs, iu_same]
  · rw [if_neg e, iu_ne _ _ (by omega)]
