/-! the law: rules for the script, for two like answers, for the left side of a world -/
section GL
variable {l : Launch} {R : Room} {K : KK} {x : Cx} {cc : ByteArray} {nL : Nat} {own : String} {ws : va_W} {pc : Nat} {lv : List (Nat × Value)} {st : List Value}
theorem gx_sld (X : OK l R K x cc nL own) {b L : Nat} {xs : Nat → Int32} (hX : va_X b L xs (cx_s x) (cx_s x).heap) (hbl : b < (cx_s x).heap.size) (hbA : ¬ cx_A x b) {z v : Int} (hz : 0 ≤ z ∧ z < (L : Int) ∧ z ≤ 2147483647) (hv : xs z.toNat = iI v) (hdg : decode cc pc = .ok (.iaload, 1)) (kk : GG l R K x ws (pc + 1) lv (.int (iI v) :: st)) : GG l R K x ws pc lv (.int (iI z) :: .ref b :: st) := by
  intro H locs ls hP hS hl
  refine va_sld X.1.1.1 X.1.1.2.1 hX hbl hbA hS (iI_in hz.1 hz.2.1 hz.2.2) hdg ?_
  rw [iI_clamp ⟨by omega, hz.2.2⟩, hv]
  exact kk H locs ls hP hS hl
theorem gx_slen (X : OK l R K x cc nL own) {b L : Nat} {xs : Nat → Int32} (hX : va_X b L xs (cx_s x) (cx_s x).heap) (hbl : b < (cx_s x).heap.size) (hbA : ¬ cx_A x b) (hdg : decode cc pc = .ok (.arraylength, 1)) (kk : GG l R K x ws (pc + 1) lv (.int (iI (L : Int)) :: st)) : GG l R K x ws pc lv (.ref b :: st) := by
  intro H locs ls hP hS hl
  exact va_slen X.1.1.1 X.1.1.2.1 hX hbl hbA hS hdg (kk H locs ls hP hS hl)
theorem gx_same (X : OK l R K x cc nL own) {a b : Int} {off : Int} {tgt : Nat} (hdg : decode cc pc = .ok (.if_icmp .eq off, 3)) (ht : (pc : Int) + off = (tgt : Int)) (e : a = b) (kk : GG l R K x ws tgt lv st) : GG l R K x ws pc lv (.int (iI b) :: .int (iI a) :: st) := by
  intro H locs ls hP hS hl
  subst e
  exact lv_icmp_eq X.1.1.1 X.1.1.2.1 hdg ht (fun _ => kk H locs ls hP hS hl) (fun q => absurd rfl q)
end GL
theorem jn_l {A0 : Nat → Prop} {A B A' : va_W} (hD : va_D A0 (A ++ B)) : Jn (A ++ B) A A' (A' ++ B) := by
  refine ⟨fun q h => List.mem_append_left _ h, fun q h => ?_, fun A9 hA => ?_⟩
  · rcases List.mem_append.mp h with h1 | h1
    · exact Or.inl h1
    · right
      refine ⟨List.mem_append_right _ h1, fun h2 => ?_⟩
      obtain ⟨q2, h3, h4⟩ := List.mem_map.mp h2
      obtain ⟨i, hi⟩ := List.getElem?_of_mem h1
      obtain ⟨j, hj⟩ := List.getElem?_of_mem h3
      have jl := (List.getElem?_eq_some_iff.mp hj).1
      have e := hD.1 j (A.length + i) q2 q (by rw [List.getElem?_append_left jl]; exact hj) (by rw [List.getElem?_append_right (by omega), Nat.add_sub_cancel_left]; exact hi) h4
      omega
  · refine ⟨fun i j p q hi hj e => ?_, fun _ _ _ => trivial⟩
    have il := (List.getElem?_eq_some_iff.mp hi).1
    have jl := (List.getElem?_eq_some_iff.mp hj).1
    exact hA.1 i j p q (by rw [List.getElem?_append_left il]; exact hi) (by rw [List.getElem?_append_left jl]; exact hj) e
def LwX (l : Launch) (K : KK) (x : Cx) (b L : Nat) (xs : Nat → Int32) (u r : Nat → Nat) (ca : Nat → Nat → Nat) (q : Nat → Nat) : Prop := OK l room_1 K x cL_law 4 RL ∧ va_X b L xs (cx_s x) (cx_s x).heap ∧ b < (cx_s x).heap.size ∧ ¬ cx_A x b ∧ (∀ (T : TS) (S : Sta), va_D (cx_A x) (wT K u r ca T ++ wM K q S))
