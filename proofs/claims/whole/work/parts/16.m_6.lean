def M_look_l28 (S : Sta) (c : Int) (v2 : Int) (v3 : Int) (v4 : Int) : Nat → Int → Sta → Sta
  | 0, v5, S28 => S28
  | fu + 1, v5, S28 => if 30 < v5 then S28 else M_look_l28 S c v2 v3 v4 fu (v5 + 1) (mA S28 17 (M_spot (S.1 3) v2 v3 v4 v5) (M_size ((S.2 4 c) + v5)))
theorem M_look_l28_s (S : Sta) (c : Int) (v2 : Int) (v3 : Int) (v4 : Int) (fu : Nat) (v5 : Int) (S28 : Sta) : M_look_l28 S c v2 v3 v4 (fu + 1) v5 S28 = (if 30 < v5 then S28 else M_look_l28 S c v2 v3 v4 fu (v5 + 1) (mA S28 17 (M_spot (S.1 3) v2 v3 v4 v5) (M_size ((S.2 4 c) + v5)))) := rfl
def M_look_l17 (S : Sta) (c : Int) (v2 : Int) (v3 : Int) : Nat → Int → Sta → Sta
  | 0, v4, S17 => S17
  | fu + 1, v4, S17 => if 10 ≤ v4 then S17 else (fun (z28 : Sta) => M_look_l17 S c v2 v3 fu (v4 + 1) z28) (M_look_l28 S c v2 v3 v4 (62) (-30) S17)
theorem M_look_l17_s (S : Sta) (c : Int) (v2 : Int) (v3 : Int) (fu : Nat) (v4 : Int) (S17 : Sta) : M_look_l17 S c v2 v3 (fu + 1) v4 S17 = (if 10 ≤ v4 then S17 else (fun (z28 : Sta) => M_look_l17 S c v2 v3 fu (v4 + 1) z28) (M_look_l28 S c v2 v3 v4 (62) (-30) S17)) := rfl
def M_look_l9 (S : Sta) (c : Int) (v2 : Int) : Nat → Int → Sta → Sta
  | 0, v3, S9 => S9
  | fu + 1, v3, S9 => if 4 ≤ v3 then S9 else (fun (z17 : Sta) => M_look_l9 S c v2 fu (v3 + 1) z17) (M_look_l17 S c v2 v3 (11) 0 S9)
theorem M_look_l9_s (S : Sta) (c : Int) (v2 : Int) (fu : Nat) (v3 : Int) (S9 : Sta) : M_look_l9 S c v2 (fu + 1) v3 S9 = (if 4 ≤ v3 then S9 else (fun (z17 : Sta) => M_look_l9 S c v2 fu (v3 + 1) z17) (M_look_l17 S c v2 v3 (11) 0 S9)) := rfl
def M_look_l2 (S : Sta) (c : Int) : Nat → Int → Sta → Sta
  | 0, v2, S2 => S2
  | fu + 1, v2, S2 => if 4 ≤ v2 then S2 else (fun (z9 : Sta) => M_look_l2 S c fu (v2 + 1) z9) (M_look_l9 S c v2 (5) 0 S2)
theorem M_look_l2_s (S : Sta) (c : Int) (fu : Nat) (v2 : Int) (S2 : Sta) : M_look_l2 S c (fu + 1) v2 S2 = (if 4 ≤ v2 then S2 else (fun (z9 : Sta) => M_look_l2 S c fu (v2 + 1) z9) (M_look_l9 S c v2 (5) 0 S2)) := rfl
def M_look_l143 (c : Int) (v2 : Int) (v3 : Int) (v4 : Int) (v5 : Int) (v6 : Int) (S130 : Sta) : Nat → Int → Int → Int
  | 0, v7, v8 => v7
  | fu + 1, v7, v8 => if 3 ≤ v8 then v7 else (fun (m182 : Int) => (fun (m198 : Int) => M_look_l143 c v2 v3 v4 v5 v6 S130 fu m198 (v8 + 1)) (if v7 ≤ m182 then v7 else m182)) (if v5 = 9 then if v8 = 2 then 1000000 else (M_by S130 c v2 v3 v4 v5 v6 v8) else (M_by S130 c v2 v3 v4 v5 v6 v8))
theorem M_look_l143_s (c : Int) (v2 : Int) (v3 : Int) (v4 : Int) (v5 : Int) (v6 : Int) (S130 : Sta) (fu : Nat) (v7 : Int) (v8 : Int) : M_look_l143 c v2 v3 v4 v5 v6 S130 (fu + 1) v7 v8 = (if 3 ≤ v8 then v7 else (fun (m182 : Int) => (fun (m198 : Int) => M_look_l143 c v2 v3 v4 v5 v6 S130 fu m198 (v8 + 1)) (if v7 ≤ m182 then v7 else m182)) (if v5 = 9 then if v8 = 2 then 1000000 else (M_by S130 c v2 v3 v4 v5 v6 v8) else (M_by S130 c v2 v3 v4 v5 v6 v8))) := rfl
def M_look_l130 (c : Int) (v2 : Int) (v3 : Int) (v4 : Int) (v5 : Int) : Nat → Int → Sta → Sta
  | 0, v6, S130 => S130
  | fu + 1, v6, S130 => if v2 < v6 then S130 else (fun (z143 : Int) => M_look_l130 c v2 v3 v4 v5 fu (v6 + 1) (mA S130 17 (M_spot v2 v3 v4 v5 v6) z143)) (M_look_l143 c v2 v3 v4 v5 v6 S130 (4) 1000000 0)
theorem M_look_l130_s (c : Int) (v2 : Int) (v3 : Int) (v4 : Int) (v5 : Int) (fu : Nat) (v6 : Int) (S130 : Sta) : M_look_l130 c v2 v3 v4 v5 (fu + 1) v6 S130 = (if v2 < v6 then S130 else (fun (z143 : Int) => M_look_l130 c v2 v3 v4 v5 fu (v6 + 1) (mA S130 17 (M_spot v2 v3 v4 v5 v6) z143)) (M_look_l143 c v2 v3 v4 v5 v6 S130 (4) 1000000 0)) := rfl
def M_look_l119 (c : Int) (v2 : Int) (v3 : Int) (v4 : Int) : Nat → Int → Sta → Sta
  | 0, v5, S119 => S119
  | fu + 1, v5, S119 => if 10 ≤ v5 then S119 else (fun (z130 : Sta) => M_look_l119 c v2 v3 v4 fu (v5 + 1) z130) (M_look_l130 c v2 v3 v4 v5 (62) (-v2) S119)
theorem M_look_l119_s (c : Int) (v2 : Int) (v3 : Int) (v4 : Int) (fu : Nat) (v5 : Int) (S119 : Sta) : M_look_l119 c v2 v3 v4 (fu + 1) v5 S119 = (if 10 ≤ v5 then S119 else (fun (z130 : Sta) => M_look_l119 c v2 v3 v4 fu (v5 + 1) z130) (M_look_l130 c v2 v3 v4 v5 (62) (-v2) S119)) := rfl
def M_look_l110 (c : Int) (v2 : Int) (v3 : Int) : Nat → Int → Sta → Sta
  | 0, v4, S110 => S110
  | fu + 1, v4, S110 => if 4 ≤ v4 then S110 else (fun (z119 : Sta) => M_look_l110 c v2 v3 fu (v4 + 1) z119) (M_look_l119 c v2 v3 v4 (11) 0 S110)
theorem M_look_l110_s (c : Int) (v2 : Int) (v3 : Int) (fu : Nat) (v4 : Int) (S110 : Sta) : M_look_l110 c v2 v3 (fu + 1) v4 S110 = (if 4 ≤ v4 then S110 else (fun (z119 : Sta) => M_look_l110 c v2 v3 fu (v4 + 1) z119) (M_look_l119 c v2 v3 v4 (11) 0 S110)) := rfl
def M_look_l102 (c : Int) (v2 : Int) : Nat → Int → Sta → Sta
  | 0, v3, S102 => S102
  | fu + 1, v3, S102 => if 4 ≤ v3 then S102 else (fun (z110 : Sta) => M_look_l102 c v2 fu (v3 + 1) z110) (M_look_l110 c v2 v3 (5) 0 S102)
theorem M_look_l102_s (c : Int) (v2 : Int) (fu : Nat) (v3 : Int) (S102 : Sta) : M_look_l102 c v2 (fu + 1) v3 S102 = (if 4 ≤ v3 then S102 else (fun (z110 : Sta) => M_look_l102 c v2 fu (v3 + 1) z110) (M_look_l110 c v2 v3 (5) 0 S102)) := rfl
def M_look_l96 (c : Int) : Nat → Int → Sta → Sta
  | 0, v2, S96 => S96
  | fu + 1, v2, S96 => if v2 < 0 then S96 else (fun (z102 : Sta) => M_look_l96 c fu (v2 + (-1)) z102) (M_look_l102 c v2 (5) 0 S96)
theorem M_look_l96_s (c : Int) (fu : Nat) (v2 : Int) (S96 : Sta) : M_look_l96 c (fu + 1) v2 S96 = (if v2 < 0 then S96 else (fun (z102 : Sta) => M_look_l96 c fu (v2 + (-1)) z102) (M_look_l102 c v2 (5) 0 S96)) := rfl
def M_look_l355 (c : Int) (z96 : Sta) (v2 : Int) (v3 : Int) (v4 : Int) (v5 : Int) (v7 : Int) (S336 : Sta) : Nat → Int → Int
  | 0, v8 => v8
  | fu + 1, v8 => if v8 = 2 then if v3 = 9 then M_look_l355 c z96 v2 v3 v4 v5 v7 S336 fu (v8 + 1) else if (M_by S336 c v7 v4 v2 v3 v5 v8) = (z96.2 17 (M_spot v7 v4 v2 v3 v5)) then v8 else M_look_l355 c z96 v2 v3 v4 v5 v7 S336 fu (v8 + 1) else if (M_by S336 c v7 v4 v2 v3 v5 v8) = (z96.2 17 (M_spot v7 v4 v2 v3 v5)) then v8 else M_look_l355 c z96 v2 v3 v4 v5 v7 S336 fu (v8 + 1)
theorem M_look_l355_s (c : Int) (z96 : Sta) (v2 : Int) (v3 : Int) (v4 : Int) (v5 : Int) (v7 : Int) (S336 : Sta) (fu : Nat) (v8 : Int) : M_look_l355 c z96 v2 v3 v4 v5 v7 S336 (fu + 1) v8 = (if v8 = 2 then if v3 = 9 then M_look_l355 c z96 v2 v3 v4 v5 v7 S336 fu (v8 + 1) else if (M_by S336 c v7 v4 v2 v3 v5 v8) = (z96.2 17 (M_spot v7 v4 v2 v3 v5)) then v8 else M_look_l355 c z96 v2 v3 v4 v5 v7 S336 fu (v8 + 1) else if (M_by S336 c v7 v4 v2 v3 v5 v8) = (z96.2 17 (M_spot v7 v4 v2 v3 v5)) then v8 else M_look_l355 c z96 v2 v3 v4 v5 v7 S336 fu (v8 + 1)) := rfl
def M_look_l336 (S : Sta) (c : Int) (z96 : Sta) (m288 : Int) (m311 : Int) : Nat → Int → Int → Int → Int → Int → Sta → Int × Sta
  | 0, v2, v3, v4, v5, v7, S336 => (v5, S336)
  | fu + 1, v2, v3, v4, v5, v7, S336 => if (S.1 3) ≤ v7 then (v5, S336) else if 1000000 ≤ (z96.2 17 (M_spot 0 0 m288 m311 0)) then (v5, S336) else (fun (z355 : Int) => (fun (m478a : Int) (m478b : Int) (m478c : Int) (m478d : Int) => M_look_l336 S c z96 m288 m311 fu m478a m478b m478c m478d (v7 + 1) (mA S336 18 v7 z355)) (if z355 = 2 then v2 else (M_lies (mA S336 18 v7 z355) c ((v4 + ((if z355 = 0 then 1 else 3) : Int)) % 4) z355)) (if z355 = 2 then (v3 + 1) else 0) (if z355 = 2 then v4 else ((v4 + ((if z355 = 0 then 1 else 3) : Int)) % 4)) (if z355 = 2 then v5 else (v5 + ((if z355 = (S.2 2 c) then 1 else (-1)) : Int)))) (M_look_l355 c z96 v2 v3 v4 v5 v7 S336 (3) 0)
theorem M_look_l336_s (S : Sta) (c : Int) (z96 : Sta) (m288 : Int) (m311 : Int) (fu : Nat) (v2 : Int) (v3 : Int) (v4 : Int) (v5 : Int) (v7 : Int) (S336 : Sta) : M_look_l336 S c z96 m288 m311 (fu + 1) v2 v3 v4 v5 v7 S336 = (if (S.1 3) ≤ v7 then (v5, S336) else if 1000000 ≤ (z96.2 17 (M_spot 0 0 m288 m311 0)) then (v5, S336) else (fun (z355 : Int) => (fun (m478a : Int) (m478b : Int) (m478c : Int) (m478d : Int) => M_look_l336 S c z96 m288 m311 fu m478a m478b m478c m478d (v7 + 1) (mA S336 18 v7 z355)) (if z355 = 2 then v2 else (M_lies (mA S336 18 v7 z355) c ((v4 + ((if z355 = 0 then 1 else 3) : Int)) % 4) z355)) (if z355 = 2 then (v3 + 1) else 0) (if z355 = 2 then v4 else ((v4 + ((if z355 = 0 then 1 else 3) : Int)) % 4)) (if z355 = 2 then v5 else (v5 + ((if z355 = (S.2 2 c) then 1 else (-1)) : Int)))) (M_look_l355 c z96 v2 v3 v4 v5 v7 S336 (3) 0)) := rfl
def M_look_r336 (S : Sta) (c : Int) (z96 : Sta) (m288 : Int) (m311 : Int) (z336 : Int × Sta) : Int × Sta := ((z96.2 17 (M_spot 0 0 m288 m311 0)), (mI z336.2 5 ((S.2 4 c) + z336.1)))
def M_look_m311 (S : Sta) (c : Int) (z96 : Sta) (m288 : Int) (m311 : Int) : Int × Sta := (fun z336 => M_look_r336 S c z96 m288 m311 z336) (M_look_l336 S c z96 m288 m311 (31) m288 m311 0 0 0 z96)
def M_look_m288 (S : Sta) (c : Int) (z96 : Sta) (m288 : Int) : Int × Sta := M_look_m311 S c z96 m288 (if (S.2 5 c) ≤ 9 then (S.2 5 c) else 9)
def M_look_r96 (S : Sta) (c : Int) (z96 : Sta) : Int × Sta := M_look_m288 S c z96 (if (S.1 2) = 0 then (S.2 1 (4 * c)) else (S.2 13 ((16 * ((S.1 2) - 1)) + c)))
def M_look_r2 (S : Sta) (c : Int) (z2 : Sta) : Int × Sta := (fun z96 => M_look_r96 S c z96) (M_look_l96 c (31) ((S.1 3) - 1) z2)
def M_look (S : Sta) (c : Int) : Int × Sta := (fun z2 => M_look_r2 S c z2) (M_look_l2 S c (5) 0 S)
def M_ls (S : Sta) (c r t h n u : Int) : Int := M_look_l143 c r t h n u S 4 1000000 0
def M_mn (a b : Int) : Int := if a ≤ b then a else b
theorem M_ls_eq (S : Sta) (c r t h n u : Int) : M_ls S c r t h n u = M_mn (M_mn (M_mn 1000000 (M_by S c r t h n u 0)) (M_by S c r t h n u 1)) (if n = 9 then 1000000 else M_by S c r t h n u 2) := by
  unfold M_ls
  rw [M_look_l143_s, if_neg (by decide)]
  show M_look_l143 c r t h n u S 3 (M_mn 1000000 (if n = 9 then if (0 : Int) = 2 then 1000000 else M_by S c r t h n u 0 else M_by S c r t h n u 0)) 1 = _
  rw [if_neg (show ¬ (0 : Int) = 2 by decide), ite_self, M_look_l143_s, if_neg (by decide)]
  show M_look_l143 c r t h n u S 2 (M_mn (M_mn 1000000 (M_by S c r t h n u 0)) (if n = 9 then if (1 : Int) = 2 then 1000000 else M_by S c r t h n u 1 else M_by S c r t h n u 1)) 2 = _
  rw [if_neg (show ¬ (1 : Int) = 2 by decide), ite_self, M_look_l143_s, if_neg (by decide)]
  show M_look_l143 c r t h n u S 1 (M_mn (M_mn (M_mn 1000000 (M_by S c r t h n u 0)) (M_by S c r t h n u 1)) (if n = 9 then if (2 : Int) = 2 then 1000000 else M_by S c r t h n u 2 else M_by S c r t h n u 2)) 3 = _
  rw [if_pos (show (2 : Int) = 2 by decide), M_look_l143_s, if_pos (by decide)]
def M_rg (r t h n u : Int) : Prop := (0 ≤ t ∧ t ≤ 3) ∧ (0 ≤ h ∧ h ≤ 3) ∧ (0 ≤ n ∧ n ≤ 9) ∧ (-r ≤ u ∧ u ≤ r)
def BTab (S : Sta) (c : Int) : Prop := ∀ r t h n u : Int, 0 ≤ r → r < S.1 3 → M_rg r t h n u → S.2 17 (M_spot r t h n u) = M_ls S c r t h n u
theorem BTab_ex {S : Sta} {c r t h n u : Int} (hb : BTab S c) (h1 : 0 ≤ r ∧ r < S.1 3) (h2 : 0 ≤ t ∧ t ≤ 3) (h3 : 0 ≤ h ∧ h ≤ 3) (h4 : 0 ≤ n ∧ n ≤ 9) (h5 : -r ≤ u ∧ u ≤ r) (hl : S.2 17 (M_spot r t h n u) < 1000000) : ∃ t0 : Int, (0 ≤ t0 ∧ t0 ≤ 2) ∧ (t0 = 2 → n ≤ 8) ∧ M_by S c r t h n u t0 = S.2 17 (M_spot r t h n u) := by
  have e := (hb r t h n u h1.1 h1.2 ⟨h2, h3, h4, h5⟩).trans (M_ls_eq S c r t h n u)
  unfold M_mn at e
  by_cases g0 : M_by S c r t h n u 0 = S.2 17 (M_spot r t h n u)
  · exact ⟨0, by omega, by omega, g0⟩
  · by_cases g1 : M_by S c r t h n u 1 = S.2 17 (M_spot r t h n u)
    · exact ⟨1, by omega, by omega, g1⟩
    · exact ⟨2, by omega, by intro _; omega, by omega⟩
theorem M_by_next2 {S : Sta} {c r t h n u d : Int} (hd : d = 2) (hl : M_by S c r t h n u d < 1000000) : S.2 17 (M_spot (r + 1) t h (n + 1) u) < 1000000 := by
  unfold M_by at hl
  rw [if_pos hd] at hl
  unfold M_by_m40 M_by_m72 at hl
  omega
theorem M_by_next {S : Sta} {c r t h n u d : Int} (hd : ¬ d = 2) (hl : M_by S c r t h n u d < 1000000) : S.2 17 (M_spot (r + 1) ((t + ((if d = 0 then 1 else 3) : Int)) % 4) (M_lies S c ((t + ((if d = 0 then 1 else 3) : Int)) % 4) d) 0 (u + ((if d = S.2 2 c then 1 else (-1)) : Int))) < 1000000 := by
  unfold M_by at hl
  rw [if_neg hd] at hl
  unfold M_by_m104 M_by_m138 at hl
  omega
def M_ag (r : Int) (S S' : Sta) : Prop := S'.1 = S.1 ∧ (∀ k : Nat, k ≠ 17 → S'.2 k = S.2 k) ∧ ∀ j : Int, 9760 * (r + 1) ≤ j → S'.2 17 j = S.2 17 j
theorem M_by_ag {S S' : Sta} {r : Int} (hA : M_ag r S S') (h1 : ∀ j, 0 ≤ S.2 1 j) (c t h n u d : Int) (hr : 0 ≤ r ∧ r ≤ 29) (hg : M_rg r t h n u) : M_by S' c r t h n u d = M_by S c r t h n u d := by
  obtain ⟨g1, g2, g3, g4⟩ := hg
  have e0 := hA.2.1 0 (by decide)
  have e1 := hA.2.1 1 (by decide)
  have e2 := hA.2.1 2 (by decide)
  have e16 := hA.2.1 16 (by decide)
  have x1 := M_spot_sp (r + 1) t h (n + 1) u
  have f1 : S'.2 17 (M_spot (r + 1) t h (n + 1) u) = S.2 17 (M_spot (r + 1) t h (n + 1) u) := hA.2.2 _ (by omega)
  have hl := h1 (4 * c + ((d + 8 - (t + (if d = 0 then 1 else 3)) % 4) % 4))
  have x2 := M_spot_sp (r + 1) ((t + (if d = 0 then 1 else 3)) % 4) (M_lies S c ((t + (if d = 0 then 1 else 3)) % 4) d) 0 (u + (if d = S.2 2 c then 1 else (-1)))
  have hl2 : 0 ≤ M_lies S c ((t + (if d = 0 then 1 else 3)) % 4) d := hl
  have f2 : S'.2 17 (M_spot (r + 1) ((t + (if d = 0 then 1 else 3)) % 4) (M_lies S c ((t + (if d = 0 then 1 else 3)) % 4) d) 0 (u + (if d = S.2 2 c then 1 else (-1)))) = S.2 17 (M_spot (r + 1) ((t + (if d = 0 then 1 else 3)) % 4) (M_lies S c ((t + (if d = 0 then 1 else 3)) % 4) d) 0 (u + (if d = S.2 2 c then 1 else (-1)))) := hA.2.2 _ (by omega)
  have hli : ∀ a b : Int, M_lies S' c a b = M_lies S c a b := fun a b => by unfold M_lies; rw [e1]
  have hfi : ∀ v : Int, M_fits S' r c v = M_fits S r c v := fun v => by unfold M_fits; rw [e16]
  unfold M_by M_by_m104 M_by_m138 M_by_m40
  simp only [hfi, hli, hA.1, e0, e2, f1, f2]
theorem M_ls_ag {S S' : Sta} {r : Int} (hA : M_ag r S S') (h1 : ∀ j, 0 ≤ S.2 1 j) (c t h n u : Int) (hr : 0 ≤ r ∧ r ≤ 29) (hg : M_rg r t h n u) : M_ls S' c r t h n u = M_ls S c r t h n u := by
  rw [M_ls_eq, M_ls_eq, M_by_ag hA h1 c t h n u 0 hr hg, M_by_ag hA h1 c t h n u 1 hr hg, M_by_ag hA h1 c t h n u 2 hr hg]
def M_fill (c r : Int) (P : Int → Int → Int → Int → Prop) (S S' : Sta) : Prop := S'.1 = S.1 ∧ (∀ k : Nat, k ≠ 17 → S'.2 k = S.2 k) ∧ (∀ j : Int, (∀ t h n u : Int, M_rg r t h n u → P t h n u → j ≠ M_spot r t h n u) → S'.2 17 j = S.2 17 j) ∧ (∀ t h n u : Int, M_rg r t h n u → P t h n u → S'.2 17 (M_spot r t h n u) = M_ls S c r t h n u)
theorem M_fill_nil (c r : Int) (P : Int → Int → Int → Int → Prop) (S : Sta) (hn : ∀ t h n u : Int, M_rg r t h n u → ¬ P t h n u) : M_fill c r P S S := ⟨rfl, fun _ _ => rfl, fun _ _ => rfl, fun t h n u g p => absurd p (hn t h n u g)⟩
theorem M_fill_congr {c r : Int} {P Q : Int → Int → Int → Int → Prop} {S S' : Sta} (h : M_fill c r P S S') (e : ∀ t h n u : Int, M_rg r t h n u → (P t h n u ↔ Q t h n u)) : M_fill c r Q S S' := ⟨h.1, h.2.1, fun j hj => h.2.2.1 j (fun t g n u rg p => hj t g n u rg ((e t g n u rg).mp p)), fun t g n u rg p => h.2.2.2 t g n u rg ((e t g n u rg).mpr p)⟩
theorem M_spot_inj {r t h n u t' h' n' u' : Int} (hr : 0 ≤ r ∧ r ≤ 29) (g : M_rg r t h n u) (g' : M_rg r t' h' n' u') (e : M_spot r t h n u = M_spot r t' h' n' u') : t = t' ∧ h = h' ∧ n = n' ∧ u = u' := by
  rw [M_spot_sp, M_spot_sp] at e
  obtain ⟨a1, a2, a3, a4⟩ := g
  obtain ⟨b1, b2, b3, b4⟩ := g'
  have hu : t = t' := by omega
  subst hu
  have hh : h = h' := by omega
  subst hh
  have hn : n = n' := by omega
  subst hn
  exact ⟨rfl, rfl, rfl, by omega⟩
theorem M_fill_ag {c r r' : Int} {P : Int → Int → Int → Int → Prop} {S S' : Sta} (hr : 0 ≤ r ∧ r ≤ 29) (hr' : r ≤ r') (h : M_fill c r P S S') : M_ag r' S S' := by
  refine ⟨h.1, h.2.1, fun j hj => h.2.2.1 j (fun t g n u rg _ => ?_)⟩
  rw [M_spot_sp]
  obtain ⟨a1, a2, a3, a4⟩ := rg
  omega
theorem M_fill_seq {c r : Int} {P Q : Int → Int → Int → Int → Prop} {S S1 S2 : Sta} (hr : 0 ≤ r ∧ r ≤ 29) (h1 : ∀ j, 0 ≤ S.2 1 j) (hP : M_fill c r P S S1) (hQ : M_fill c r Q S1 S2) (hd : ∀ t h n u : Int, M_rg r t h n u → P t h n u → ¬ Q t h n u) : M_fill c r (fun t h n u => P t h n u ∨ Q t h n u) S S2 := by
  refine ⟨hQ.1.trans hP.1, fun k hk => (hQ.2.1 k hk).trans (hP.2.1 k hk), fun j hj => ?_, fun t h n u rg hpq => ?_⟩
  · exact (hQ.2.2.1 j (fun t h n u rg q => hj t h n u rg (Or.inr q))).trans (hP.2.2.1 j (fun t h n u rg p => hj t h n u rg (Or.inl p)))
  · rcases hpq with p | q
    · refine (hQ.2.2.1 _ (fun t' h' n' u' rg' q' e => ?_)).trans (hP.2.2.2 t h n u rg p)
      obtain ⟨rfl, rfl, rfl, rfl⟩ := M_spot_inj hr rg rg' e
      exact hd _ _ _ _ rg p q'
    · exact (hQ.2.2.2 t h n u rg q).trans (M_ls_ag (M_fill_ag hr (Int.le_refl r) hP) h1 c t h n u hr rg)
theorem M_fill_one (c r t h n u : Int) (S : Sta) (hr : 0 ≤ r ∧ r ≤ 29) (hg : M_rg r t h n u) : M_fill c r (fun t' h' n' u' => t' = t ∧ h' = h ∧ n' = n ∧ u' = u) S (mA S 17 (M_spot r t h n u) (M_ls S c r t h n u)) := by
  refine ⟨rfl, fun k hk => mA_ne _ _ trivial hk, fun j hj => ?_, fun t' h' n' u' _ hp => ?_⟩
  · exact iu_ne _ _ (hj t h n u hg ⟨rfl, rfl, rfl, rfl⟩)
  · obtain ⟨rfl, rfl, rfl, rfl⟩ := hp
    exact iu_same _ _ _
theorem M_fill_1 {c r : Int} {P : Int → Int → Int → Int → Prop} {S S' : Sta} (h : M_fill c r P S S') (h1 : ∀ j, 0 ≤ S.2 1 j) : ∀ j, 0 ≤ S'.2 1 j := fun j => by rw [h.2.1 1 (by decide)]; exact h1 j
theorem M_look_l130_fill (c r t h n : Int) (hr : 0 ≤ r ∧ r ≤ 29) (ht : 0 ≤ t ∧ t ≤ 3) (hh : 0 ≤ h ∧ h ≤ 3) (hn : 0 ≤ n ∧ n ≤ 9) : ∀ (fu : Nat) (v : Int) (S : Sta), (∀ j, 0 ≤ S.2 1 j) → -r ≤ v → r + 1 - v < (fu : Int) → M_fill c r (fun t' h' n' u' => t' = t ∧ h' = h ∧ n' = n ∧ v ≤ u') S (M_look_l130 c r t h n fu v S) := by
  intro fu
  induction fu with
  | zero => intro v S _ _ h2; exact M_fill_nil _ _ _ _ (fun t' h' n' u' g p => by obtain ⟨a1, a2, a3, a4⟩ := g; omega)
  | succ fu ih =>
    intro v S h1 h0 h2
    rw [M_look_l130_s]
    split
    · next hlt => exact M_fill_nil _ _ _ _ (fun t' h' n' u' g p => by obtain ⟨a1, a2, a3, a4⟩ := g; omega)
    · next hlt =>
      have o := M_fill_one c r t h n v S hr ⟨ht, hh, hn, by omega⟩
      have k := ih (v + 1) _ (M_fill_1 o h1) (by omega) (by omega)
      exact M_fill_congr (M_fill_seq hr h1 o k (fun t' h' n' u' _ p q => by omega)) (fun t' h' n' u' _ => by omega)
theorem M_look_l119_fill (c r t h : Int) (hr : 0 ≤ r ∧ r ≤ 29) (ht : 0 ≤ t ∧ t ≤ 3) (hh : 0 ≤ h ∧ h ≤ 3) : ∀ (fu : Nat) (v : Int) (S : Sta), (∀ j, 0 ≤ S.2 1 j) → 0 ≤ v → 10 - v < (fu : Int) → M_fill c r (fun t' h' n' u' => t' = t ∧ h' = h ∧ v ≤ n') S (M_look_l119 c r t h fu v S) := by
  intro fu
  induction fu with
  | zero => intro v S _ _ h2; exact M_fill_nil _ _ _ _ (fun t' h' n' u' g p => by obtain ⟨a1, a2, a3, a4⟩ := g; omega)
  | succ fu ih =>
    intro v S h1 h0 h2
    rw [M_look_l119_s]
    split
    · next hlt => exact M_fill_nil _ _ _ _ (fun t' h' n' u' g p => by obtain ⟨a1, a2, a3, a4⟩ := g; omega)
    · next hlt =>
      have o : M_fill c r (fun t' h' n' u' => t' = t ∧ h' = h ∧ n' = v) S _ := M_fill_congr (M_look_l130_fill c r t h v hr ht hh (by omega) 62 (-r) S h1 (by omega) (by omega)) (fun t' h' n' u' g => by obtain ⟨a1, a2, a3, a4⟩ := g; omega)
      have k := ih (v + 1) _ (M_fill_1 o h1) (by omega) (by omega)
      exact M_fill_congr (M_fill_seq hr h1 o k (fun t' h' n' u' _ p q => by omega)) (fun t' h' n' u' _ => by omega)
theorem M_look_l110_fill (c r t : Int) (hr : 0 ≤ r ∧ r ≤ 29) (ht : 0 ≤ t ∧ t ≤ 3) : ∀ (fu : Nat) (v : Int) (S : Sta), (∀ j, 0 ≤ S.2 1 j) → 0 ≤ v → 4 - v < (fu : Int) → M_fill c r (fun t' h' n' u' => t' = t ∧ v ≤ h') S (M_look_l110 c r t fu v S) := by
  intro fu
  induction fu with
  | zero => intro v S _ _ h2; exact M_fill_nil _ _ _ _ (fun t' h' n' u' g p => by obtain ⟨a1, a2, a3, a4⟩ := g; omega)
  | succ fu ih =>
    intro v S h1 h0 h2
    rw [M_look_l110_s]
    split
    · next hlt => exact M_fill_nil _ _ _ _ (fun t' h' n' u' g p => by obtain ⟨a1, a2, a3, a4⟩ := g; omega)
    · next hlt =>
      have o : M_fill c r (fun t' h' n' u' => t' = t ∧ h' = v) S _ := M_fill_congr (M_look_l119_fill c r t v hr ht (by omega) 11 0 S h1 (by omega) (by omega)) (fun t' h' n' u' g => by obtain ⟨a1, a2, a3, a4⟩ := g; omega)
      have k := ih (v + 1) _ (M_fill_1 o h1) (by omega) (by omega)
      exact M_fill_congr (M_fill_seq hr h1 o k (fun t' h' n' u' _ p q => by omega)) (fun t' h' n' u' _ => by omega)
theorem M_look_l102_fill (c r : Int) (hr : 0 ≤ r ∧ r ≤ 29)  : ∀ (fu : Nat) (v : Int) (S : Sta), (∀ j, 0 ≤ S.2 1 j) → 0 ≤ v → 4 - v < (fu : Int) → M_fill c r (fun t' h' n' u' => v ≤ t') S (M_look_l102 c r fu v S) := by
  intro fu
  induction fu with
  | zero => intro v S _ _ h2; exact M_fill_nil _ _ _ _ (fun t' h' n' u' g p => by obtain ⟨a1, a2, a3, a4⟩ := g; omega)
  | succ fu ih =>
    intro v S h1 h0 h2
    rw [M_look_l102_s]
    split
    · next hlt => exact M_fill_nil _ _ _ _ (fun t' h' n' u' g p => by obtain ⟨a1, a2, a3, a4⟩ := g; omega)
    · next hlt =>
      have o : M_fill c r (fun t' h' n' u' => t' = v) S _ := M_fill_congr (M_look_l110_fill c r v hr (by omega) 5 0 S h1 (by omega) (by omega)) (fun t' h' n' u' g => by obtain ⟨a1, a2, a3, a4⟩ := g; omega)
      have k := ih (v + 1) _ (M_fill_1 o h1) (by omega) (by omega)
      exact M_fill_congr (M_fill_seq hr h1 o k (fun t' h' n' u' _ p q => by omega)) (fun t' h' n' u' _ => by omega)
def BTfrom (a : Int) (S : Sta) (c : Int) : Prop := ∀ r t h n u : Int, a ≤ r → r < S.1 3 → M_rg r t h n u → S.2 17 (M_spot r t h n u) = M_ls S c r t h n u
theorem M_look_l96_bt (c : Int) : ∀ (fu : Nat) (v : Int) (S : Sta), (∀ j, 0 ≤ S.2 1 j) → S.1 3 ≤ 30 → -1 ≤ v → v ≤ S.1 3 - 1 → v + 1 < (fu : Int) → BTfrom (v + 1) S c → BTab (M_look_l96 c fu v S) c := by
  intro fu
  induction fu with
  | zero => intro v S _ _ h0 _ h2; exact absurd h2 (by omega)
  | succ fu ih =>
    intro v S h1 h30 h0 hv h2 hb
    rw [M_look_l96_s]
    split
    · next hlt => exact fun r t h n u g0 => hb r t h n u (by omega)
    · next hlt =>
      have hr : 0 ≤ v ∧ v ≤ 29 := by omega
      have f := M_look_l102_fill c v hr 5 0 S h1 (by omega) (by omega)
      have s3 : (M_look_l102 c v 5 0 S).1 3 = S.1 3 := congrFun f.1 3
      refine ih (v + -1) _ (M_fill_1 f h1) (by omega) (by omega) (by omega) (by omega) ?_
      intro r t h n u g0 g1 rg
      have hrr : 0 ≤ r ∧ r ≤ 29 := by omega
      rw [M_ls_ag (M_fill_ag hr (by omega) f) h1 c t h n u hrr rg]
      by_cases e : r = v
      · subst e
        exact f.2.2.2 t h n u rg rg.1.1
      · rw [f.2.2.1 _ (fun t' h' n' u' rg' _ => ?_)]
        · exact hb r t h n u (by omega) (by omega) rg
        · rw [M_spot_sp, M_spot_sp]
          obtain ⟨a1, a2, a3, a4⟩ := rg
          obtain ⟨b1, b2, b3, b4⟩ := rg'
          omega
theorem M_look_bt (c H : Int) (S : Sta) (hH : S.1 3 = H) (h30 : 1 ≤ H ∧ H ≤ 30) (h1 : ∀ j, 0 ≤ S.2 1 j) : BTab (M_look_l96 c 31 (H - 1) S) c := M_look_l96_bt c 31 (H - 1) S h1 (by omega) (by omega) (by omega) (by omega) (fun r t h n u g0 g1 => absurd g1 (by omega))
set_option maxRecDepth 100000 in
theorem c_M_look {l : Launch} {K : KK} {N : Int} (q : Nat → Nat) (S : Sta) (c : Int) (hI : InvW N S) (hT : InvT S) (hp2 : 0 ≤ c ∧ c < 16) : CtI l yX3_look cX3_look 10 .int (2, 55) K [.ref (q 0), .int (iI c)] (wM K q S) (M_look S c).1 (wM K q ((M_look S c).2)) := by
  refine ctI_of (by decide) (Nat.le_of_ble_eq_true rfl) rfl ?_
  intro x X hD hR
  have hD : ∀ S9 : Sta, va_D (cx_A x) (wM K q S9) := fun S9 => va_D_same hD rfl
  have hs1 := InvM_s1 hI
  have hs2 := InvM_s2 hI
  have hs3 := InvM_s3 hI
  have hs4 := InvM_s4 hI
  refine gx_iconst (z := 0) X dX3_look_0 rfl ?_
  refine gx_istore_n X dX3_look_1 rfl (by decide) rfl ?_
  have L2 : ∀ (fu : Nat) (v2 : Int) (S2 : Sta), (0 ≤ v2) → (v2 ≤ 4) → (InvW N S2) → (S2.1 = S.1) → (∀ k : Nat, k ∉ [17] → S2.2 k = S.2 k) → (4 - v2) < (fu : Int) → (∀ z2 : Sta, M_look_l2 S c fu v2 S2 = z2 → (InvW N z2) ∧ (z2.1 = S.1) ∧ (∀ k : Nat, k ∉ [17] → z2.2 k = S.2 k) → GG l (rmK (2, 55)) K x (wM K q z2) 89 [(0, .ref (q 0)), (1, .int (iI c))] []) → GG l (rmK (2, 55)) K x (wM K q S2) 2 [(0, .ref (q 0)), (1, .int (iI c)), (2, .int (iI v2))] [] := by
    intro fu
    induction fu with
    | zero => intro v2 S2 hi2_0 hi2_1 hi2_2 hi2_3 hi2_4 hm2 K2; exact absurd hm2 (by omega)
    | succ fu ih =>
      intro v2 S2 hi2_0 hi2_1 hi2_2 hi2_3 hi2_4 hm2 K2
      refine gx_iload_n X dX3_look_2 rfl 2 rfl ?_
      refine gx_iconst (z := 4) X dX3_look_3 rfl ?_
      refine gx_icmp_ge (tgt := 89) X dX3_look_4 (by decide) (by omega) (fun hc4 => ?_) (fun hc4 => ?_)
      · refine gx_sub [0, 1] rfl ?_
        exact K2 S2 ((M_look_l2_s S c fu v2 S2).trans (if_pos hc4)) ⟨hi2_2, (hi2_3 ), (fun k hk => (hi2_4  k hk))⟩
      · refine gx_iconst (z := 0) X dX3_look_7 rfl ?_
        refine gx_istore_n X dX3_look_8 rfl (by decide) rfl ?_
        have L9 : ∀ (fu : Nat) (v3 : Int) (S9 : Sta), (0 ≤ v3) → (v3 ≤ 4) → (InvW N S9) → (S9.1 = S2.1) → (∀ k : Nat, k ∉ [17] → S9.2 k = S2.2 k) → (4 - v3) < (fu : Int) → (∀ z9 : Sta, M_look_l9 S c v2 fu v3 S9 = z9 → (InvW N z9) ∧ (z9.1 = S2.1) ∧ (∀ k : Nat, k ∉ [17] → z9.2 k = S2.2 k) → GG l (rmK (2, 55)) K x (wM K q z9) 83 [(0, .ref (q 0)), (1, .int (iI c)), (2, .int (iI v2))] []) → GG l (rmK (2, 55)) K x (wM K q S9) 9 [(0, .ref (q 0)), (1, .int (iI c)), (2, .int (iI v2)), (3, .int (iI v3))] [] := by
          intro fu
          induction fu with
          | zero => intro v3 S9 hi9_0 hi9_1 hi9_2 hi9_3 hi9_4 hm9 K9; exact absurd hm9 (by omega)
          | succ fu ih =>
            intro v3 S9 hi9_0 hi9_1 hi9_2 hi9_3 hi9_4 hm9 K9
            refine gx_iload_n X dX3_look_9 rfl 3 rfl ?_
            refine gx_iconst (z := 4) X dX3_look_10 rfl ?_
            refine gx_icmp_ge (tgt := 83) X dX3_look_11 (by decide) (by omega) (fun hc11 => ?_) (fun hc11 => ?_)
            · refine gx_sub [0, 1, 2] rfl ?_
              exact K9 S9 ((M_look_l9_s S c v2 fu v3 S9).trans (if_pos hc11)) ⟨hi9_2, (hi9_3 ), (fun k hk => (hi9_4  k hk))⟩
            · refine gx_iconst (z := 0) X dX3_look_14 rfl ?_
              refine gx_istore X dX3_look_15 (by decide) rfl ?_
              have L17 : ∀ (fu : Nat) (v4 : Int) (S17 : Sta), (0 ≤ v4) → (v4 ≤ 10) → (InvW N S17) → (S17.1 = S9.1) → (∀ k : Nat, k ∉ [17] → S17.2 k = S9.2 k) → (10 - v4) < (fu : Int) → (∀ z17 : Sta, M_look_l17 S c v2 v3 fu v4 S17 = z17 → (InvW N z17) ∧ (z17.1 = S9.1) ∧ (∀ k : Nat, k ∉ [17] → z17.2 k = S9.2 k) → GG l (rmK (2, 55)) K x (wM K q z17) 77 [(0, .ref (q 0)), (1, .int (iI c)), (2, .int (iI v2)), (3, .int (iI v3))] []) → GG l (rmK (2, 55)) K x (wM K q S17) 17 [(0, .ref (q 0)), (1, .int (iI c)), (2, .int (iI v2)), (3, .int (iI v3)), (4, .int (iI v4))] [] := by
                intro fu
                induction fu with
                | zero => intro v4 S17 hi17_0 hi17_1 hi17_2 hi17_3 hi17_4 hm17 K17; exact absurd hm17 (by omega)
                | succ fu ih =>
                  intro v4 S17 hi17_0 hi17_1 hi17_2 hi17_3 hi17_4 hm17 K17
                  refine gx_iload X dX3_look_17 4 rfl ?_
                  refine gx_bipush (z := 10) X dX3_look_19 (by decide) ?_
                  refine gx_icmp_ge (tgt := 77) X dX3_look_21 (by decide) (by omega) (fun hc21 => ?_) (fun hc21 => ?_)
                  · refine gx_sub [0, 1, 2, 3] rfl ?_
                    exact K17 S17 ((M_look_l17_s S c v2 v3 fu v4 S17).trans (if_pos hc21)) ⟨hi17_2, (hi17_3 ), (fun k hk => (hi17_4  k hk))⟩
                  · refine gx_bipush (z := (-30)) X dX3_look_24 (by decide) ?_
                    refine gx_istore X dX3_look_26 (by decide) rfl ?_
                    have L28 : ∀ (fu : Nat) (v5 : Int) (S28 : Sta), (-30 ≤ v5) → (v5 ≤ 31) → (InvW N S28) → (S28.1 = S17.1) → (∀ k : Nat, k ∉ [17] → S28.2 k = S17.2 k) → (31 - v5) < (fu : Int) → (∀ z28 : Sta, M_look_l28 S c v2 v3 v4 fu v5 S28 = z28 → (InvW N z28) ∧ (z28.1 = S17.1) ∧ (∀ k : Nat, k ∉ [17] → z28.2 k = S17.2 k) → GG l (rmK (2, 55)) K x (wM K q z28) 71 [(0, .ref (q 0)), (1, .int (iI c)), (2, .int (iI v2)), (3, .int (iI v3)), (4, .int (iI v4))] []) → GG l (rmK (2, 55)) K x (wM K q S28) 28 [(0, .ref (q 0)), (1, .int (iI c)), (2, .int (iI v2)), (3, .int (iI v3)), (4, .int (iI v4)), (5, .int (iI v5))] [] := by
                      intro fu
                      induction fu with
                      | zero => intro v5 S28 hi28_0 hi28_1 hi28_2 hi28_3 hi28_4 hm28 K28; exact absurd hm28 (by omega)
                      | succ fu ih =>
                        intro v5 S28 hi28_0 hi28_1 hi28_2 hi28_3 hi28_4 hm28 K28
                        refine gx_iload X dX3_look_28 5 rfl ?_
                        refine gx_bipush (z := 30) X dX3_look_30 (by decide) ?_
                        refine gx_icmp_gt (tgt := 71) X dX3_look_32 (by decide) (by omega) (fun hc32 => ?_) (fun hc32 => ?_)
                        · refine gx_sub [0, 1, 2, 3, 4] rfl ?_
                          exact K28 S28 ((M_look_l28_s S c v2 v3 v4 fu v5 S28).trans (if_pos hc32)) ⟨hi28_2, (hi28_3 ), (fun k hk => (hi28_4  k hk))⟩
                        · refine gx_aload_n X dX3_look_35 rfl 0 rfl ?_
                          refine gM_r17 X dX3_look_36 ?_
                          refine gx_aload_n X dX3_look_39 rfl 0 rfl ?_
                          refine gM_g3 (v := (S.1 3)) X ((congrFun (hi28_3 ) 3).trans ((congrFun (hi17_3 ) 3).trans ((congrFun (hi9_3 ) 3).trans (congrFun (hi2_3 ) 3)))) dX3_look_40 ?_
                          refine gx_iload_n X dX3_look_43 rfl 2 rfl ?_
                          refine gx_iload_n X dX3_look_44 rfl 3 rfl ?_
                          refine gx_iload X dX3_look_45 4 rfl ?_
                          refine gx_iload X dX3_look_47 5 rfl ?_
                          refine gx_callSI (As := [.int (iI (S.1 3)), .int (iI v2), .int (iI v3), .int (iI v4), .int (iI v5)]) (rest := [.ref (q 18)]) X (hD _) lk_M_157 (c_M_spot (S.1 3) v2 v3 v4 v5 ) jn_nil rfl ⟨by decide, by decide⟩ (Nat.le_of_ble_eq_true rfl) dX3_look_49 ?_
                          have hq49_0 := M_spot_sp (S.1 3) v2 v3 v4 v5
                          refine gx_aload_n X dX3_look_52 rfl 0 rfl ?_
                          refine gM_r4 X dX3_look_53 ?_
                          refine gx_iload_n X dX3_look_56 rfl 1 rfl ?_
                          refine gM_l4 (v := (S.2 4 c)) X (by omega) ((congrFun (hi28_4  4 (by decide)) c).trans ((congrFun (hi17_4  4 (by decide)) c).trans ((congrFun (hi9_4  4 (by decide)) c).trans (congrFun (hi2_4  4 (by decide)) c)))) dX3_look_57 ?_
                          have hr57 := InvM_a4 hT c
                          refine gx_iload X dX3_look_58 5 rfl ?_
                          refine gx_iadd X dX3_look_60 ?_
                          refine gx_callSI (As := [.int (iI ((S.2 4 c) + v5))]) (rest := [.int (iI (M_spot (S.1 3) v2 v3 v4 v5)), .ref (q 18)]) X (hD _) lk_M_131 (c_M_size ((S.2 4 c) + v5) (by omega)) jn_nil rfl ⟨by decide, by decide⟩ (Nat.le_of_ble_eq_true rfl) dX3_look_61 ?_
                          have hq61_0 := M_size_sp ((S.2 4 c) + v5)
                          refine gM_s17 X (hD _) (by omega) dX3_look_64 ?_
                          refine gx_iinc X dX3_look_65 5 rfl (by decide) rfl ?_
                          refine gx_goto (tgt := 28) X dX3_look_68 (by decide) ?_
                          refine gx_sub [1, 2, 3, 4, 5, 0] rfl ?_
                          exact ih (v5 + 1) (mA S28 17 (M_spot (S.1 3) v2 v3 v4 v5) (M_size ((S.2 4 c) + v5))) (by omega) (by omega) (InvW.mA hi28_2 (show 0 ≤ _ ∧ _ ≤ 1000000 from by omega)) (hi28_3 ) (fun k hk => (mA_nin hk (by decide)).trans ((hi28_4  k hk))) (by omega) (fun z e hx => K28 z ((M_look_l28_s S c v2 v3 v4 fu v5 S28).trans ((if_neg hc32).trans e)) hx)
                    refine gx_sub [1, 2, 3, 4, 5, 0] rfl ?_
                    refine L28 (62) (-30) S17 (by omega) (by omega) hi17_2 rfl (fun _ _ => rfl) (by omega) (fun z28 e28 hx28 => ?_)
                    refine gx_iinc X dX3_look_71 4 rfl (by decide) rfl ?_
                    refine gx_goto (tgt := 17) X dX3_look_74 (by decide) ?_
                    refine gx_sub [1, 2, 3, 4, 0] rfl ?_
                    subst e28
                    exact ih _ _ (by omega) (by omega) hx28.1 (((hx28.2.1 )).trans (hi17_3 )) (fun k hk => ((hx28.2.2  k hk)).trans ((fun k hk => (hi17_4  k hk)) k hk)) (by omega) (fun z e hx => K17 z ((M_look_l17_s S c v2 v3 fu v4 S17).trans ((if_neg hc21).trans e)) hx)
              refine gx_sub [1, 2, 3, 4, 0] rfl ?_
              refine L17 (11) 0 S9 (by omega) (by omega) hi9_2 rfl (fun _ _ => rfl) (by omega) (fun z17 e17 hx17 => ?_)
              refine gx_iinc X dX3_look_77 3 rfl (by decide) rfl ?_
              refine gx_goto (tgt := 9) X dX3_look_80 (by decide) ?_
              refine gx_sub [1, 2, 3, 0] rfl ?_
              subst e17
              exact ih _ _ (by omega) (by omega) hx17.1 (((hx17.2.1 )).trans (hi9_3 )) (fun k hk => ((hx17.2.2  k hk)).trans ((fun k hk => (hi9_4  k hk)) k hk)) (by omega) (fun z e hx => K9 z ((M_look_l9_s S c v2 fu v3 S9).trans ((if_neg hc11).trans e)) hx)
        refine gx_sub [1, 2, 3, 0] rfl ?_
        refine L9 (5) 0 S2 (by omega) (by omega) hi2_2 rfl (fun _ _ => rfl) (by omega) (fun z9 e9 hx9 => ?_)
        refine gx_iinc X dX3_look_83 2 rfl (by decide) rfl ?_
        refine gx_goto (tgt := 2) X dX3_look_86 (by decide) ?_
        refine gx_sub [1, 2, 0] rfl ?_
        subst e9
        exact ih _ _ (by omega) (by omega) hx9.1 (((hx9.2.1 )).trans (hi2_3 )) (fun k hk => ((hx9.2.2  k hk)).trans ((fun k hk => (hi2_4  k hk)) k hk)) (by omega) (fun z e hx => K2 z ((M_look_l2_s S c fu v2 S2).trans ((if_neg hc4).trans e)) hx)
  refine gx_sub [1, 2, 0] rfl ?_
  refine L2 (5) 0 S (by omega) (by omega) hI rfl (fun _ _ => rfl) (by omega) (fun z2 e2 hx2 => ?_)
  refine gx_aload_n X dX3_look_89 rfl 0 rfl ?_
  refine gM_g3 (v := (S.1 3)) X (congrFun (hx2.2.1 ) 3) dX3_look_90 ?_
  refine gx_iconst (z := 1) X dX3_look_93 rfl ?_
  refine gx_isub X dX3_look_94 ?_
  refine gx_istore_n X dX3_look_95 rfl (by decide) rfl ?_
  have L96 : ∀ (fu : Nat) (v2 : Int) (S96 : Sta), (-1 ≤ v2) → (v2 ≤ (S.1 3) - 1) → (InvW N S96) → (S96.1 = z2.1) → (∀ k : Nat, k ∉ [17] → S96.2 k = z2.2 k) → (v2 + 1) < (fu : Int) → (∀ z96 : Sta, M_look_l96 c fu v2 S96 = z96 → (InvW N z96) ∧ (z96.1 = z2.1) ∧ (∀ k : Nat, k ∉ [17] → z96.2 k = z2.2 k) → GG l (rmK (2, 55)) K x (wM K q z96) 254 [(0, .ref (q 0)), (1, .int (iI c))] []) → GG l (rmK (2, 55)) K x (wM K q S96) 96 [(0, .ref (q 0)), (1, .int (iI c)), (2, .int (iI v2))] [] := by
    intro fu
    induction fu with
    | zero => intro v2 S96 hi96_0 hi96_1 hi96_2 hi96_3 hi96_4 hm96 K96; exact absurd hm96 (by omega)
    | succ fu ih =>
      intro v2 S96 hi96_0 hi96_1 hi96_2 hi96_3 hi96_4 hm96 K96
      refine gx_iload_n X dX3_look_96 rfl 2 rfl ?_
      refine gx_if_lt (tgt := 254) X dX3_look_97 (by decide) (by omega) (fun hc97 => ?_) (fun hc97 => ?_)
      · refine gx_sub [0, 1] rfl ?_
        exact K96 S96 ((M_look_l96_s c fu v2 S96).trans (if_pos hc97)) ⟨hi96_2, (hi96_3 ), (fun k hk => (hi96_4  k hk))⟩
      · refine gx_iconst (z := 0) X dX3_look_100 rfl ?_
        refine gx_istore_n X dX3_look_101 rfl (by decide) rfl ?_
        have L102 : ∀ (fu : Nat) (v3 : Int) (S102 : Sta), (0 ≤ v3) → (v3 ≤ 4) → (InvW N S102) → (S102.1 = S96.1) → (∀ k : Nat, k ∉ [17] → S102.2 k = S96.2 k) → (4 - v3) < (fu : Int) → (∀ z102 : Sta, M_look_l102 c v2 fu v3 S102 = z102 → (InvW N z102) ∧ (z102.1 = S96.1) ∧ (∀ k : Nat, k ∉ [17] → z102.2 k = S96.2 k) → GG l (rmK (2, 55)) K x (wM K q z102) 248 [(0, .ref (q 0)), (1, .int (iI c)), (2, .int (iI v2))] []) → GG l (rmK (2, 55)) K x (wM K q S102) 102 [(0, .ref (q 0)), (1, .int (iI c)), (2, .int (iI v2)), (3, .int (iI v3))] [] := by
          intro fu
          induction fu with
          | zero => intro v3 S102 hi102_0 hi102_1 hi102_2 hi102_3 hi102_4 hm102 K102; exact absurd hm102 (by omega)
          | succ fu ih =>
            intro v3 S102 hi102_0 hi102_1 hi102_2 hi102_3 hi102_4 hm102 K102
            refine gx_iload_n X dX3_look_102 rfl 3 rfl ?_
            refine gx_iconst (z := 4) X dX3_look_103 rfl ?_
            refine gx_icmp_ge (tgt := 248) X dX3_look_104 (by decide) (by omega) (fun hc104 => ?_) (fun hc104 => ?_)
            · refine gx_sub [0, 1, 2] rfl ?_
              exact K102 S102 ((M_look_l102_s c v2 fu v3 S102).trans (if_pos hc104)) ⟨hi102_2, (hi102_3 ), (fun k hk => (hi102_4  k hk))⟩
            · refine gx_iconst (z := 0) X dX3_look_107 rfl ?_
              refine gx_istore X dX3_look_108 (by decide) rfl ?_
              have L110 : ∀ (fu : Nat) (v4 : Int) (S110 : Sta), (0 ≤ v4) → (v4 ≤ 4) → (InvW N S110) → (S110.1 = S102.1) → (∀ k : Nat, k ∉ [17] → S110.2 k = S102.2 k) → (4 - v4) < (fu : Int) → (∀ z110 : Sta, M_look_l110 c v2 v3 fu v4 S110 = z110 → (InvW N z110) ∧ (z110.1 = S102.1) ∧ (∀ k : Nat, k ∉ [17] → z110.2 k = S102.2 k) → GG l (rmK (2, 55)) K x (wM K q z110) 242 [(0, .ref (q 0)), (1, .int (iI c)), (2, .int (iI v2)), (3, .int (iI v3))] []) → GG l (rmK (2, 55)) K x (wM K q S110) 110 [(0, .ref (q 0)), (1, .int (iI c)), (2, .int (iI v2)), (3, .int (iI v3)), (4, .int (iI v4))] [] := by
                intro fu
                induction fu with
                | zero => intro v4 S110 hi110_0 hi110_1 hi110_2 hi110_3 hi110_4 hm110 K110; exact absurd hm110 (by omega)
                | succ fu ih =>
                  intro v4 S110 hi110_0 hi110_1 hi110_2 hi110_3 hi110_4 hm110 K110
                  refine gx_iload X dX3_look_110 4 rfl ?_
                  refine gx_iconst (z := 4) X dX3_look_112 rfl ?_
                  refine gx_icmp_ge (tgt := 242) X dX3_look_113 (by decide) (by omega) (fun hc113 => ?_) (fun hc113 => ?_)
                  · refine gx_sub [0, 1, 2, 3] rfl ?_
                    exact K110 S110 ((M_look_l110_s c v2 v3 fu v4 S110).trans (if_pos hc113)) ⟨hi110_2, (hi110_3 ), (fun k hk => (hi110_4  k hk))⟩
                  · refine gx_iconst (z := 0) X dX3_look_116 rfl ?_
                    refine gx_istore X dX3_look_117 (by decide) rfl ?_
                    have L119 : ∀ (fu : Nat) (v5 : Int) (S119 : Sta), (0 ≤ v5) → (v5 ≤ 10) → (InvW N S119) → (S119.1 = S110.1) → (∀ k : Nat, k ∉ [17] → S119.2 k = S110.2 k) → (10 - v5) < (fu : Int) → (∀ z119 : Sta, M_look_l119 c v2 v3 v4 fu v5 S119 = z119 → (InvW N z119) ∧ (z119.1 = S110.1) ∧ (∀ k : Nat, k ∉ [17] → z119.2 k = S110.2 k) → GG l (rmK (2, 55)) K x (wM K q z119) 236 [(0, .ref (q 0)), (1, .int (iI c)), (2, .int (iI v2)), (3, .int (iI v3)), (4, .int (iI v4))] []) → GG l (rmK (2, 55)) K x (wM K q S119) 119 [(0, .ref (q 0)), (1, .int (iI c)), (2, .int (iI v2)), (3, .int (iI v3)), (4, .int (iI v4)), (5, .int (iI v5))] [] := by
                      intro fu
                      induction fu with
                      | zero => intro v5 S119 hi119_0 hi119_1 hi119_2 hi119_3 hi119_4 hm119 K119; exact absurd hm119 (by omega)
                      | succ fu ih =>
                        intro v5 S119 hi119_0 hi119_1 hi119_2 hi119_3 hi119_4 hm119 K119
                        refine gx_iload X dX3_look_119 5 rfl ?_
                        refine gx_bipush (z := 10) X dX3_look_121 (by decide) ?_
                        refine gx_icmp_ge (tgt := 236) X dX3_look_123 (by decide) (by omega) (fun hc123 => ?_) (fun hc123 => ?_)
                        · refine gx_sub [0, 1, 2, 3, 4] rfl ?_
                          exact K119 S119 ((M_look_l119_s c v2 v3 v4 fu v5 S119).trans (if_pos hc123)) ⟨hi119_2, (hi119_3 ), (fun k hk => (hi119_4  k hk))⟩
                        · refine gx_iload_n X dX3_look_126 rfl 2 rfl ?_
                          refine gx_ineg X dX3_look_127 ?_
                          refine gx_istore X dX3_look_128 (by decide) rfl ?_
                          have L130 : ∀ (fu : Nat) (v6 : Int) (S130 : Sta), (-v2 ≤ v6) → (v6 ≤ v2 + 1) → (InvW N S130) → (S130.1 = S119.1) → (∀ k : Nat, k ∉ [17] → S130.2 k = S119.2 k) → (v2 + 1 - v6) < (fu : Int) → (∀ z130 : Sta, M_look_l130 c v2 v3 v4 v5 fu v6 S130 = z130 → (InvW N z130) ∧ (z130.1 = S119.1) ∧ (∀ k : Nat, k ∉ [17] → z130.2 k = S119.2 k) → GG l (rmK (2, 55)) K x (wM K q z130) 230 [(0, .ref (q 0)), (1, .int (iI c)), (2, .int (iI v2)), (3, .int (iI v3)), (4, .int (iI v4)), (5, .int (iI v5))] []) → GG l (rmK (2, 55)) K x (wM K q S130) 130 [(0, .ref (q 0)), (1, .int (iI c)), (2, .int (iI v2)), (3, .int (iI v3)), (4, .int (iI v4)), (5, .int (iI v5)), (6, .int (iI v6))] [] := by
                            intro fu
                            induction fu with
                            | zero => intro v6 S130 hi130_0 hi130_1 hi130_2 hi130_3 hi130_4 hm130 K130; exact absurd hm130 (by omega)
                            | succ fu ih =>
                              intro v6 S130 hi130_0 hi130_1 hi130_2 hi130_3 hi130_4 hm130 K130
                              refine gx_iload X dX3_look_130 6 rfl ?_
                              refine gx_iload_n X dX3_look_132 rfl 2 rfl ?_
                              refine gx_icmp_gt (tgt := 230) X dX3_look_133 (by decide) (by omega) (fun hc133 => ?_) (fun hc133 => ?_)
                              · refine gx_sub [0, 1, 2, 3, 4, 5] rfl ?_
                                exact K130 S130 ((M_look_l130_s c v2 v3 v4 v5 fu v6 S130).trans (if_pos hc133)) ⟨hi130_2, (hi130_3 ), (fun k hk => (hi130_4  k hk))⟩
                              · refine gx_ldc (z := 1000000) X t_M_161 dX3_look_136 (by decide) ?_
                                refine gx_istore X dX3_look_138 (by decide) rfl ?_
                                refine gx_iconst (z := 0) X dX3_look_140 rfl ?_
                                refine gx_istore X dX3_look_141 (by decide) rfl ?_
                                have L143 : ∀ (fu : Nat) (v7 : Int) (v8 : Int), (0 ≤ v8) → (v8 ≤ 3) → (0 ≤ v7 ∧ v7 ≤ 1000000) → (3 - v8) < (fu : Int) → (∀ z143 : Int, M_look_l143 c v2 v3 v4 v5 v6 S130 fu v7 v8 = z143 → (0 ≤ z143 ∧ z143 ≤ 1000000) → GG l (rmK (2, 55)) K x (wM K q S130) 206 [(0, .ref (q 0)), (1, .int (iI c)), (2, .int (iI v2)), (3, .int (iI v3)), (4, .int (iI v4)), (5, .int (iI v5)), (6, .int (iI v6)), (7, .int (iI z143))] []) → GG l (rmK (2, 55)) K x (wM K q S130) 143 [(0, .ref (q 0)), (1, .int (iI c)), (2, .int (iI v2)), (3, .int (iI v3)), (4, .int (iI v4)), (5, .int (iI v5)), (6, .int (iI v6)), (7, .int (iI v7)), (8, .int (iI v8))] [] := by
                                  intro fu
                                  induction fu with
                                  | zero => intro v7 v8 hi143_0 hi143_1 hi143_2 hm143 K143; exact absurd hm143 (by omega)
                                  | succ fu ih =>
                                    intro v7 v8 hi143_0 hi143_1 hi143_2 hm143 K143
                                    refine gx_iload X dX3_look_143 8 rfl ?_
                                    refine gx_iconst (z := 3) X dX3_look_145 rfl ?_
                                    refine gx_icmp_ge (tgt := 206) X dX3_look_146 (by decide) (by omega) (fun hc146 => ?_) (fun hc146 => ?_)
                                    · refine gx_sub [0, 1, 2, 3, 4, 5, 6, 7] rfl ?_
                                      exact K143 v7 ((M_look_l143_s c v2 v3 v4 v5 v6 S130 fu v7 v8).trans (if_pos hc146)) (by omega)
                                    · refine gx_iload X dX3_look_149 5 rfl ?_
                                      refine gx_bipush (z := 9) X dX3_look_151 (by decide) ?_
                                      have J182 : ∀ (m182 : Int), m182 = (if v5 = 9 then if v8 = 2 then 1000000 else (M_by S130 c v2 v3 v4 v5 v6 v8) else (M_by S130 c v2 v3 v4 v5 v6 v8)) → (0 ≤ m182 ∧ m182 ≤ 1000999) → GG l (rmK (2, 55)) K x (wM K q S130) 182 [(0, .ref (q 0)), (1, .int (iI c)), (2, .int (iI v2)), (3, .int (iI v3)), (4, .int (iI v4)), (5, .int (iI v5)), (6, .int (iI v6)), (7, .int (iI v7)), (8, .int (iI v8))] [.int (iI m182)] := by
                                        intro m182 e_m182 hf182_0
                                        refine gx_istore X dX3_look_182 (by decide) rfl ?_
                                        refine gx_iload X dX3_look_184 0 rfl ?_
                                        refine gx_iload X dX3_look_186 8 rfl ?_
                                        have J198 : ∀ (m198 : Int), m198 = (if v7 ≤ m182 then v7 else m182) → GG l (rmK (2, 55)) K x (wM K q S130) 198 [(0, .ref (q 0)), (1, .int (iI c)), (2, .int (iI v2)), (3, .int (iI v3)), (4, .int (iI v4)), (5, .int (iI v5)), (6, .int (iI v6)), (7, .int (iI v7)), (8, .int (iI v8)), (9, .int (iI m182))] [.int (iI m198)] := by
                                          intro m198 e_m198
                                          refine gx_istore X dX3_look_198 (by decide) rfl ?_
                                          refine gx_iinc X dX3_look_200 8 rfl (by decide) rfl ?_
                                          refine gx_goto (tgt := 143) X dX3_look_203 (by decide) ?_
                                          refine gx_sub [2, 3, 4, 5, 6, 7, 8, 1, 0] rfl ?_
                                          subst e_m182
                                          subst e_m198
                                          exact ih _ _ (by omega) (by omega) (by omega) (by omega) (fun z e hx => K143 z ((M_look_l143_s c v2 v3 v4 v5 v6 S130 fu v7 v8).trans ((if_neg hc146).trans e)) hx)
                                        refine gx_icmp_ge (tgt := 196) X dX3_look_188 (by decide) (by omega) (fun hc188 => ?_) (fun hc188 => ?_)
                                        · refine gx_iload X dX3_look_196 8 rfl ?_
                                          refine gx_sub [1, 2, 3, 4, 5, 6, 7, 8, 9, 0] rfl ?_
                                          exact J198 v7 ((if_pos hc188).symm) 
                                        · refine gx_iload X dX3_look_191 0 rfl ?_
                                          refine gx_goto (tgt := 198) X dX3_look_193 (by decide) ?_
                                          refine gx_sub [1, 2, 3, 4, 5, 6, 7, 8, 9, 0] rfl ?_
                                          exact J198 m182 ((if_neg hc188).symm) 
                                      refine gx_icmp_ne (tgt := 167) X dX3_look_153 (by decide) (by omega) (fun hc153 => ?_) (fun hc153 => ?_)
                                      · refine gx_aload_n X dX3_look_167 rfl 0 rfl ?_
                                        refine gx_iload_n X dX3_look_168 rfl 1 rfl ?_
                                        refine gx_iload_n X dX3_look_169 rfl 2 rfl ?_
                                        refine gx_iload_n X dX3_look_170 rfl 3 rfl ?_
                                        refine gx_iload X dX3_look_171 4 rfl ?_
                                        refine gx_iload X dX3_look_173 5 rfl ?_
                                        refine gx_iload X dX3_look_175 6 rfl ?_
                                        refine gx_iload X dX3_look_177 8 rfl ?_
                                        refine gx_callVI (As := [.int (iI c), .int (iI v2), .int (iI v3), .int (iI v4), .int (iI v5), .int (iI v6), .int (iI v8)]) (rest := []) X (hD _) lk_M_168 (ci := 3) rfl rfl 0 rfl (c_M_by q S130 c v2 v3 v4 v5 v6 v8 hi130_2 (by omega) (by omega) (by omega) (by omega) (by omega) (by omega) (by omega)) jn_all rfl ⟨by decide, by decide⟩ (Nat.le_of_ble_eq_true rfl) dX3_look_179 ?_
                                        have hp179_0 := M_by_rg S130 c v2 v3 v4 v5 v6 v8 hi130_2 (by omega) (by omega) (by omega) (by omega) (by omega) (by omega) (by omega)
                                        refine gx_sub [0, 1, 2, 3, 4, 5, 6, 7, 8] rfl ?_
                                        exact J182 (M_by S130 c v2 v3 v4 v5 v6 v8) ((if_neg hc153).symm) (by omega)
                                      · refine gx_iload X dX3_look_156 8 rfl ?_
                                        refine gx_iconst (z := 2) X dX3_look_158 rfl ?_
                                        refine gx_icmp_ne (tgt := 167) X dX3_look_159 (by decide) (by omega) (fun hc159 => ?_) (fun hc159 => ?_)
                                        · refine gx_aload_n X dX3_look_167 rfl 0 rfl ?_
                                          refine gx_iload_n X dX3_look_168 rfl 1 rfl ?_
                                          refine gx_iload_n X dX3_look_169 rfl 2 rfl ?_
                                          refine gx_iload_n X dX3_look_170 rfl 3 rfl ?_
                                          refine gx_iload X dX3_look_171 4 rfl ?_
                                          refine gx_iload X dX3_look_173 5 rfl ?_
                                          refine gx_iload X dX3_look_175 6 rfl ?_
                                          refine gx_iload X dX3_look_177 8 rfl ?_
                                          refine gx_callVI (As := [.int (iI c), .int (iI v2), .int (iI v3), .int (iI v4), .int (iI v5), .int (iI v6), .int (iI v8)]) (rest := []) X (hD _) lk_M_168 (ci := 3) rfl rfl 0 rfl (c_M_by q S130 c v2 v3 v4 v5 v6 v8 hi130_2 (by omega) (by omega) (by omega) (by omega) (by omega) (by omega) (by omega)) jn_all rfl ⟨by decide, by decide⟩ (Nat.le_of_ble_eq_true rfl) dX3_look_179 ?_
                                          have hp179_0 := M_by_rg S130 c v2 v3 v4 v5 v6 v8 hi130_2 (by omega) (by omega) (by omega) (by omega) (by omega) (by omega) (by omega)
                                          refine gx_sub [0, 1, 2, 3, 4, 5, 6, 7, 8] rfl ?_
                                          exact J182 (M_by S130 c v2 v3 v4 v5 v6 v8) (((if_pos hc153).trans (if_neg hc159)).symm) (by omega)
                                        · refine gx_ldc (z := 1000000) X t_M_161 dX3_look_162 (by decide) ?_
                                          refine gx_goto (tgt := 182) X dX3_look_164 (by decide) ?_
                                          refine gx_sub [0, 1, 2, 3, 4, 5, 6, 7, 8] rfl ?_
                                          exact J182 1000000 (((if_pos hc153).trans (if_pos hc159)).symm) (by omega)
                                refine gx_sub [2, 3, 4, 5, 6, 7, 8, 1, 0] rfl ?_
                                refine L143 (4) 1000000 0 (by omega) (by omega) (by omega) (by omega) (fun z143 e143 hx143 => ?_)
                                refine gx_aload_n X dX3_look_206 rfl 0 rfl ?_
                                refine gM_r17 X dX3_look_207 ?_
                                refine gx_iload_n X dX3_look_210 rfl 2 rfl ?_
                                refine gx_iload_n X dX3_look_211 rfl 3 rfl ?_
                                refine gx_iload X dX3_look_212 4 rfl ?_
                                refine gx_iload X dX3_look_214 5 rfl ?_
                                refine gx_iload X dX3_look_216 6 rfl ?_
                                refine gx_callSI (As := [.int (iI v2), .int (iI v3), .int (iI v4), .int (iI v5), .int (iI v6)]) (rest := [.ref (q 18)]) X (hD _) lk_M_157 (c_M_spot v2 v3 v4 v5 v6 ) jn_nil rfl ⟨by decide, by decide⟩ (Nat.le_of_ble_eq_true rfl) dX3_look_218 ?_
                                have hq218_0 := M_spot_sp v2 v3 v4 v5 v6
                                refine gx_iload X dX3_look_221 7 rfl ?_
                                refine gM_s17 X (hD _) (by omega) dX3_look_223 ?_
                                refine gx_iinc X dX3_look_224 6 rfl (by decide) rfl ?_
                                refine gx_goto (tgt := 130) X dX3_look_227 (by decide) ?_
                                refine gx_sub [1, 2, 3, 4, 5, 6, 0] rfl ?_
                                subst e143
                                exact ih _ _ (by omega) (by omega) (InvW.mA hi130_2 (show 0 ≤ _ ∧ _ ≤ 1000000 from hx143)) (hi130_3 ) (fun k hk => (mA_nin hk (by decide)).trans ((hi130_4  k hk))) (by omega) (fun z e hx => K130 z ((M_look_l130_s c v2 v3 v4 v5 fu v6 S130).trans ((if_neg hc133).trans e)) hx)
                          refine gx_sub [1, 2, 3, 4, 5, 6, 0] rfl ?_
                          refine L130 (62) (-v2) S119 (by omega) (by omega) hi119_2 rfl (fun _ _ => rfl) (by omega) (fun z130 e130 hx130 => ?_)
                          refine gx_iinc X dX3_look_230 5 rfl (by decide) rfl ?_
                          refine gx_goto (tgt := 119) X dX3_look_233 (by decide) ?_
                          refine gx_sub [1, 2, 3, 4, 5, 0] rfl ?_
                          subst e130
                          exact ih _ _ (by omega) (by omega) hx130.1 (((hx130.2.1 )).trans (hi119_3 )) (fun k hk => ((hx130.2.2  k hk)).trans ((fun k hk => (hi119_4  k hk)) k hk)) (by omega) (fun z e hx => K119 z ((M_look_l119_s c v2 v3 v4 fu v5 S119).trans ((if_neg hc123).trans e)) hx)
                    refine gx_sub [1, 2, 3, 4, 5, 0] rfl ?_
                    refine L119 (11) 0 S110 (by omega) (by omega) hi110_2 rfl (fun _ _ => rfl) (by omega) (fun z119 e119 hx119 => ?_)
                    refine gx_iinc X dX3_look_236 4 rfl (by decide) rfl ?_
                    refine gx_goto (tgt := 110) X dX3_look_239 (by decide) ?_
                    refine gx_sub [1, 2, 3, 4, 0] rfl ?_
                    subst e119
                    exact ih _ _ (by omega) (by omega) hx119.1 (((hx119.2.1 )).trans (hi110_3 )) (fun k hk => ((hx119.2.2  k hk)).trans ((fun k hk => (hi110_4  k hk)) k hk)) (by omega) (fun z e hx => K110 z ((M_look_l110_s c v2 v3 fu v4 S110).trans ((if_neg hc113).trans e)) hx)
              refine gx_sub [1, 2, 3, 4, 0] rfl ?_
              refine L110 (5) 0 S102 (by omega) (by omega) hi102_2 rfl (fun _ _ => rfl) (by omega) (fun z110 e110 hx110 => ?_)
              refine gx_iinc X dX3_look_242 3 rfl (by decide) rfl ?_
              refine gx_goto (tgt := 102) X dX3_look_245 (by decide) ?_
              refine gx_sub [1, 2, 3, 0] rfl ?_
              subst e110
              exact ih _ _ (by omega) (by omega) hx110.1 (((hx110.2.1 )).trans (hi102_3 )) (fun k hk => ((hx110.2.2  k hk)).trans ((fun k hk => (hi102_4  k hk)) k hk)) (by omega) (fun z e hx => K102 z ((M_look_l102_s c v2 fu v3 S102).trans ((if_neg hc104).trans e)) hx)
        refine gx_sub [1, 2, 3, 0] rfl ?_
        refine L102 (5) 0 S96 (by omega) (by omega) hi96_2 rfl (fun _ _ => rfl) (by omega) (fun z102 e102 hx102 => ?_)
        refine gx_iinc X dX3_look_248 2 rfl (by decide) rfl ?_
        refine gx_goto (tgt := 96) X dX3_look_251 (by decide) ?_
        refine gx_sub [1, 2, 0] rfl ?_
        subst e102
        exact ih _ _ (by omega) (by omega) hx102.1 (((hx102.2.1 )).trans (hi96_3 )) (fun k hk => ((hx102.2.2  k hk)).trans ((fun k hk => (hi96_4  k hk)) k hk)) (by omega) (fun z e hx => K96 z ((M_look_l96_s c fu v2 S96).trans ((if_neg hc97).trans e)) hx)
  refine gx_sub [1, 2, 0] rfl ?_
  refine L96 (31) ((S.1 3) - 1) z2 (by omega) (by omega) hx2.1 rfl (fun _ _ => rfl) (by omega) (fun z96 e96 hx96 => ?_)
  have hBT : BTab z96 c := by
    rw [← e96]
    exact M_look_bt c (S.1 3) z2 (congrFun hx2.2.1 3) (by omega) (fun j => (InvM_a1 hx2.1 j).1)
  refine gx_aload_n X dX3_look_254 rfl 0 rfl ?_
  refine gM_g2 (v := (S.1 2)) X ((congrFun (hx96.2.1 ) 2).trans (congrFun (hx2.2.1 ) 2)) dX3_look_255 ?_
  have J288 : ∀ (m288 : Int), m288 = (if (S.1 2) = 0 then (S.2 1 (4 * c)) else (S.2 13 ((16 * ((S.1 2) - 1)) + c))) → (0 ≤ m288 ∧ m288 ≤ 3) → GG l (rmK (2, 55)) K x (wM K q z96) 288 [(0, .ref (q 0)), (1, .int (iI c))] [.int (iI m288)] := by
    intro m288 e_m288 hf288_0
    refine gx_istore_n X dX3_look_288 rfl (by decide) rfl ?_
    refine gx_aload_n X dX3_look_289 rfl 1 rfl ?_
    refine gM_r5 X dX3_look_290 ?_
    refine gx_iload_n X dX3_look_293 rfl 2 rfl ?_
    refine gM_l5 (v := (S.2 5 c)) X (by omega) ((congrFun (hx96.2.2  5 (by decide)) c).trans (congrFun (hx2.2.2  5 (by decide)) c)) dX3_look_294 ?_
    have hr294 := InvM_a5 hT c
    refine gx_bipush (z := 9) X dX3_look_295 (by decide) ?_
    have J311 : ∀ (m311 : Int), m311 = (if (S.2 5 c) ≤ 9 then (S.2 5 c) else 9) → (0 ≤ m311 ∧ m311 ≤ 9) → GG l (rmK (2, 55)) K x (wM K q z96) 311 [(0, .ref (q 0)), (1, .int (iI c)), (2, .int (iI m288))] [.int (iI m311)] := by
      intro m311 e_m311 hf311_0
      refine gx_istore_n X dX3_look_311 rfl (by decide) rfl ?_
      refine gx_iconst (z := 0) X dX3_look_312 rfl ?_
      refine gx_istore X dX3_look_313 (by decide) rfl ?_
      refine gx_iconst (z := 0) X dX3_look_315 rfl ?_
      refine gx_istore X dX3_look_316 (by decide) rfl ?_
      refine gx_aload_n X dX3_look_318 rfl 3 rfl ?_
      refine gM_r17 X dX3_look_319 ?_
      refine gx_iconst (z := 0) X dX3_look_322 rfl ?_
      refine gx_iconst (z := 0) X dX3_look_323 rfl ?_
      refine gx_iload_n X dX3_look_324 rfl 5 rfl ?_
      refine gx_iload_n X dX3_look_325 rfl 2 rfl ?_
      refine gx_iconst (z := 0) X dX3_look_326 rfl ?_
      refine gx_callSI (As := [.int (iI 0), .int (iI 0), .int (iI m288), .int (iI m311), .int (iI 0)]) (rest := [.ref (q 18)]) X (hD _) lk_M_157 (c_M_spot 0 0 m288 m311 0 ) jn_nil rfl ⟨by decide, by decide⟩ (Nat.le_of_ble_eq_true rfl) dX3_look_327 ?_
      have hq327_0 := M_spot_sp 0 0 m288 m311 0
      refine gM_l17 (v := (z96.2 17 (M_spot 0 0 m288 m311 0))) X (by omega) rfl dX3_look_330 ?_
      have hr330 := InvM_a17 hx96.1 (M_spot 0 0 m288 m311 0)
      refine gx_istore X dX3_look_331 (by decide) rfl ?_
      refine gx_iconst (z := 0) X dX3_look_333 rfl ?_
      refine gx_istore X dX3_look_334 (by decide) rfl ?_
      have L336 : ∀ (fu : Nat) (v2 : Int) (v3 : Int) (v4 : Int) (v5 : Int) (v7 : Int) (S336 : Sta), (0 ≤ v7 ∧ v7 ≤ (S.1 3)) → (0 ≤ v2 ∧ v2 ≤ 3) → (0 ≤ v3 ∧ v3 ≤ 9) → (0 ≤ v4 ∧ v4 ≤ 3) → (-v7 ≤ v5 ∧ v5 ≤ v7) → (InvW N S336) → (BTab S336 c) → ((z96.2 17 (M_spot 0 0 m288 m311 0)) < 1000000 → z96.2 17 (M_spot v7 v4 v2 v3 v5) < 1000000) → (S336.1 = z96.1) → (∀ k : Nat, k ∉ [18] → S336.2 k = z96.2 k) → ((S.1 3) - v7) < (fu : Int) → (∀ z336 : Int × Sta, M_look_l336 S c z96 m288 m311 fu v2 v3 v4 v5 v7 S336 = z336 → (z336.2.1 = z96.1) ∧ (∀ k : Nat, k ∉ [18] → z336.2.2 k = z96.2 k) → GG l (rmK (2, 55)) K x (wM K q z336.2) 484 [(0, .ref (q 0)), (1, .int (iI c)), (5, .int (iI z336.1)), (6, .int (iI (z96.2 17 (M_spot 0 0 m288 m311 0))))] []) → GG l (rmK (2, 55)) K x (wM K q S336) 336 [(0, .ref (q 0)), (1, .int (iI c)), (2, .int (iI v2)), (3, .int (iI v3)), (4, .int (iI v4)), (5, .int (iI v5)), (6, .int (iI (z96.2 17 (M_spot 0 0 m288 m311 0)))), (7, .int (iI v7))] [] := by
        intro fu
        induction fu with
        | zero => intro v2 v3 v4 v5 v7 S336 hi336_0 hi336_1 hi336_2 hi336_3 hi336_4 hi336_5 hi336_6 hi336_7 hi336_8 hi336_9 hm336 K336; exact absurd hm336 (by omega)
        | succ fu ih =>
          intro v2 v3 v4 v5 v7 S336 hi336_0 hi336_1 hi336_2 hi336_3 hi336_4 hi336_5 hi336_6 hi336_7 hi336_8 hi336_9 hm336 K336
          refine gx_iload X dX3_look_336 7 rfl ?_
          refine gx_aload_n X dX3_look_338 rfl 0 rfl ?_
          refine gM_g3 (v := (S.1 3)) X ((congrFun (hi336_8 ) 3).trans ((congrFun (hx96.2.1 ) 3).trans (congrFun (hx2.2.1 ) 3))) dX3_look_339 ?_
          refine gx_icmp_ge (tgt := 484) X dX3_look_342 (by decide) (by omega) (fun hc342 => ?_) (fun hc342 => ?_)
          · refine gx_sub [0, 1, 5, 6] rfl ?_
            exact K336 (v5, S336) ((M_look_l336_s S c z96 m288 m311 fu v2 v3 v4 v5 v7 S336).trans (if_pos hc342)) ⟨(hi336_8 ), (fun k hk => (hi336_9  k hk))⟩
          · refine gx_iload X dX3_look_345 6 rfl ?_
            refine gx_ldc (z := 1000000) X t_M_161 dX3_look_347 (by decide) ?_
            refine gx_icmp_ge (tgt := 484) X dX3_look_349 (by decide) (by omega) (fun hc349 => ?_) (fun hc349 => ?_)
            · refine gx_sub [0, 1, 5, 6] rfl ?_
              exact K336 (v5, S336) ((M_look_l336_s S c z96 m288 m311 fu v2 v3 v4 v5 v7 S336).trans ((if_neg hc342).trans (if_pos hc349))) ⟨(hi336_8 ), (fun k hk => (hi336_9  k hk))⟩
            · have hg := hi336_7 (by omega)
              have hk3 : S336.1 3 = S.1 3 := ((congrFun (hi336_8 ) 3).trans ((congrFun (hx96.2.1 ) 3).trans (congrFun (hx2.2.1 ) 3)))
              have hka := hi336_9 17 (by decide)
              have hk2 : S336.2 2 c = S.2 2 c := ((congrFun (hi336_9  2 (by decide)) c).trans ((congrFun (hx96.2.2  2 (by decide)) c).trans (congrFun (hx2.2.2  2 (by decide)) c)))
              obtain ⟨t0, ht0, ht1, ht2⟩ := BTab_ex (t := v4) (h := v2) (n := v3) (u := v5) hi336_6 (r := v7) (by omega) (by omega) (by omega) (by omega) (by omega) (by rw [hka]; exact hg)
              rw [hka] at ht2
              refine gx_iconst (z := 0) X dX3_look_352 rfl ?_
              refine gx_istore X dX3_look_353 (by decide) rfl ?_
              have L355 : ∀ (fu : Nat) (v8 : Int), (0 ≤ v8) → (v8 ≤ t0) → (t0 - v8) < (fu : Int) → (∀ z355 : Int, M_look_l355 c z96 v2 v3 v4 v5 v7 S336 fu v8 = z355 → (0 ≤ z355 ∧ z355 ≤ 2) ∧ (z355 = 2 → v3 ≤ 8) ∧ (M_by S336 c v7 v4 v2 v3 v5 z355 = z96.2 17 (M_spot v7 v4 v2 v3 v5)) → GG l (rmK (2, 55)) K x (wM K q S336) 407 [(0, .ref (q 0)), (1, .int (iI c)), (2, .int (iI v2)), (3, .int (iI v3)), (4, .int (iI v4)), (5, .int (iI v5)), (6, .int (iI (z96.2 17 (M_spot 0 0 m288 m311 0)))), (7, .int (iI v7)), (8, .int (iI z355))] []) → GG l (rmK (2, 55)) K x (wM K q S336) 355 [(0, .ref (q 0)), (1, .int (iI c)), (2, .int (iI v2)), (3, .int (iI v3)), (4, .int (iI v4)), (5, .int (iI v5)), (6, .int (iI (z96.2 17 (M_spot 0 0 m288 m311 0)))), (7, .int (iI v7)), (8, .int (iI v8))] [] := by
                intro fu
                induction fu with
                | zero => intro v8 hi355_0 hi355_1 hm355 K355; exact absurd hm355 (by omega)
                | succ fu ih =>
                  intro v8 hi355_0 hi355_1 hm355 K355
                  refine gx_iload X dX3_look_355 8 rfl ?_
                  refine gx_iconst (z := 2) X dX3_look_357 rfl ?_
                  refine gx_icmp_ne (tgt := 367) X dX3_look_358 (by decide) (by omega) (fun hc358 => ?_) (fun hc358 => ?_)
                  · refine gx_aload_n X dX3_look_367 rfl 0 rfl ?_
                    refine gx_iload_n X dX3_look_368 rfl 1 rfl ?_
                    refine gx_iload X dX3_look_369 7 rfl ?_
                    refine gx_iload X dX3_look_371 4 rfl ?_
                    refine gx_iload_n X dX3_look_373 rfl 2 rfl ?_
                    refine gx_iload_n X dX3_look_374 rfl 3 rfl ?_
                    refine gx_iload X dX3_look_375 5 rfl ?_
                    refine gx_iload X dX3_look_377 8 rfl ?_
                    refine gx_callVI (As := [.int (iI c), .int (iI v7), .int (iI v4), .int (iI v2), .int (iI v3), .int (iI v5), .int (iI v8)]) (rest := []) X (hD _) lk_M_168 (ci := 3) rfl rfl 0 rfl (c_M_by q S336 c v7 v4 v2 v3 v5 v8 hi336_5 (by omega) (by omega) (by omega) (by omega) (by omega) (by omega) (by omega)) jn_all rfl ⟨by decide, by decide⟩ (Nat.le_of_ble_eq_true rfl) dX3_look_379 ?_
                    have hp379_0 := M_by_rg S336 c v7 v4 v2 v3 v5 v8 hi336_5 (by omega) (by omega) (by omega) (by omega) (by omega) (by omega) (by omega)
                    refine gx_aload_n X dX3_look_382 rfl 0 rfl ?_
                    refine gM_r17 X dX3_look_383 ?_
                    refine gx_iload X dX3_look_386 7 rfl ?_
                    refine gx_iload X dX3_look_388 4 rfl ?_
                    refine gx_iload_n X dX3_look_390 rfl 2 rfl ?_
                    refine gx_iload_n X dX3_look_391 rfl 3 rfl ?_
                    refine gx_iload X dX3_look_392 5 rfl ?_
                    refine gx_callSI (As := [.int (iI v7), .int (iI v4), .int (iI v2), .int (iI v3), .int (iI v5)]) (rest := [.ref (q 18), .int (iI (M_by S336 c v7 v4 v2 v3 v5 v8))]) X (hD _) lk_M_157 (c_M_spot v7 v4 v2 v3 v5 ) jn_nil rfl ⟨by decide, by decide⟩ (Nat.le_of_ble_eq_true rfl) dX3_look_394 ?_
                    have hq394_0 := M_spot_sp v7 v4 v2 v3 v5
                    refine gM_l17 (v := (z96.2 17 (M_spot v7 v4 v2 v3 v5))) X (by omega) (congrFun (hi336_9  17 (by decide)) (M_spot v7 v4 v2 v3 v5)) dX3_look_397 ?_
                    have hr397 := InvM_a17 hx96.1 (M_spot v7 v4 v2 v3 v5)
                    refine gx_icmp_eq (tgt := 407) X dX3_look_398 (by decide) (by omega) (fun hc398 => ?_) (fun hc398 => ?_)
                    · refine gx_sub [0, 1, 2, 3, 4, 5, 6, 7, 8] rfl ?_
                      exact K355 v8 ((M_look_l355_s c z96 v2 v3 v4 v5 v7 S336 fu v8).trans ((if_neg hc358).trans (if_pos hc398))) ⟨by omega, by omega, hc398⟩
                    · refine gx_iinc X dX3_look_401 8 rfl (by decide) rfl ?_
                      refine gx_goto (tgt := 355) X dX3_look_404 (by decide) ?_
                      refine gx_sub [1, 2, 3, 4, 5, 6, 7, 8, 0] rfl ?_
                      exact ih (v8 + 1) (by omega) (by first | omega | exact (Int.lt_or_eq_of_le hi355_1).elim (fun h9 => by omega) (fun h9 => absurd (by rw [h9]; exact ht2) hc398)) (by omega) (fun z e hx => K355 z ((M_look_l355_s c z96 v2 v3 v4 v5 v7 S336 fu v8).trans (((if_neg hc358).trans (if_neg hc398)).trans e)) hx)
                  · refine gx_iload_n X dX3_look_361 rfl 3 rfl ?_
                    refine gx_bipush (z := 9) X dX3_look_362 (by decide) ?_
                    refine gx_icmp_eq (tgt := 401) X dX3_look_364 (by decide) (by omega) (fun hc364 => ?_) (fun hc364 => ?_)
                    · refine gx_iinc X dX3_look_401 8 rfl (by decide) rfl ?_
                      refine gx_goto (tgt := 355) X dX3_look_404 (by decide) ?_
                      refine gx_sub [1, 2, 3, 4, 5, 6, 7, 8, 0] rfl ?_
                      exact ih (v8 + 1) (by omega) (by first | omega | exact (Int.lt_or_eq_of_le hi355_1).elim (fun h9 => by omega) (fun h9 => absurd (by rw [h9]; exact ht2) hc398)) (by omega) (fun z e hx => K355 z ((M_look_l355_s c z96 v2 v3 v4 v5 v7 S336 fu v8).trans (((if_pos hc358).trans (if_pos hc364)).trans e)) hx)
                    · refine gx_aload_n X dX3_look_367 rfl 0 rfl ?_
                      refine gx_iload_n X dX3_look_368 rfl 1 rfl ?_
                      refine gx_iload X dX3_look_369 7 rfl ?_
                      refine gx_iload X dX3_look_371 4 rfl ?_
                      refine gx_iload_n X dX3_look_373 rfl 2 rfl ?_
                      refine gx_iload_n X dX3_look_374 rfl 3 rfl ?_
                      refine gx_iload X dX3_look_375 5 rfl ?_
                      refine gx_iload X dX3_look_377 8 rfl ?_
                      refine gx_callVI (As := [.int (iI c), .int (iI v7), .int (iI v4), .int (iI v2), .int (iI v3), .int (iI v5), .int (iI v8)]) (rest := []) X (hD _) lk_M_168 (ci := 3) rfl rfl 0 rfl (c_M_by q S336 c v7 v4 v2 v3 v5 v8 hi336_5 (by omega) (by omega) (by omega) (by omega) (by omega) (by omega) (by omega)) jn_all rfl ⟨by decide, by decide⟩ (Nat.le_of_ble_eq_true rfl) dX3_look_379 ?_
                      have hp379_0 := M_by_rg S336 c v7 v4 v2 v3 v5 v8 hi336_5 (by omega) (by omega) (by omega) (by omega) (by omega) (by omega) (by omega)
                      refine gx_aload_n X dX3_look_382 rfl 0 rfl ?_
                      refine gM_r17 X dX3_look_383 ?_
                      refine gx_iload X dX3_look_386 7 rfl ?_
                      refine gx_iload X dX3_look_388 4 rfl ?_
                      refine gx_iload_n X dX3_look_390 rfl 2 rfl ?_
                      refine gx_iload_n X dX3_look_391 rfl 3 rfl ?_
                      refine gx_iload X dX3_look_392 5 rfl ?_
                      refine gx_callSI (As := [.int (iI v7), .int (iI v4), .int (iI v2), .int (iI v3), .int (iI v5)]) (rest := [.ref (q 18), .int (iI (M_by S336 c v7 v4 v2 v3 v5 v8))]) X (hD _) lk_M_157 (c_M_spot v7 v4 v2 v3 v5 ) jn_nil rfl ⟨by decide, by decide⟩ (Nat.le_of_ble_eq_true rfl) dX3_look_394 ?_
                      have hq394_0 := M_spot_sp v7 v4 v2 v3 v5
                      refine gM_l17 (v := (z96.2 17 (M_spot v7 v4 v2 v3 v5))) X (by omega) (congrFun (hi336_9  17 (by decide)) (M_spot v7 v4 v2 v3 v5)) dX3_look_397 ?_
                      have hr397 := InvM_a17 hx96.1 (M_spot v7 v4 v2 v3 v5)
                      refine gx_icmp_eq (tgt := 407) X dX3_look_398 (by decide) (by omega) (fun hc398 => ?_) (fun hc398 => ?_)
                      · refine gx_sub [0, 1, 2, 3, 4, 5, 6, 7, 8] rfl ?_
                        exact K355 v8 ((M_look_l355_s c z96 v2 v3 v4 v5 v7 S336 fu v8).trans ((if_pos hc358).trans ((if_neg hc364).trans (if_pos hc398)))) ⟨by omega, by omega, hc398⟩
                      · refine gx_iinc X dX3_look_401 8 rfl (by decide) rfl ?_
                        refine gx_goto (tgt := 355) X dX3_look_404 (by decide) ?_
                        refine gx_sub [1, 2, 3, 4, 5, 6, 7, 8, 0] rfl ?_
                        exact ih (v8 + 1) (by omega) (by first | omega | exact (Int.lt_or_eq_of_le hi355_1).elim (fun h9 => by omega) (fun h9 => absurd (by rw [h9]; exact ht2) hc398)) (by omega) (fun z e hx => K355 z ((M_look_l355_s c z96 v2 v3 v4 v5 v7 S336 fu v8).trans (((if_pos hc358).trans ((if_neg hc364).trans (if_neg hc398))).trans e)) hx)
              refine gx_sub [1, 2, 3, 4, 5, 6, 7, 8, 0] rfl ?_
              refine L355 (3) 0 (by omega) (by omega) (by omega) (fun z355 e355 hx355 => ?_)
              refine gx_aload_n X dX3_look_407 rfl 0 rfl ?_
              refine gM_r18 X dX3_look_408 ?_
              refine gx_iload X dX3_look_411 7 rfl ?_
              refine gx_iload X dX3_look_413 8 rfl ?_
              refine gM_s18 X (hD _) (by omega) dX3_look_415 ?_
              refine gx_iload X dX3_look_416 8 rfl ?_
              refine gx_iconst (z := 2) X dX3_look_418 rfl ?_
              have J478 : ∀ (m478a : Int) (m478b : Int) (m478c : Int) (m478d : Int), m478a = (if z355 = 2 then v2 else (M_lies (mA S336 18 v7 z355) c ((v4 + ((if z355 = 0 then 1 else 3) : Int)) % 4) z355)) → m478b = (if z355 = 2 then (v3 + 1) else 0) → m478c = (if z355 = 2 then v4 else ((v4 + ((if z355 = 0 then 1 else 3) : Int)) % 4)) → m478d = (if z355 = 2 then v5 else (v5 + ((if z355 = (S.2 2 c) then 1 else (-1)) : Int))) → (0 ≤ m478a ∧ m478a ≤ 3) → (0 ≤ m478b ∧ m478b ≤ 9) → (0 ≤ m478c ∧ m478c ≤ 3) → (-(v7 + 1) ≤ m478d ∧ m478d ≤ v7 + 1) → (z96.2 17 (M_spot (v7 + 1) m478c m478a m478b m478d) < 1000000) → GG l (rmK (2, 55)) K x (wM K q (mA S336 18 v7 z355)) 478 [(0, .ref (q 0)), (1, .int (iI c)), (2, .int (iI m478a)), (3, .int (iI m478b)), (4, .int (iI m478c)), (5, .int (iI m478d)), (6, .int (iI (z96.2 17 (M_spot 0 0 m288 m311 0)))), (7, .int (iI v7)), (8, .int (iI z355))] [] := by
                intro m478a m478b m478c m478d e_m478a e_m478b e_m478c e_m478d hf478_0 hf478_1 hf478_2 hf478_3 hf478_4
                refine gx_iinc X dX3_look_478 7 rfl (by decide) rfl ?_
                refine gx_goto (tgt := 336) X dX3_look_481 (by decide) ?_
                refine gx_sub [1, 2, 3, 4, 5, 6, 7, 0] rfl ?_
                subst e355
                subst e_m478a
                subst e_m478b
                subst e_m478c
                subst e_m478d
                exact ih _ _ _ _ _ _ (by omega) hf478_0 hf478_1 hf478_2 hf478_3 (InvW.mA hi336_5 (show 0 ≤ _ ∧ _ ≤ 2 from hx355.1)) hi336_6 (fun _ => hf478_4) (hi336_8 ) (fun k hk => (mA_nin hk (by decide)).trans ((hi336_9  k hk))) (by omega) (fun z e hx => K336 z ((M_look_l336_s S c z96 m288 m311 fu v2 v3 v4 v5 v7 S336).trans (((if_neg hc342).trans (if_neg hc349)).trans e)) hx)
              refine gx_icmp_ne (tgt := 428) X dX3_look_419 (by decide) (by omega) (fun hc419 => ?_) (fun hc419 => ?_)
              · refine gx_iload X dX3_look_428 4 rfl ?_
                refine gx_iload X dX3_look_430 8 rfl ?_
                have J440 : ∀ (m440 : Int), m440 = (if z355 = 0 then 1 else 3) → GG l (rmK (2, 55)) K x (wM K q (mA S336 18 v7 z355)) 440 [(0, .ref (q 0)), (1, .int (iI c)), (2, .int (iI v2)), (3, .int (iI v3)), (4, .int (iI v4)), (5, .int (iI v5)), (6, .int (iI (z96.2 17 (M_spot 0 0 m288 m311 0)))), (7, .int (iI v7)), (8, .int (iI z355))] [.int (iI m440), .int (iI v4)] := by
                  intro m440 e_m440
                  refine gx_iadd X dX3_look_440 ?_
                  refine gx_iconst (z := 4) X dX3_look_441 rfl ?_
                  refine gx_irem X dX3_look_442 (by omega) ?_
                  refine gx_istore X dX3_look_443 (by decide) rfl ?_
                  refine gx_aload_n X dX3_look_445 rfl 1 rfl ?_
                  refine gx_iload_n X dX3_look_446 rfl 2 rfl ?_
                  refine gx_iload X dX3_look_447 0 rfl ?_
                  refine gx_iload X dX3_look_449 8 rfl ?_
                  refine gx_callVI (As := [.int (iI c), .int (iI ((v4 + m440) % 4)), .int (iI z355)]) (rest := []) X (hD _) lk_M_162 (ci := 3) rfl rfl 0 rfl (c_M_lies q (mA S336 18 v7 z355) c ((v4 + m440) % 4) z355 (InvW.mA hi336_5 (show 0 ≤ _ ∧ _ ≤ 2 from hx355.1)) (by omega) (by omega) (by omega)) jn_all rfl ⟨by decide, by decide⟩ (Nat.le_of_ble_eq_true rfl) dX3_look_451 ?_
                  have hp451_0 := M_lies_rg (mA S336 18 v7 z355) c ((v4 + m440) % 4) z355 (InvW.mA hi336_5 (show 0 ≤ _ ∧ _ ≤ 2 from hx355.1)) (by omega) (by omega) (by omega)
                  refine gx_istore_n X dX3_look_454 rfl (by decide) rfl ?_
                  refine gx_iconst (z := 0) X dX3_look_455 rfl ?_
                  refine gx_istore_n X dX3_look_456 rfl (by decide) rfl ?_
                  refine gx_iload X dX3_look_457 5 rfl ?_
                  refine gx_iload X dX3_look_459 8 rfl ?_
                  refine gx_aload_n X dX3_look_461 rfl 3 rfl ?_
                  refine gM_r2 X dX3_look_462 ?_
                  refine gx_iload_n X dX3_look_465 rfl 4 rfl ?_
                  refine gM_l2 (v := (S.2 2 c)) X (by omega) ((congrFun (hi336_9  2 (by decide)) c).trans ((congrFun (hx96.2.2  2 (by decide)) c).trans (congrFun (hx2.2.2  2 (by decide)) c))) dX3_look_466 ?_
                  have hr466 := InvM_a2 hI c
                  have J475 : ∀ (m475 : Int), m475 = (if z355 = (S.2 2 c) then 1 else (-1)) → GG l (rmK (2, 55)) K x (wM K q (mA S336 18 v7 z355)) 475 [(0, .ref (q 0)), (1, .int (iI c)), (2, .int (iI (M_lies (mA S336 18 v7 z355) c ((v4 + m440) % 4) z355))), (3, .int (iI 0)), (4, .int (iI ((v4 + m440) % 4))), (5, .int (iI v5)), (6, .int (iI (z96.2 17 (M_spot 0 0 m288 m311 0)))), (7, .int (iI v7)), (8, .int (iI z355))] [.int (iI m475), .int (iI v5)] := by
                    intro m475 e_m475
                    refine gx_iadd X dX3_look_475 ?_
                    refine gx_istore X dX3_look_476 (by decide) rfl ?_
                    refine gx_sub [1, 2, 3, 4, 5, 0, 6, 7, 8] rfl ?_
                    subst e_m440
                    subst e_m475
                    exact J478 _ _ _ _ ((if_neg hc419).symm) ((if_neg hc419).symm) ((if_neg hc419).symm) ((if_neg hc419).symm) (by omega) (by omega) (by omega) (by omega) (by rw [← hka]; first | (have nx := M_by_next2 hc419 (by rw [hx355.2.2]; exact hg); exact nx) | (have nx := M_by_next hc419 (by rw [hx355.2.2]; exact hg); rw [hk2] at nx; exact nx))
                  refine gx_icmp_ne (tgt := 474) X dX3_look_467 (by decide) (by omega) (fun hc467 => ?_) (fun hc467 => ?_)
                  · refine gx_iconst (z := (-1)) X dX3_look_474 rfl ?_
                    refine gx_sub [3, 4, 1, 0, 2, 5, 6, 7, 8] rfl ?_
                    exact J475 (-1) ((if_neg hc467).symm) 
                  · refine gx_iconst (z := 1) X dX3_look_470 rfl ?_
                    refine gx_goto (tgt := 475) X dX3_look_471 (by decide) ?_
                    refine gx_sub [3, 4, 1, 0, 2, 5, 6, 7, 8] rfl ?_
                    exact J475 1 ((if_pos hc467).symm) 
                refine gx_if_ne (tgt := 439) X dX3_look_432 (by decide) (by omega) (fun hc432 => ?_) (fun hc432 => ?_)
                · refine gx_iconst (z := 3) X dX3_look_439 rfl ?_
                  refine gx_sub [0, 1, 2, 3, 4, 5, 6, 7, 8] rfl ?_
                  exact J440 3 ((if_neg hc432).symm) 
                · refine gx_iconst (z := 1) X dX3_look_435 rfl ?_
                  refine gx_goto (tgt := 440) X dX3_look_436 (by decide) ?_
                  refine gx_sub [0, 1, 2, 3, 4, 5, 6, 7, 8] rfl ?_
                  exact J440 1 ((if_pos hc432).symm) 
              · refine gx_iinc X dX3_look_422 3 rfl (by decide) rfl ?_
                refine gx_goto (tgt := 478) X dX3_look_425 (by decide) ?_
                refine gx_sub [1, 2, 3, 0, 4, 5, 6, 7, 8] rfl ?_
                exact J478 v2 (v3 + 1) v4 v5 ((if_pos hc419).symm) ((if_pos hc419).symm) ((if_pos hc419).symm) ((if_pos hc419).symm) (by omega) (by omega) (by omega) (by omega) (by rw [← hka]; first | (have nx := M_by_next2 hc419 (by rw [hx355.2.2]; exact hg); exact nx) | (have nx := M_by_next hc419 (by rw [hx355.2.2]; exact hg); rw [hk2] at nx; exact nx))
      refine gx_sub [5, 6, 7, 4, 3, 2, 1, 0] rfl ?_
      refine L336 (31) m288 m311 0 0 0 z96 (by omega) (by omega) (by omega) (by omega) (by omega) hx96.1 hBT (fun h9 => h9) rfl (fun _ _ => rfl) (by omega) (fun z336 e336 hx336 => ?_)
      refine gx_aload_n X dX3_look_484 rfl 0 rfl ?_
      refine gx_aload_n X dX3_look_485 rfl 0 rfl ?_
      refine gM_r4 X dX3_look_486 ?_
      refine gx_iload_n X dX3_look_489 rfl 1 rfl ?_
      refine gM_l4 (v := (S.2 4 c)) X (by omega) ((congrFun (hx336.2  4 (by decide)) c).trans ((congrFun (hx96.2.2  4 (by decide)) c).trans (congrFun (hx2.2.2  4 (by decide)) c))) dX3_look_490 ?_
      have hr490 := InvM_a4 hT c
      refine gx_iload X dX3_look_491 2 rfl ?_
      refine gx_iadd X dX3_look_493 ?_
      refine gM_p5 X (hD _) dX3_look_494 ?_
      refine gx_iload X dX3_look_497 3 rfl ?_
      exact gx_iret hR (congrArg Prod.fst ((show M_look S c = ((z96.2 17 (M_spot 0 0 m288 m311 0)), (mI z336.2 5 ((S.2 4 c) + z336.1))) from (congrArg (fun z2 => M_look_r2 S c z2) e2).trans ((congrArg (fun z96 => M_look_r96 S c z96) e96).trans ((congrArg (fun z0 => M_look_m288 S c z96 z0) e_m288.symm).trans ((congrArg (fun z0 => M_look_m311 S c z96 m288 z0) e_m311.symm).trans (congrArg (fun z336 => M_look_r336 S c z96 m288 m311 z336) e336))))))) (ret2 (fun z => (wM K q z)) ((show M_look S c = ((z96.2 17 (M_spot 0 0 m288 m311 0)), (mI z336.2 5 ((S.2 4 c) + z336.1))) from (congrArg (fun z2 => M_look_r2 S c z2) e2).trans ((congrArg (fun z96 => M_look_r96 S c z96) e96).trans ((congrArg (fun z0 => M_look_m288 S c z96 z0) e_m288.symm).trans ((congrArg (fun z0 => M_look_m311 S c z96 m288 z0) e_m311.symm).trans (congrArg (fun z336 => M_look_r336 S c z96 m288 m311 z336) e336))))))) dX3_look_499
    refine gx_icmp_le (tgt := 305) X dX3_look_297 (by decide) (by omega) (fun hc297 => ?_) (fun hc297 => ?_)
    · refine gx_aload_n X dX3_look_305 rfl 1 rfl ?_
      refine gM_r5 X dX3_look_306 ?_
      refine gx_iload_n X dX3_look_309 rfl 2 rfl ?_
      refine gM_l5 (v := (S.2 5 c)) X (by omega) ((congrFun (hx96.2.2  5 (by decide)) c).trans (congrFun (hx2.2.2  5 (by decide)) c)) dX3_look_310 ?_
      refine gx_sub [1, 2, 0] rfl ?_
      exact J311 (S.2 5 c) ((if_pos hc297).symm) (by omega)
    · refine gx_bipush (z := 9) X dX3_look_300 (by decide) ?_
      refine gx_goto (tgt := 311) X dX3_look_302 (by decide) ?_
      refine gx_sub [1, 2, 0] rfl ?_
      exact J311 9 ((if_neg hc297).symm) (by omega)
  refine gx_if_ne (tgt := 272) X dX3_look_258 (by decide) (by omega) (fun hc258 => ?_) (fun hc258 => ?_)
  · refine gx_aload_n X dX3_look_272 rfl 0 rfl ?_
    refine gM_r13 X dX3_look_273 ?_
    refine gx_bipush (z := 16) X dX3_look_276 (by decide) ?_
    refine gx_aload_n X dX3_look_278 rfl 0 rfl ?_
    refine gM_g2 (v := (S.1 2)) X ((congrFun (hx96.2.1 ) 2).trans (congrFun (hx2.2.1 ) 2)) dX3_look_279 ?_
    refine gx_iconst (z := 1) X dX3_look_282 rfl ?_
    refine gx_isub X dX3_look_283 ?_
    refine gx_imul X dX3_look_284 ?_
    refine gx_iload_n X dX3_look_285 rfl 1 rfl ?_
    refine gx_iadd X dX3_look_286 ?_
    refine gM_l13 (v := (S.2 13 ((16 * ((S.1 2) - 1)) + c))) X (by omega) ((congrFun (hx96.2.2  13 (by decide)) ((16 * ((S.1 2) - 1)) + c)).trans (congrFun (hx2.2.2  13 (by decide)) ((16 * ((S.1 2) - 1)) + c))) dX3_look_287 ?_
    have hr287 := InvM_a13 hI ((16 * ((S.1 2) - 1)) + c)
    refine gx_sub [0, 1] rfl ?_
    exact J288 (S.2 13 ((16 * ((S.1 2) - 1)) + c)) ((if_neg hc258).symm) (by omega)
  · refine gx_aload_n X dX3_look_261 rfl 0 rfl ?_
    refine gM_r1 X dX3_look_262 ?_
    refine gx_iconst (z := 4) X dX3_look_265 rfl ?_
    refine gx_iload_n X dX3_look_266 rfl 1 rfl ?_
    refine gx_imul X dX3_look_267 ?_
    refine gM_l1 (v := (S.2 1 (4 * c))) X (by omega) ((congrFun (hx96.2.2  1 (by decide)) (4 * c)).trans (congrFun (hx2.2.2  1 (by decide)) (4 * c))) dX3_look_268 ?_
    have hr268 := InvM_a1 hI (4 * c)
    refine gx_goto (tgt := 288) X dX3_look_269 (by decide) ?_
    refine gx_sub [0, 1] rfl ?_
    exact J288 (S.2 1 (4 * c)) ((if_pos hc258).symm) (by omega)
