/-! THE REFERENCE's look: its table and its way through it, as BF and Gr say -/
theorem M_look_l28_end (S : Sta) (c a b d : Int) : ∀ (n : Nat) (v : Int) (Y : Sta), (-30 ≤ v) → 31 - v < (n : Int) → (∀ u, v ≤ u → u ≤ 30 → (M_look_l28 S c a b d n v Y).2 17 (M_spot (S.1 3) a b d u) = M_size (S.2 4 c + u)) ∧ (∀ j, (∀ u, v ≤ u → u ≤ 30 → j ≠ M_spot (S.1 3) a b d u) → (M_look_l28 S c a b d n v Y).2 17 j = Y.2 17 j) := by
  intro n
  induction n with
  | zero => intro v Y h0 h1; exact ⟨fun u u0 u1 => by omega, fun _ _ => rfl⟩
  | succ n ih =>
    intro v Y h0 h1
    rw [M_look_l28_s]
    by_cases e : 30 < v
    · rw [if_pos e]
      exact ⟨fun u u0 u1 => by omega, fun _ _ => rfl⟩
    · rw [if_neg e]
      obtain ⟨k1, k2⟩ := ih (v + 1) (mA Y 17 (M_spot (S.1 3) a b d v) (M_size (S.2 4 c + v))) (by omega) (by omega)
      refine ⟨fun u u0 u1 => ?_, fun j hj => ?_⟩
      · by_cases z : u = v
        · subst z
          rw [k2 _ (fun u' q1 q2 => by rw [M_spot_sp, M_spot_sp]; omega), mA_rd, if_pos ⟨rfl, rfl⟩]
        · exact k1 u (by omega) u1
      · rw [k2 j (fun u' q1 q2 => hj u' (by omega) q2), mA_rd, if_neg (fun q => hj v (Int.le_refl v) (by omega) q.2)]
/-- the end's row is filled for some of the lies -/
def EndIs (S : Sta) (c : Int) (P : Int → Int → Int → Prop) (Y : Sta) : Prop := ∀ a b d u, (0 ≤ a ∧ a ≤ 3) → (0 ≤ b ∧ b ≤ 3) → (0 ≤ d ∧ d ≤ 9) → (-30 ≤ u ∧ u ≤ 30) → P a b d → Y.2 17 (M_spot (S.1 3) a b d u) = M_size (S.2 4 c + u)
theorem M_look_l17_end (S : Sta) (c a b : Int) (ha : 0 ≤ a ∧ a ≤ 3) (hb : 0 ≤ b ∧ b ≤ 3) (P : Int → Int → Int → Prop) : ∀ (n : Nat) (v : Int) (Y : Sta), 0 ≤ v → 10 - v < (n : Int) → EndIs S c (fun a' b' d' => P a' b' d' ∨ (a' = a ∧ b' = b ∧ d' < v)) Y → EndIs S c (fun a' b' d' => P a' b' d' ∨ (a' = a ∧ b' = b)) (M_look_l17 S c a b n v Y) := by
  intro n
  induction n with
  | zero => intro v Y h0 h1 hE a' b' d' u' q1 q2 q3 q4 q5; exact hE a' b' d' u' q1 q2 q3 q4 (by rcases q5 with q5 | q5; exact Or.inl q5; exact Or.inr ⟨q5.1, q5.2, by omega⟩)
  | succ n ih =>
    intro v Y h0 h1 hE
    rw [M_look_l17_s]
    by_cases e : 10 ≤ v
    · rw [if_pos e]
      intro a' b' d' u' q1 q2 q3 q4 q5
      refine hE a' b' d' u' q1 q2 q3 q4 ?_
      rcases q5 with q5 | q5
      · exact Or.inl q5
      · exact Or.inr ⟨q5.1, q5.2, by omega⟩
    · rw [if_neg e]
      obtain ⟨k1, k2⟩ := M_look_l28_end S c a b v 62 (-30) Y (by decide) (by omega)
      refine ih (v + 1) _ (by omega) (by omega) ?_
      intro a' b' d' u' q1 q2 q3 q4 q5
      by_cases z : a' = a ∧ b' = b ∧ d' = v
      · obtain ⟨rfl, rfl, rfl⟩ := z
        exact k1 u' q4.1 q4.2
      · rw [k2 _ (fun u q6 q7 => by rw [M_spot_sp, M_spot_sp]; omega)]
        refine hE a' b' d' u' q1 q2 q3 q4 ?_
        rcases q5 with q5 | q5
        · exact Or.inl q5
        · exact Or.inr ⟨q5.1, q5.2.1, by omega⟩
theorem M_look_l9_end (S : Sta) (c a : Int) (ha : 0 ≤ a ∧ a ≤ 3) (P : Int → Int → Int → Prop) : ∀ (n : Nat) (v : Int) (Y : Sta), 0 ≤ v → 4 - v < (n : Int) → EndIs S c (fun a' b' d' => P a' b' d' ∨ (a' = a ∧ b' < v)) Y → EndIs S c (fun a' b' d' => P a' b' d' ∨ a' = a) (M_look_l9 S c a n v Y) := by
  intro n
  induction n with
  | zero => intro v Y h0 h1 hE a' b' d' u' q1 q2 q3 q4 q5; exact hE a' b' d' u' q1 q2 q3 q4 (by rcases q5 with q5 | q5; exact Or.inl q5; exact Or.inr ⟨q5, by omega⟩)
  | succ n ih =>
    intro v Y h0 h1 hE
    rw [M_look_l9_s]
    by_cases e : 4 ≤ v
    · rw [if_pos e]
      intro a' b' d' u' q1 q2 q3 q4 q5
      refine hE a' b' d' u' q1 q2 q3 q4 ?_
      rcases q5 with q5 | q5
      · exact Or.inl q5
      · exact Or.inr ⟨q5, by omega⟩
    · rw [if_neg e]
      have o := M_look_l17_end S c a v ha (by omega) (fun a' b' d' => P a' b' d' ∨ (a' = a ∧ b' < v)) 11 0 Y (by decide) (by decide) (fun a' b' d' u' q1 q2 q3 q4 q5 => hE a' b' d' u' q1 q2 q3 q4 (by rcases q5 with q5 | q5; exact q5; exact absurd q5.2.2 (by omega)))
      refine ih (v + 1) _ (by omega) (by omega) ?_
      intro a' b' d' u' q1 q2 q3 q4 q5
      refine o a' b' d' u' q1 q2 q3 q4 ?_
      rcases q5 with q5 | q5
      · exact Or.inl (Or.inl q5)
      · by_cases z : b' = v
        · exact Or.inr ⟨q5.1, z⟩
        · exact Or.inl (Or.inr ⟨q5.1, by omega⟩)
theorem M_look_l2_end (S : Sta) (c : Int) : ∀ (n : Nat) (v : Int) (Y : Sta), 0 ≤ v → 4 - v < (n : Int) → EndIs S c (fun a' _ _ => a' < v) Y → EndIs S c (fun _ _ _ => True) (M_look_l2 S c n v Y) := by
  intro n
  induction n with
  | zero => intro v Y h0 h1 hE a' b' d' u' q1 q2 q3 q4 q5; exact hE a' b' d' u' q1 q2 q3 q4 (by omega)
  | succ n ih =>
    intro v Y h0 h1 hE
    rw [M_look_l2_s]
    by_cases e : 4 ≤ v
    · rw [if_pos e]
      intro a' b' d' u' q1 q2 q3 q4 _
      exact hE a' b' d' u' q1 q2 q3 q4 (by omega)
    · rw [if_neg e]
      have o := M_look_l9_end S c v (by omega) (fun a' _ _ => a' < v) 5 0 Y (by decide) (by decide) (fun a' b' d' u' q1 q2 q3 q4 q5 => hE a' b' d' u' q1 q2 q3 q4 (by rcases q5 with q5 | q5; exact q5; exact absurd q5.2 (by omega)))
      refine ih (v + 1) _ (by omega) (by omega) ?_
      intro a' b' d' u' q1 q2 q3 q4 q5
      refine o a' b' d' u' q1 q2 q3 q4 ?_
      by_cases z : a' = v
      · exact Or.inr z
      · exact Or.inl (by omega)
theorem M_look_l96_above (c : Int) : ∀ (n : Nat) (v : Int) (Y : Sta), (∀ j, 0 ≤ Y.2 1 j) → v ≤ 29 → ∀ j, 9760 * (v + 1) ≤ j → (M_look_l96 c n v Y).2 17 j = Y.2 17 j := by
  intro n
  induction n with
  | zero => intro v Y _ _ j _; rfl
  | succ n ih =>
    intro v Y h1 hv j hj
    rw [M_look_l96_s]
    by_cases e : v < 0
    · rw [if_pos e]
    · rw [if_neg e]
      have f := M_look_l102_fill c v (by omega) 5 0 Y h1 (by omega) (by omega)
      have g := M_fill_ag (r' := v) (by omega) (Int.le_refl v) f
      exact (ih (v + -1) _ (M_fill_1 f h1) (by omega) j (by omega)).trans (g.2.2 j hj)
theorem look_end {N : Int} {S : Sta} (hI : InvW N S) (hT : InvT S) (c : Int) (a b d u : Int) (ha : 0 ≤ a ∧ a ≤ 3) (hb : 0 ≤ b ∧ b ≤ 3) (hd : 0 ≤ d ∧ d ≤ 9) (hu : -30 ≤ u ∧ u ≤ 30) : (M_look_l96 c 31 (S.1 3 - 1) (M_look_l2 S c 5 0 S)).2 17 (M_spot (S.1 3) a b d u) = M_size (S.2 4 c + u) := by
  have s3 := InvM_s3 hI
  have fr := M_look_l2_fr S c hT 5 0 S hI
  rw [M_look_l96_above c 31 (S.1 3 - 1) _ (fun j => (InvM_a1 fr.1 j).1) (by omega) _ (by rw [M_spot_sp]; omega)]
  exact M_look_l2_end S c 5 0 S (by decide) (by decide) (fun a' b' d' u' q1 q2 q3 q4 q5 => by omega) a b d u ha hb hd hu trivial
section LOOK
variable {N : Int} {T : TS} {S : Sta}
theorem Rel.after (h : Rel N T S) {c : Int} (c0 : 0 ≤ c) (c1 : c < S.1 1) {t p : Int} (ht : 0 ≤ t ∧ t ≤ 3) (hp : 0 ≤ p ∧ p ≤ 3) : C_threadAfter (T.2.2.2 c) t p = M_lies S c t p ∧ (0 ≤ M_lies S c t p ∧ M_lies S c t p ≤ 3) := by
  have f := J_floorMod_sp (p - t) 4 (by omega) rfl
  refine ⟨?_, InvM_a1 h.iw _⟩
  unfold C_threadAfter M_lies
  rw [f, (h.now c0 c1).2.1 _ (by omega) (by omega), show (p + 8 - t) % 4 = (p - t) % 4 by omega]
theorem look_by (h : Rel N T S) {c : Int} (c0 : 0 ≤ c) (c1 : c < S.1 1) {Z : Sta} (z1 : Z.1 = S.1) (z2 : ∀ k : Nat, k ∉ [17, 18] → Z.2 k = S.2 k) {B : Int → Int → Int → Int → Int → Int} {r : Int} (hr : 0 ≤ r ∧ r < 30) (hB : ∀ t g n u, M_rg (r + 1) t g n u → Z.2 17 (M_spot (r + 1) t g n u) = B (r + 1) t g n u) {t g n u d : Int} (hg : M_rg r t g n u) (hd : (0 ≤ d ∧ d ≤ 2) ∧ (d = 2 → n ≤ 8)) : M_by Z c r t g n u d = byF (T.2.2.2 c) (S.1 4) B r t g n u d := by
  obtain ⟨g1, g2, g3, g4⟩ := hg
  have e0 := z2 0 (by decide)
  have e1 := z2 1 (by decide)
  have e2 := z2 2 (by decide)
  have e16 := z2 16 (by decide)
  have fz : ∀ v : Int, M_fits Z r c v = M_fits S r c v := fun v => by unfold M_fits; rw [e16]
  have lz : ∀ a b : Int, M_lies Z c a b = M_lies S c a b := fun a b => by unfold M_lies; rw [e1]
  have way : (T.2.2.2 c).1 0 = S.2 2 c := (h.now c0 c1).2.2.1.1
  unfold M_by byF
  by_cases d2 : d = 2
  · rw [if_pos d2, if_pos d2]
    unfold M_by_m40 M_by_m72
    rw [z1, fz, e0, h.fits c0 c1 hr.1 hr.2 g2.1 g2.2]
    by_cases x : S.1 4 ≤ n
    · rw [if_pos x, if_pos rfl, if_pos (by decide), if_neg (by omega)]
    · rw [if_neg x]
      by_cases y : M_fits S r c (S.2 0 (4 * c + g)) = 0
      · rw [if_pos y, if_pos rfl, if_pos (by decide), if_neg (fun q => q.2 y)]
      · rw [if_neg y, if_neg (show ¬ (1 : Int) = 0 by decide), if_pos (show n < S.1 4 ∧ ¬ M_fits S r c (S.2 0 (4 * c + g)) = 0 from ⟨by omega, y⟩), hB t g (n + 1) u ⟨g1, g2, by have := hd.2 d2; omega, by omega⟩]
        by_cases w : B (r + 1) t g (n + 1) u < 1000000
        · rw [if_pos w, if_neg (by omega)]
        · rw [if_neg w, if_pos (by omega)]
  · rw [if_neg d2, if_neg d2]
    unfold M_by_m104 M_by_m138
    have d01 : d = 0 ∨ d = 1 := by omega
    have rf : P_roundFrom t d = (t + (if d = 0 then 1 else 3)) % 4 := rfl
    have tr : 0 ≤ (t + (if d = 0 then 1 else 3)) % 4 ∧ (t + (if d = 0 then 1 else 3)) % 4 ≤ 3 := by omega
    have af := h.after c0 c1 tr (p := d) (by omega)
    have mr : (if d = S.2 2 c then (1 : Int) else -1) = 1 ∨ (if d = S.2 2 c then (1 : Int) else -1) = -1 := by
      split
      · exact Or.inl rfl
      · exact Or.inr rfl
    rw [rf, way, e0, e2, lz, fz, af.1, h.fits c0 c1 hr.1 hr.2 af.2.1 af.2.2]
    generalize (if d = S.2 2 c then (1 : Int) else -1) = m at mr ⊢
    have mi := M_in_sp (u + m) (-30) 30
    rw [if_neg (show ¬ M_in (u + m) (-30) 30 = 0 by omega)]
    by_cases y : M_fits S r c (S.2 0 (4 * c + M_lies S c ((t + (if d = 0 then 1 else 3)) % 4) d)) = 0
    · rw [if_pos y, if_pos y]
    · rw [if_neg y, if_neg y]
      exact hB _ _ 0 _ ⟨tr, af.2, by decide, by omega⟩
theorem look_table (h : Rel N T S) {c : Int} (c0 : 0 ≤ c) (c1 : c < S.1 1) {Z : Sta} (z1 : Z.1 = S.1) (z2 : ∀ k : Nat, k ∉ [17, 18] → Z.2 k = S.2 k) (bt : BTab Z c) (en : ∀ a b d u, (0 ≤ a ∧ a ≤ 3) → (0 ≤ b ∧ b ≤ 3) → (0 ≤ d ∧ d ≤ 9) → (-30 ≤ u ∧ u ≤ 30) → Z.2 17 (M_spot (S.1 3) a b d u) = M_size (S.2 4 c + u)) : ∀ (k : Nat) (r t g n u : Int), r + (k : Int) = S.1 3 → 0 ≤ r → M_rg r t g n u → Z.2 17 (M_spot r t g n u) = BF (T.2.2.2 c) (S.1 4) k r t g n u := by
  have s3 := InvM_s3 h.iw
  have s4 := InvM_s4 h.iw
  intro k
  induction k with
  | zero =>
    intro r t g n u hr r0 hg
    obtain ⟨g1, g2, g3, g4⟩ := hg
    rw [show r = S.1 3 by omega, en t g n u g1 g2 g3 (by omega)]
    show _ = J_abs ((T.2.2.2 c).1 2 + u)
    rw [(h.now c0 c1).2.2.1.2.2.1]
    rfl
  | succ k ih =>
    intro r t g n u hr r0 hg
    have hB : ∀ t g n u, M_rg (r + 1) t g n u → Z.2 17 (M_spot (r + 1) t g n u) = BF (T.2.2.2 c) (S.1 4) k (r + 1) t g n u := fun t g n u q => ih (r + 1) t g n u (by omega) (by omega) q
    have hr2 : 0 ≤ r ∧ r < 30 := by omega
    rw [bt r t g n u r0 (by rw [z1]; omega) hg, M_ls_eq, look_by h c0 c1 z1 z2 hr2 hB hg (by omega), look_by h c0 c1 z1 z2 hr2 hB hg (by omega)]
    show _ = M_mn (M_mn (M_mn 1000000 (byF (T.2.2.2 c) (S.1 4) (BF (T.2.2.2 c) (S.1 4) k) r t g n u 0)) (byF (T.2.2.2 c) (S.1 4) (BF (T.2.2.2 c) (S.1 4) k) r t g n u 1)) (byF (T.2.2.2 c) (S.1 4) (BF (T.2.2.2 c) (S.1 4) k) r t g n u 2)
    have g3 := hg.2.2.1
    by_cases n9 : n = 9
    · rw [if_pos n9]
      have e9 : byF (T.2.2.2 c) (S.1 4) (BF (T.2.2.2 c) (S.1 4) k) r t g n u 2 = 1000000 := by
        unfold byF
        rw [if_pos rfl, if_neg (by omega)]
      rw [e9]
    · rw [if_neg n9, look_by h c0 c1 z1 z2 hr2 hB hg (by omega)]
theorem BF_le (X : Sta) (f : Int) (k : Nat) (r t g n u : Int) : BF X f (k + 1) r t g n u ≤ byF X f (BF X f k) r t g n u 0 ∧ BF X f (k + 1) r t g n u ≤ byF X f (BF X f k) r t g n u 1 ∧ BF X f (k + 1) r t g n u ≤ byF X f (BF X f k) r t g n u 2 ∧ BF X f (k + 1) r t g n u ≤ 1000000 ∧ (BF X f (k + 1) r t g n u = 1000000 ∨ BF X f (k + 1) r t g n u = byF X f (BF X f k) r t g n u 0 ∨ BF X f (k + 1) r t g n u = byF X f (BF X f k) r t g n u 1 ∨ BF X f (k + 1) r t g n u = byF X f (BF X f k) r t g n u 2) := by
  have e : BF X f (k + 1) r t g n u = M_mn (M_mn (M_mn 1000000 (byF X f (BF X f k) r t g n u 0)) (byF X f (BF X f k) r t g n u 1)) (byF X f (BF X f k) r t g n u 2) := rfl
  unfold M_mn at e
  omega
/-- the turn that is found is the first of the best -/
theorem look_gr (h : Rel N T S) {c : Int} (c0 : 0 ≤ c) (c1 : c < S.1 1) {Z : Sta} (zI : InvW N Z) (z1 : Z.1 = S.1) (z2 : ∀ k : Nat, k ∉ [17, 18] → Z.2 k = S.2 k) (bt : BTab Z c) (tab : ∀ (k : Nat) (r t g n u : Int), r + (k : Int) = S.1 3 → 0 ≤ r → M_rg r t g n u → Z.2 17 (M_spot r t g n u) = BF (T.2.2.2 c) (S.1 4) k r t g n u) {a b : Int} (hab : Z.2 17 (M_spot 0 0 a b 0) < 1000000) : ∀ (fu : Nat) (k : Nat) (v2 v3 v4 v5 v7 : Int) (Y : Sta), v7 + (k : Int) = S.1 3 → 0 ≤ v7 → M_rg v7 v4 v2 v3 v5 → k < fu → InvW N Y → Y.1 = Z.1 → (∀ j : Nat, j ≠ 18 → Y.2 j = Z.2 j) → BF (T.2.2.2 c) (S.1 4) k v7 v4 v2 v3 v5 < 1000000 → Gr (T.2.2.2 c) (S.1 4) ((M_look_l336 S c Z a b fu v2 v3 v4 v5 v7 Y).2.2 18) (S.2 4 c + (M_look_l336 S c Z a b fu v2 v3 v4 v5 v7 Y).1) k v7 v4 v2 v3 v5 ∧ ∀ j, j < v7 → (M_look_l336 S c Z a b fu v2 v3 v4 v5 v7 Y).2.2 18 j = Y.2 18 j := by
  have s3 := InvM_s3 h.iw
  have s4 := InvM_s4 h.iw
  have way : (T.2.2.2 c).1 0 = S.2 2 c := (h.now c0 c1).2.2.1.1
  intro fu
  induction fu with
  | zero => intro k v2 v3 v4 v5 v7 Y _ _ _ hk; omega
  | succ fu ih =>
    intro k v2 v3 v4 v5 v7 Y hr r0 hg hk hY y1 y2 hl
    rw [M_look_l336_s]
    cases k with
    | zero =>
      rw [if_pos (by omega)]
      refine ⟨?_, fun _ _ => rfl⟩
      show _ = (T.2.2.2 c).1 2 + v5
      rw [(h.now c0 c1).2.2.1.2.2.1]
    | succ k =>
      rw [if_neg (by omega), if_neg (by omega)]
      obtain ⟨g1, g2, g3, g4⟩ := hg
      have hr2 : 0 ≤ v7 ∧ v7 < 30 := by omega
      have hB : ∀ t g n u, M_rg (v7 + 1) t g n u → Z.2 17 (M_spot (v7 + 1) t g n u) = BF (T.2.2.2 c) (S.1 4) k (v7 + 1) t g n u := fun t g n u q => tab k (v7 + 1) t g n u (by omega) (by omega) q
      have best := tab (k + 1) v7 v4 v2 v3 v5 hr r0 ⟨g1, g2, g3, g4⟩
      have yby : ∀ d : Int, M_by Y c v7 v4 v2 v3 v5 d = M_by Z c v7 v4 v2 v3 v5 d := by
        intro d
        unfold M_by M_by_m104 M_by_m138 M_by_m40 M_fits M_lies
        rw [y1, y2 0 (by decide), y2 1 (by decide), y2 2 (by decide), y2 16 (by decide), y2 17 (by decide)]
      obtain ⟨t0, ht0, ht1, ht2⟩ := BTab_ex (t := v4) (h := v2) (n := v3) (u := v5) bt (r := v7) ⟨r0, by rw [z1]; omega⟩ g1 g2 g3 g4 (by rw [best]; exact hl)
      have q := M_look_l355_sp (Y := Y) ht0 ht1 g3.2 (by rw [yby]; exact ht2) 3 0 (by decide) ht0.1 (by omega)
      generalize M_look_l355 c Z v2 v3 v4 v5 v7 Y 3 0 = z at q ⊢
      obtain ⟨⟨q1, q2, q3⟩, -, q4⟩ := q
      have by_ : ∀ d, 0 ≤ d → d ≤ 2 → (d = 2 → v3 ≤ 8) → M_by Z c v7 v4 v2 v3 v5 d = byF (T.2.2.2 c) (S.1 4) (BF (T.2.2.2 c) (S.1 4) k) v7 v4 v2 v3 v5 d := fun d d0 d1 d2 => look_by h c0 c1 z1 z2 hr2 hB ⟨g1, g2, g3, g4⟩ ⟨⟨d0, d1⟩, d2⟩
      rw [yby, best] at q3
      have q5 : ∀ d, 0 ≤ d → d < z → ¬ M_by Z c v7 v4 v2 v3 v5 d = BF (T.2.2.2 c) (S.1 4) (k + 1) v7 v4 v2 v3 v5 := fun d d0 d1 => by
        have x := q4 d d0 d1
        rw [yby, best] at x
        exact x
      have gz : gtF (T.2.2.2 c) (S.1 4) k v7 v4 v2 v3 v5 = z := by
        unfold gtF
        have z3 : z = 0 ∨ z = 1 ∨ z = 2 := by omega
        rcases z3 with rfl | rfl | rfl
        · rw [← by_ 0 (by decide) (by decide) (by omega), if_pos q3]
        · have n0 := q5 0 (by decide) (by decide)
          rw [by_ 0 (by decide) (by decide) (by omega)] at n0
          rw [if_neg n0, ← by_ 1 (by decide) (by decide) (by omega), if_pos q3]
        · have n0 := q5 0 (by decide) (by decide)
          have n1 := q5 1 (by decide) (by decide)
          rw [by_ 0 (by decide) (by decide) (by omega)] at n0
          rw [by_ 1 (by decide) (by decide) (by omega)] at n1
          rw [if_neg n0, if_neg n1]
      have hY2 : InvW N (mA Y 18 v7 z) := InvW.mA hY (show 0 ≤ _ ∧ _ ≤ 2 from q1)
      have y2' : ∀ j : Nat, j ≠ 18 → (mA Y 18 v7 z).2 j = Z.2 j := fun j hj => (mA_ne _ _ trivial hj).trans (y2 j hj)
      rw [by_ z q1.1 q1.2 q2] at q3
      by_cases d2 : z = 2
      · have n8 := q2 d2
        have nx : BF (T.2.2.2 c) (S.1 4) k (v7 + 1) v4 v2 (v3 + 1) v5 < 1000000 := by
          rw [← q3] at hl
          unfold byF at hl
          rw [if_pos d2] at hl
          split at hl
          · split at hl
            · next w => exact w
            · omega
          · omega
        have K := ih k v2 (v3 + 1) v4 v5 (v7 + 1) (mA Y 18 v7 z) (by omega) (by omega) ⟨g1, g2, by omega, by omega⟩ (by omega) hY2 y1 y2' nx
        simp only [if_pos d2]
        generalize M_look_l336 S c Z a b fu v2 (v3 + 1) v4 v5 (v7 + 1) (mA Y 18 v7 z) = Q at K ⊢
        have gv : Q.2.2 18 v7 = z := by rw [K.2 v7 (by omega), mA_rd, if_pos ⟨rfl, rfl⟩]
        refine ⟨⟨by rw [gv, gz], ?_⟩, fun j hj => by rw [K.2 j (by omega), mA_rd, if_neg (by omega)]⟩
        rw [gv, if_pos d2]
        exact K.1
      · have tr : 0 ≤ (v4 + (if z = 0 then 1 else 3)) % 4 ∧ (v4 + (if z = 0 then 1 else 3)) % 4 ≤ 3 := by omega
        have af := h.after c0 c1 tr (p := z) (by omega)
        have lz : M_lies (mA Y 18 v7 z) c ((v4 + (if z = 0 then 1 else 3)) % 4) z = C_threadAfter (T.2.2.2 c) (P_roundFrom v4 z) z := by
          have e1 : (mA Y 18 v7 z).2 1 = S.2 1 := (y2' 1 (by decide)).trans (z2 1 (by decide))
          unfold M_lies
          rw [e1]
          exact af.1.symm
        have nx : BF (T.2.2.2 c) (S.1 4) k (v7 + 1) (P_roundFrom v4 z) (C_threadAfter (T.2.2.2 c) (P_roundFrom v4 z) z) 0 (v5 + (if z = (T.2.2.2 c).1 0 then 1 else -1)) < 1000000 := by
          rw [← q3] at hl
          unfold byF at hl
          rw [if_neg d2] at hl
          split at hl
          · omega
          · exact hl
        have mr : (if z = S.2 2 c then (1 : Int) else -1) = 1 ∨ (if z = S.2 2 c then (1 : Int) else -1) = -1 := by
          split
          · exact Or.inl rfl
          · exact Or.inr rfl
        rw [way] at nx
        simp only [if_neg d2]
        rw [lz]
        have K := ih k (C_threadAfter (T.2.2.2 c) (P_roundFrom v4 z) z) 0 (P_roundFrom v4 z) (v5 + (if z = S.2 2 c then 1 else -1)) (v7 + 1) (mA Y 18 v7 z) (by omega) (by omega) ⟨tr, by rw [show C_threadAfter (T.2.2.2 c) (P_roundFrom v4 z) z = _ from af.1]; exact af.2, by decide, by omega⟩ (by omega) hY2 y1 y2' nx
        have K2 : Gr (T.2.2.2 c) (S.1 4) ((M_look_l336 S c Z a b fu (C_threadAfter (T.2.2.2 c) (P_roundFrom v4 z) z) 0 ((v4 + (if z = 0 then 1 else 3)) % 4) (v5 + (if z = S.2 2 c then 1 else -1)) (v7 + 1) (mA Y 18 v7 z)).2.2 18) (S.2 4 c + (M_look_l336 S c Z a b fu (C_threadAfter (T.2.2.2 c) (P_roundFrom v4 z) z) 0 ((v4 + (if z = 0 then 1 else 3)) % 4) (v5 + (if z = S.2 2 c then 1 else -1)) (v7 + 1) (mA Y 18 v7 z)).1) k (v7 + 1) (P_roundFrom v4 z) (C_threadAfter (T.2.2.2 c) (P_roundFrom v4 z) z) 0 (v5 + (if z = S.2 2 c then 1 else -1)) ∧ ∀ j, j < v7 + 1 → (M_look_l336 S c Z a b fu (C_threadAfter (T.2.2.2 c) (P_roundFrom v4 z) z) 0 ((v4 + (if z = 0 then 1 else 3)) % 4) (v5 + (if z = S.2 2 c then 1 else -1)) (v7 + 1) (mA Y 18 v7 z)).2.2 18 j = (mA Y 18 v7 z).2 18 j := K
        generalize M_look_l336 S c Z a b fu (C_threadAfter (T.2.2.2 c) (P_roundFrom v4 z) z) 0 ((v4 + (if z = 0 then 1 else 3)) % 4) (v5 + (if z = S.2 2 c then 1 else -1)) (v7 + 1) (mA Y 18 v7 z) = Q at K2 ⊢
        have gv : Q.2.2 18 v7 = z := by rw [K2.2 v7 (by omega), mA_rd, if_pos ⟨rfl, rfl⟩]
        refine ⟨⟨by rw [gv, gz], ?_⟩, fun j hj => by rw [K2.2 j (by omega), mA_rd, if_neg (by omega)]⟩
        rw [gv, if_neg d2, way]
        exact K2.1
/-! how long it is idle matters up to FLOATS alone -/
theorem BF_cap (X : Sta) (f : Int) (k : Nat) (r t g n n' u : Int) (hn : f ≤ n) (hn' : f ≤ n') : BF X f k r t g n u = BF X f k r t g n' u := by
  cases k with
  | zero => rfl
  | succ k =>
    have e : ∀ n, f ≤ n → byF X f (BF X f k) r t g n u 2 = 1000000 := fun n q => by
      unfold byF
      rw [if_pos rfl, if_neg (by omega)]
    show M_mn (M_mn (M_mn 1000000 (byF X f (BF X f k) r t g n u 0)) (byF X f (BF X f k) r t g n u 1)) (byF X f (BF X f k) r t g n u 2) = M_mn (M_mn (M_mn 1000000 (byF X f (BF X f k) r t g n' u 0)) (byF X f (BF X f k) r t g n' u 1)) (byF X f (BF X f k) r t g n' u 2)
    rw [e n hn, e n' hn']
    rfl
theorem Gr_cap (X : Sta) (f : Int) (pl : Int → Int) (e : Int) (k : Nat) (r t g n n' u : Int) (hn : f ≤ n) (hn' : f ≤ n') (hl : BF X f k r t g n u < 1000000) (h : Gr X f pl e k r t g n u) : Gr X f pl e k r t g n' u := by
  cases k with
  | zero => exact h
  | succ k =>
    have e1 : gtF X f k r t g n' u = gtF X f k r t g n u := by
      unfold gtF
      rw [BF_cap X f (k + 1) r t g n' n u hn' hn]
      rfl
    have ne : ¬ pl r = 2 := by
      intro q
      have q2 := h.1
      rw [q] at q2
      have b := BF_le X f k r t g n u
      have b2 : byF X f (BF X f k) r t g n u 2 = 1000000 := by
        unfold byF
        rw [if_pos rfl, if_neg (by omega)]
      unfold gtF at q2
      split at q2
      · omega
      · split at q2
        · omega
        · omega
    refine ⟨h.1.trans e1.symm, ?_⟩
    have h2 := h.2
    rw [if_neg ne] at h2 ⊢
    exact h2
theorem look_sp (h : Rel N T S) {c : Int} (c0 : 0 ≤ c) (c1 : c < S.1 1) : (M_look S c).1 = BF (T.2.2.2 c) (S.1 4) (S.1 3).toNat 0 0 (C_showing (T.2.2.2 c) (S.1 2)) (C_idleBehind (T.2.2.2 c) (S.1 2)) 0 ∧ ((M_look S c).1 < 1000000 → Gr (T.2.2.2 c) (S.1 4) ((M_look S c).2.2 18) ((M_look S c).2.1 5) (S.1 3).toNat 0 0 (C_showing (T.2.2.2 c) (S.1 2)) (C_idleBehind (T.2.2.2 c) (S.1 2)) 0) := by
  have s1 := InvM_s1 h.iw
  have s2 := InvM_s2 h.iw
  have s3 := InvM_s3 h.iw
  have s4 := InvM_s4 h.iw
  have z := M_look_z96 S c h.iw h.iwt (by omega)
  have en := fun a b d u ha hb hd hu => look_end h.iw h.iwt c a b d u ha hb hd hu
  have i5 := InvM_a5 h.iwt c
  have a1 := InvM_a1 h.iw (4 * c)
  have a13 := InvM_a13 h.iw (16 * (S.1 2 - 1) + c)
  have hsh : C_showing (T.2.2.2 c) (S.1 2) = (if S.1 2 = 0 then S.2 1 (4 * c) else S.2 13 (16 * (S.1 2 - 1) + c)) := by
    unfold C_showing
    by_cases q : S.1 2 = 0
    · rw [if_pos q, if_pos (by omega)]
      have k := (h.now c0 c1).2.1 0 (by decide) (by decide)
      rw [Int.add_zero] at k
      exact k
    · rw [if_neg q, if_neg (by omega)]
      exact h.front c0 c1 (by omega) (by omega)
  rw [hsh, h.idle c0 c1]
  obtain ⟨zI, z1, z2, zB⟩ := z
  unfold M_look M_look_r2 M_look_r96 M_look_m288 M_look_m311 M_look_r336
  dsimp only
  generalize M_look_l96 c 31 (S.1 3 - 1) (M_look_l2 S c 5 0 S) = Z at zI z1 z2 zB en ⊢
  have hm : 0 ≤ (if S.1 2 = 0 then S.2 1 (4 * c) else S.2 13 (16 * (S.1 2 - 1) + c)) ∧ (if S.1 2 = 0 then S.2 1 (4 * c) else S.2 13 (16 * (S.1 2 - 1) + c)) ≤ 3 := by split <;> omega
  generalize (if S.1 2 = 0 then S.2 1 (4 * c) else S.2 13 (16 * (S.1 2 - 1) + c)) = sh at hm ⊢
  have z2' : ∀ k : Nat, k ∉ [17, 18] → Z.2 k = S.2 k := fun k hk => z2 k (fun q => hk (by simp at q; simp [q]))
  have tab := look_table h c0 c1 z1 z2' zB en
  have hn : (S.2 5 c = (if S.2 5 c ≤ 9 then S.2 5 c else 9) ∨ (9 ≤ S.2 5 c ∧ (if S.2 5 c ≤ 9 then S.2 5 c else 9) = 9)) ∧ (0 ≤ (if S.2 5 c ≤ 9 then S.2 5 c else 9) ∧ (if S.2 5 c ≤ 9 then S.2 5 c else 9) ≤ 9) := by split <;> omega
  generalize (if S.2 5 c ≤ 9 then S.2 5 c else 9) = n at hn ⊢
  have t0 := tab (S.1 3).toNat 0 0 sh n 0 (by omega) (by decide) ⟨by decide, hm, hn.2, by decide⟩
  have ec : BF (T.2.2.2 c) (S.1 4) (S.1 3).toNat 0 0 sh n 0 = BF (T.2.2.2 c) (S.1 4) (S.1 3).toNat 0 0 sh (S.2 5 c) 0 := by
    rcases hn.1 with q | q
    · rw [← q]
    · exact BF_cap _ _ _ _ _ _ _ _ _ (by omega) (by omega)
  refine ⟨t0.trans ec, fun hl => ?_⟩
  rw [t0] at hl
  have g := look_gr h c0 c1 zI z1 z2' zB tab (a := sh) (b := n) (by rw [t0]; exact hl) 31 (S.1 3).toNat sh n 0 0 0 Z (by omega) (by decide) ⟨by decide, hm, hn.2, by decide⟩ (by omega) zI rfl (fun _ _ => rfl) hl
  have g1 : Gr (T.2.2.2 c) (S.1 4) ((M_look_l336 S c Z sh n 31 sh n 0 0 0 Z).2.2 18) (S.2 4 c + (M_look_l336 S c Z sh n 31 sh n 0 0 0 Z).1) (S.1 3).toNat 0 0 sh n 0 := g.1
  rcases hn.1 with q | q
  · rw [q]
    exact g1
  · exact Gr_cap _ _ _ _ _ _ _ _ n _ _ (by omega) (by omega) hl g1
end LOOK
