/-! QUERIES that look at the picture -/
section QUE2
variable {N : Int} {T : TS} {S : Sta}
theorem Rel.fits (h : Rel N T S) {c r t : Int} (c0 : 0 ≤ c) (c1 : c < S.1 1) (r0 : 0 ≤ r) (r1 : r < 30) (t0 : 0 ≤ t) (t1 : t ≤ 3) : C_fits (T.2.2.2 c) r t = M_fits S r c (S.2 0 (4 * c + t)) := by
  unfold C_fits M_fits
  rw [(h.now c0 c1).2.2.2 r r0 r1, (h.now c0 c1).1 t t0 t1]
theorem s_unlike_l14 (h : Rel N T S) {r : Int} (r0 : 0 ≤ r) (r1 : r < 30) (r2 : r < S.1 2) : ∀ (n : Nat) (a v : Int), 0 ≤ v → T_unlike_l14 T r n a v = M_unlike_l19 S r n a v := by
  intro n
  induction n with
  | zero => intro a v _; rfl
  | succ n ih =>
    intro a v hv
    rw [T_unlike_l14_s, M_unlike_l19_s, h.sc.1]
    split
    · rfl
    · have fr := InvM_a13 h.iw (16 * r + v)
      rw [h.front hv (by omega) r0 r2, h.fits hv (by omega) r0 r1 fr.1 fr.2]
      dsimp only
      show (T_unlike_l14 T r n (if M_fits S r v (M_colourOf S r v) = 0 then a + 1 else a) (v + 1)) = _
      by_cases e : M_fits S r v (M_colourOf S r v) = 0
      · rw [if_pos e, if_pos e]
        exact ih _ _ (by omega)
      · rw [if_neg e, if_neg e, Int.add_zero]
        exact ih _ _ (by omega)
theorem s_unlike_l4 (h : Rel N T S) : ∀ (n : Nat) (a v : Int), 0 ≤ v → T_unlike_l4 T n a v = M_unlike_l9 S n a v := by
  have s3 := InvM_s3 h.iw
  have w := M_seenRows_sp S
  intro n
  induction n with
  | zero => intro a v _; rfl
  | succ n ih =>
    intro a v hv
    rw [T_unlike_l4_s, M_unlike_l9_s, h.woven]
    split
    · rfl
    · rw [s_unlike_l14 h hv (by omega) (by omega) 17 a 0 (by decide)]
      exact ih _ _ (by omega)
theorem s_unlike (h : Rel N T S) : T_unlike T = M_unlike S := s_unlike_l4 h 31 0 0 (by decide)
/-! threads that are wanted, quarrels: g the thread that a row shows, z its colour in the picture -/
theorem C_wantedOf_l2_sp {X : Sta} {g z : Int → Int} {t m : Int} (hg : ∀ k, 0 ≤ k → k < m → X.2 3 k = g k ∧ X.2 6 k = z k) : ∀ (n : Nat) (v : Int), 0 ≤ v → m - v < (n : Int) → (C_wantedOf_l2 X t m n v = .inr () ∧ ∀ k, v ≤ k → k < m → g k = t → z k = -99) ∨ (∃ k, C_wantedOf_l2 X t m n v = .inl (z k) ∧ (v ≤ k ∧ k < m) ∧ g k = t ∧ ¬ z k = -99 ∧ ∀ j, v ≤ j → j < k → g j = t → z j = -99) := by
  intro n
  induction n with
  | zero => intro v _ hn; exact Or.inl ⟨rfl, fun k k0 k1 => by omega⟩
  | succ n ih =>
    intro v hv hn
    rw [C_wantedOf_l2_s]
    by_cases e : m ≤ v
    · rw [if_pos e]
      exact Or.inl ⟨rfl, fun k k0 k1 => by omega⟩
    · rw [if_neg e, (hg v hv (by omega)).1, (hg v hv (by omega)).2]
      have go : (g v = t → z v = -99) → (C_wantedOf_l2 X t m n (v + 1) = .inr () ∧ ∀ k, v ≤ k → k < m → g k = t → z k = -99) ∨ (∃ k, C_wantedOf_l2 X t m n (v + 1) = .inl (z k) ∧ (v ≤ k ∧ k < m) ∧ g k = t ∧ ¬ z k = -99 ∧ ∀ j, v ≤ j → j < k → g j = t → z j = -99) := by
        intro hz
        rcases ih (v + 1) (by omega) (by omega) with ⟨a, b⟩ | ⟨k, a, b, c, d, f⟩
        · refine Or.inl ⟨a, fun k k0 k1 k2 => ?_⟩
          by_cases q : k = v
          · rw [q]; exact hz (by rw [← q]; exact k2)
          · exact b k (by omega) k1 k2
        · refine Or.inr ⟨k, a, by omega, c, d, fun j j0 j1 j2 => ?_⟩
          by_cases q : j = v
          · rw [q]; exact hz (by rw [← q]; exact j2)
          · exact f j (by omega) j1 j2
      by_cases e1 : g v = t
      · rw [if_pos e1]
        by_cases e2 : z v = -99
        · rw [if_pos e2]
          exact go (fun _ => e2)
        · rw [if_neg e2]
          exact Or.inr ⟨v, rfl, by omega, e1, e2, fun j j0 j1 => by omega⟩
      · rw [if_neg e1]
        exact go (fun q => absurd q e1)
theorem C_wantedOf_sp {X : Sta} {g z : Int → Int} {t m : Int} (hm : 0 ≤ m ∧ m ≤ 30) (hg : ∀ k, 0 ≤ k → k < m → X.2 3 k = g k ∧ X.2 6 k = z k) : (C_wantedOf X t m = -99 ∧ ∀ k, 0 ≤ k → k < m → g k = t → z k = -99) ∨ (∃ k, C_wantedOf X t m = z k ∧ (0 ≤ k ∧ k < m) ∧ g k = t ∧ ¬ z k = -99 ∧ ∀ j, 0 ≤ j → j < k → g j = t → z j = -99) := by
  unfold C_wantedOf
  rcases C_wantedOf_l2_sp (t := t) hg 31 0 (by decide) (by omega) with ⟨a, b⟩ | ⟨k, a, b⟩
  · rw [a]; exact Or.inl ⟨rfl, b⟩
  · rw [a]; exact Or.inr ⟨k, rfl, b⟩
def QBad (g z : Int → Int) (r q : Int) : Prop := g r = g q ∧ ¬ z r = -99 ∧ ¬ z q = -99 ∧ ¬ z r = z q
theorem M_quarrelOf_l12_sp (S : Sta) (c v : Int) : ∀ (n : Nat) (w : Int), 0 ≤ w → v - w < (n : Int) → (M_quarrelOf_l12 S c v n w = .inl v ∧ ∃ q, (w ≤ q ∧ q < v) ∧ QBad (fun k => S.2 13 (16 * k + c)) (fun k => S.2 16 (16 * k + c)) v q) ∨ (M_quarrelOf_l12 S c v n w = .inr () ∧ ∀ q, w ≤ q → q < v → ¬ QBad (fun k => S.2 13 (16 * k + c)) (fun k => S.2 16 (16 * k + c)) v q) := by
  intro n
  induction n with
  | zero => intro w _ hn; exact Or.inr ⟨rfl, fun q q0 q1 => by omega⟩
  | succ n ih =>
    intro w hw hn
    rw [M_quarrelOf_l12_s]
    by_cases e : v ≤ w
    · rw [if_pos e]
      exact Or.inr ⟨rfl, fun q q0 q1 => by omega⟩
    · rw [if_neg e]
      dsimp only
      have go : ¬ QBad (fun k => S.2 13 (16 * k + c)) (fun k => S.2 16 (16 * k + c)) v w → (M_quarrelOf_l12 S c v n (w + 1) = .inl v ∧ ∃ q, (w ≤ q ∧ q < v) ∧ QBad (fun k => S.2 13 (16 * k + c)) (fun k => S.2 16 (16 * k + c)) v q) ∨ (M_quarrelOf_l12 S c v n (w + 1) = .inr () ∧ ∀ q, w ≤ q → q < v → ¬ QBad (fun k => S.2 13 (16 * k + c)) (fun k => S.2 16 (16 * k + c)) v q) := by
        intro nb
        rcases ih (w + 1) (by omega) (by omega) with ⟨a, q, b, d⟩ | ⟨a, b⟩
        · exact Or.inl ⟨a, q, by omega, d⟩
        · refine Or.inr ⟨a, fun q q0 q1 => ?_⟩
          by_cases x : q = w
          · rw [x]; exact nb
          · exact b q (by omega) q1
      by_cases e1 : S.2 13 (16 * v + c) = S.2 13 (16 * w + c)
      · by_cases e2 : S.2 16 (16 * v + c) = -99
        · rw [if_pos e1, if_pos e2, if_pos rfl]
          exact go (fun b => b.2.1 e2)
        · by_cases e3 : S.2 16 (16 * w + c) = -99
          · rw [if_pos e1, if_neg e2, if_pos e3, if_pos rfl]
            exact go (fun b => b.2.2.1 e3)
          · rw [if_pos e1, if_neg e2, if_neg e3, if_neg (show ¬ (1 : Int) = 0 by decide)]
            by_cases e4 : S.2 16 (16 * v + c) = S.2 16 (16 * w + c)
            · rw [if_pos e4]
              exact go (fun b => b.2.2.2 e4)
            · rw [if_neg e4]
              exact Or.inl ⟨rfl, w, by omega, e1, e2, e3, e4⟩
      · rw [if_neg e1, if_pos rfl]
        exact go (fun b => e1 b.1)
theorem s_quarrel_l (h : Rel N T S) {c : Int} (c0 : 0 ≤ c) (c1 : c < S.1 1) : ∀ (n : Nat) (v : Int), 0 ≤ v → (∀ r, 0 ≤ r → r < v → ∀ q, 0 ≤ q → q < r → ¬ QBad (fun k => S.2 13 (16 * k + c)) (fun k => S.2 16 (16 * k + c)) r q) → C_quarrelRow_l2 (T.2.2.2 c) (M_seenRows S) n v = M_quarrelOf_l2 S c n v := by
  have s3 := InvM_s3 h.iw
  have w := M_seenRows_sp S
  intro n
  induction n with
  | zero => intro v _ _; rfl
  | succ n ih =>
    intro v hv nb
    rw [C_quarrelRow_l2_s, M_quarrelOf_l2_s]
    by_cases e : M_seenRows S ≤ v
    · rw [if_pos e, if_pos e]
    · rw [if_neg e, if_neg e, (h.now c0 c1).2.2.2 v hv (by omega), h.front c0 c1 hv (by omega)]
      have W := C_wantedOf_sp (X := T.2.2.2 c) (g := fun k => S.2 13 (16 * k + c)) (z := fun k => S.2 16 (16 * k + c)) (t := S.2 13 (16 * v + c)) (m := v) (by omega) (fun k k0 k1 => ⟨h.front c0 c1 k0 (by omega), (h.now c0 c1).2.2.2 k k0 (by omega)⟩)
      rcases M_quarrelOf_l12_sp S c v 31 0 (by decide) (by omega) with ⟨a, q, b, d⟩ | ⟨a, b⟩
      · rw [a]
        obtain ⟨d1, d2, d3, d4⟩ := d
        rw [if_neg d2]
        rcases W with ⟨w1, w2⟩ | ⟨k, w1, w2, w3, w4, w5⟩
        · exact absurd (w2 q b.1 b.2 d1.symm) d3
        · rw [w1, if_neg w4]
          have ne : ¬ S.2 16 (16 * k + c) = S.2 16 (16 * v + c) := by
            intro eq
            have kq : k < q := by
              rcases Int.lt_trichotomy k q with x | x | x
              · exact x
              · exact absurd (by rw [← x]; exact eq.symm) d4
              · exact absurd (w5 q b.1 x d1.symm) d3
            refine nb q b.1 b.2 k w2.1 kq ⟨d1.symm.trans w3.symm, d3, w4, fun x => d4 (eq.symm.trans x.symm)⟩
          rw [if_neg ne]
          rfl
      · rw [a]
        show _ = M_quarrelOf_l2 S c n (v + 1)
        have go : C_quarrelRow_l2 (T.2.2.2 c) (M_seenRows S) n (v + 1) = M_quarrelOf_l2 S c n (v + 1) := by
          refine ih _ (by omega) (fun r r0 r1 q q0 q1 => ?_)
          by_cases x : r = v
          · rw [x]; exact b q q0 (by omega)
          · exact nb r r0 (by omega) q q0 q1
        by_cases z1 : S.2 16 (16 * v + c) = -99
        · rw [if_pos z1]; exact go
        · rw [if_neg z1]
          rcases W with ⟨w1, w2⟩ | ⟨k, w1, w2, w3, w4, w5⟩
          · rw [w1, if_pos rfl]; exact go
          · rw [w1, if_neg w4]
            by_cases z2 : S.2 16 (16 * k + c) = S.2 16 (16 * v + c)
            · rw [if_pos z2]; exact go
            · exact absurd ⟨w3.symm, z1, w4, fun x => z2 x.symm⟩ (b k w2.1 w2.2)
theorem s_quarrelOf (h : Rel N T S) {c : Int} (c0 : 0 ≤ c) (c1 : c < S.1 1) : C_quarrelRow (T.2.2.2 c) (T_wovenRows T) = M_quarrelOf S c := by
  unfold C_quarrelRow M_quarrelOf
  rw [h.woven, s_quarrel_l h c0 c1 31 0 (by decide) (fun r r0 r1 => by omega)]
  rfl
theorem s_quarrel (h : Rel N T S) (c : Int) : T_quarrel T c = M_quarrel S c := by
  unfold T_quarrel M_quarrel
  rcases h.card c with ⟨a, b, -⟩ | ⟨a, b, c0, c1⟩
  · rw [if_pos a, if_neg (by omega)]
  · rw [if_neg (by omega), if_pos b, s_quarrelOf h c0 c1]
theorem M_quarrelOf_none_l (S : Sta) (c : Int) : ∀ (n : Nat) (v : Int), 0 ≤ v → M_seenRows S - v < (n : Int) → M_seenRows S ≤ 30 → M_quarrelOf_l2 S c n v = .inr () → ∀ r, v ≤ r → r < M_seenRows S → ∀ q, 0 ≤ q → q < r → ¬ QBad (fun k => S.2 13 (16 * k + c)) (fun k => S.2 16 (16 * k + c)) r q := by
  intro n
  induction n with
  | zero => intro v _ hn _ _ r r0 r1; omega
  | succ n ih =>
    intro v hv hn h30 hq r r0 r1
    rw [M_quarrelOf_l2_s, if_neg (by omega)] at hq
    rcases M_quarrelOf_l12_sp S c v 31 0 (by decide) (by omega) with ⟨a, -⟩ | ⟨a, b⟩
    · rw [a] at hq
      cases hq
    · rw [a] at hq
      by_cases x : r = v
      · rw [x]; exact b
      · exact ih (v + 1) (by omega) (by omega) h30 hq r (by omega) r1
theorem M_quarrelOf_none {N : Int} {S : Sta} (hI : InvW N S) {c : Int} (hq : M_quarrelOf S c = -99) : ∀ r, 0 ≤ r → r < M_seenRows S → ∀ q, 0 ≤ q → q < r → ¬ QBad (fun k => S.2 13 (16 * k + c)) (fun k => S.2 16 (16 * k + c)) r q := by
  have s3 := InvM_s3 hI
  have w := M_seenRows_sp S
  have s2 := InvM_s2 hI
  refine M_quarrelOf_none_l S c 31 0 (by decide) (by omega) (by omega) ?_
  rcases M_quarrelOf_l2_rg S c 31 0 (by decide) with ⟨z, e, z0, z1⟩ | e
  · have e2 : M_quarrelOf S c = z := congrArg (Sum.elim id _) e
    omega
  · exact e
theorem M_threading_l46_sp (S : Sta) (c t w : Int) : ∀ (n : Nat) (v3 v4 : Int), M_seenRows S - v4 < (n : Int) → (∀ q, v4 ≤ q → q < M_seenRows S → S.2 13 (16 * q + c) = t → ¬ S.2 16 (16 * q + c) = -99 → S.2 16 (16 * q + c) = w) → (v3 = w ∨ ∃ q, (v4 ≤ q ∧ q < M_seenRows S) ∧ S.2 13 (16 * q + c) = t ∧ ¬ S.2 16 (16 * q + c) = -99) → M_threading_l46 S c t n v3 v4 = w := by
  intro n
  induction n with
  | zero =>
    intro v3 v4 hn ha he
    rcases he with he | ⟨q, he, -⟩
    · exact he
    · omega
  | succ n ih =>
    intro v3 v4 hn ha he
    rw [M_threading_l46_s]
    by_cases e : M_seenRows S ≤ v4
    · rw [if_pos e]
      rcases he with he | ⟨q, he, -⟩
      · exact he
      · omega
    · rw [if_neg e]
      dsimp only
      by_cases e1 : S.2 13 (16 * v4 + c) = t
      · by_cases e2 : S.2 16 (16 * v4 + c) = -99
        · rw [if_pos e1, if_pos e2]
          refine ih _ _ (by omega) (fun q q0 => ha q (by omega)) ?_
          rcases he with he | ⟨q, he, h1, h2⟩
          · exact Or.inl he
          · by_cases x : q = v4
            · exact absurd (by rw [← x] at e2; exact e2) h2
            · exact Or.inr ⟨q, by omega, h1, h2⟩
        · rw [if_pos e1, if_neg e2]
          exact ih _ _ (by omega) (fun q q0 => ha q (by omega)) (Or.inl (ha v4 (by omega) (by omega) e1 e2))
      · rw [if_neg e1]
        refine ih _ _ (by omega) (fun q q0 => ha q (by omega)) ?_
        rcases he with he | ⟨q, he, h1, h2⟩
        · exact Or.inl he
        · by_cases x : q = v4
          · exact absurd (by rw [← x] at e1; exact h1) (by rw [x]; exact e1)
          · exact Or.inr ⟨q, by omega, h1, h2⟩
theorem s_threading (h : Rel N T S) (c t : Int) : T_threading T c t = M_threading S c t := by
  have s3 := InvM_s3 h.iw
  have s2 := InvM_s2 h.iw
  have w := M_seenRows_sp S
  unfold T_threading M_threading
  rcases h.card c with ⟨a, b, -⟩ | ⟨a, b, c0, c1⟩
  · rw [if_pos a, if_neg (by omega)]
  · rw [if_neg (by omega), if_pos b]
    rcases in_within t 0 3 with ⟨a, b, -⟩ | ⟨a, b, t0, t1⟩
    · rw [if_pos (show T_isThread t = 0 from a), if_pos b]
    · rw [if_neg (show ¬ T_isThread t = 0 from fun q => by have q2 : T_within t 0 3 = 0 := q; omega), if_neg (show ¬ M_in t 0 3 = 0 by omega), s_quarrelOf h c0 c1]
      by_cases hq : M_quarrelOf S c = -99
      · rw [if_pos hq, if_pos hq, h.woven]
        have nb := M_quarrelOf_none h.iw hq
        have W := C_wantedOf_sp (X := T.2.2.2 c) (g := fun k => S.2 13 (16 * k + c)) (z := fun k => S.2 16 (16 * k + c)) (t := t) (m := M_seenRows S) (by omega) (fun k k0 k1 => ⟨h.front c0 c1 k0 (by omega), (h.now c0 c1).2.2.2 k k0 (by omega)⟩)
        rcases W with ⟨w1, w2⟩ | ⟨k, w1, w2, w3, w4, w5⟩
        · rw [w1]
          exact (M_threading_l46_sp S c t (-99) 31 (-99) 0 (by omega) (fun q q0 q1 q2 q3 => absurd (w2 q q0 q1 q2) q3) (Or.inl rfl)).symm
        · rw [w1]
          refine (M_threading_l46_sp S c t (S.2 16 (16 * k + c)) 31 (-99) 0 (by omega) (fun q q0 q1 q2 q3 => ?_) (Or.inr ⟨k, w2, w3, w4⟩)).symm
          by_cases x : S.2 16 (16 * q + c) = S.2 16 (16 * k + c)
          · exact x
          · rcases Int.lt_trichotomy k q with y | y | y
            · exact absurd ⟨q2.trans w3.symm, q3, w4, x⟩ (nb q q0 q1 k w2.1 y)
            · exact absurd (by rw [y]) x
            · exact absurd ⟨w3.trans q2.symm, w4, q3, fun z => x z.symm⟩ (nb k w2.1 w2.2 q q0 y)
      · rw [if_neg hq, if_neg hq]
/-! the turns that were wrong -/
theorem M_would_l12_z (S : Sta) (c p t : Int) : ∀ (n : Nat) (a b v : Int), M_would_l12 S c p t n a b 0 v = 0 := by
  intro n
  induction n with
  | zero => intro a b v; rfl
  | succ n ih =>
    intro a b v
    rw [M_would_l12_s]
    split
    · rfl
    · exact ih _ _ _
theorem s_would_l (h : Rel N T S) {c p t : Int} (c0 : 0 ≤ c) (c1 : c < S.1 1) (ht : 0 ≤ t ∧ t ≤ 2) : ∀ (n : Nat) (v4 v5 v6 : Int), (-v6 ≤ v4 ∧ v4 ≤ v6) → (0 ≤ v5 ∧ v5 ≤ 3) → 0 ≤ v6 → (v6 = 0 → v5 = 0) → Sum.elim id (fun _ => C_fitsWith_r9) (C_fitsWith_l9 (T.2.2.2 c) p t (M_seenRows S) n v4 v5 v6) = M_would_l12 S c p t n (v4 % 4) v5 1 v6 := by
  have s3 := InvM_s3 h.iw
  have s2 := InvM_s2 h.iw
  have w := M_seenRows_sp S
  intro n
  induction n with
  | zero => intro v4 v5 v6 _ _ _ _; rfl
  | succ n ih =>
    intro v4 v5 v6 h4 h5 h6 h7
    rw [C_fitsWith_l9_s, M_would_l12_s]
    by_cases e : M_seenRows S ≤ v6
    · rw [if_pos e, if_pos e]
      rfl
    · rw [if_neg e, if_neg e, ((h.past c0 c1) v6 h6 (by omega)).1.1]
      have tr := InvM_a12 h.iw (16 * v6 + c)
      have tr2 : 0 ≤ (if v6 = p then t else S.2 12 (16 * v6 + c)) ∧ (if v6 = p then t else S.2 12 (16 * v6 + c)) ≤ 2 := by split <;> omega
      dsimp only
      generalize (if v6 = p then t else S.2 12 (16 * v6 + c)) = m at tr2 ⊢
      have f1 := J_floorMod_sp (-(v4 + 1)) 4 (by omega) rfl
      have f2 := J_floorMod_sp (1 - (v4 + -1)) 4 (by omega) rfl
      have key : ∀ (a b : Int), (-(v6 + 1) ≤ a ∧ a ≤ v6 + 1) → (0 ≤ b ∧ b ≤ 3) → Sum.elim id (fun _ => C_fitsWith_r9) (if C_fits (T.2.2.2 c) v6 b = 0 then .inl 0 else C_fitsWith_l9 (T.2.2.2 c) p t (M_seenRows S) n a b (v6 + 1)) = M_would_l12 S c p t n (a % 4) b (if (1 : Int) = 0 then 0 else if M_fits S v6 c (S.2 0 (4 * c + b)) = 0 then 0 else 1) (v6 + 1) := by
        intro a b ha hb
        rw [h.fits c0 c1 h6 (by omega) hb.1 hb.2, if_neg (show ¬ (1 : Int) = 0 by decide)]
        by_cases z : M_fits S v6 c (S.2 0 (4 * c + b)) = 0
        · rw [if_pos z, if_pos z, M_would_l12_z]
          rfl
        · rw [if_neg z, if_neg z]
          exact ih a b (v6 + 1) ha hb (by omega) (by omega)
      have m3 : m = 0 ∨ m = 1 ∨ m = 2 := by omega
      rcases m3 with rfl | rfl | rfl
      · rw [if_pos rfl, if_pos rfl, f1]
        simp only [if_neg (show ¬ (0 : Int) = 2 by decide), ite_true]
        rw [show (v4 % 4 + 1) % 4 = (v4 + 1) % 4 by omega, show (0 + 8 - (v4 + 1) % 4) % 4 = (-(v4 + 1)) % 4 by omega]
        exact key (v4 + 1) ((-(v4 + 1)) % 4) (by omega) (by omega)
      · rw [if_neg (show ¬ (1 : Int) = 0 by decide), if_pos rfl, if_neg (show ¬ (1 : Int) = 0 by decide), if_pos rfl, f2]
        simp only [if_neg (show ¬ (1 : Int) = 2 by decide), if_neg (show ¬ (1 : Int) = 0 by decide)]
        rw [show (v4 % 4 + 3) % 4 = (v4 + -1) % 4 by omega, show (1 + 8 - (v4 + -1) % 4) % 4 = (1 - (v4 + -1)) % 4 by omega]
        have k := key (v4 + -1) ((1 - (v4 + -1)) % 4) (by omega) (by omega)
        rw [if_neg (show ¬ (1 : Int) = 0 by decide)] at k
        exact k
      · rw [if_neg (show ¬ (2 : Int) = 0 by decide), if_neg (show ¬ (2 : Int) = 1 by decide), if_neg (show ¬ (2 : Int) = 0 by decide), if_neg (show ¬ (2 : Int) = 1 by decide), if_pos rfl, if_pos rfl]
        have e5 : (if v6 = 0 then 0 else v5) = v5 := by split <;> omega
        rw [e5]
        exact key v4 v5 (by omega) h5
theorem s_would (h : Rel N T S) {c p t : Int} (c0 : 0 ≤ c) (c1 : c < S.1 1) (ht : 0 ≤ t ∧ t ≤ 2) : C_fitsWith (T.2.2.2 c) p t (T_wovenRows T) = M_would S c p t := by
  unfold C_fitsWith M_would
  rw [h.woven]
  exact s_would_l h c0 c1 ht 31 0 0 0 (by decide) (by decide) (by decide) (fun _ => rfl)
end QUE2
