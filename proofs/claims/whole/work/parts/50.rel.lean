/-! THE RELATION between the class's state and the reference's -/
def Opp (a : Int → Int) : Prop := a 2 = (a 0 + 2) % 4 ∧ a 3 = (a 1 + 2) % 4 ∧ (0 ≤ a 0 ∧ a 0 ≤ 3) ∧ (0 ≤ a 1 ∧ a 1 ≤ 3)
def exP (i : Int) : Int := if i = 0 then 1 else if i = 1 then 0 else if i = 2 then 3 else 2
def rotP (t i : Int) : Int := if t = 0 then (i + 3) % 4 else if t = 1 then (i + 1) % 4 else i
def twP (w t : Int) : Int := if t = 2 then 0 else if t = w then 1 else -1
/-- how a card lay ahead of a pick (a0 w0 x0 d0 f0: places, way, twist, idle, flips), the pick's turn t and the thread fr that its front shows, and how it lies before the next pick -/
def Lk (t fr : Int) (a0 : Int → Int) (w0 x0 d0 f0 : Int) (a : Int → Int) (w x d f : Int) : Prop :=
  f0 ≤ f ∧ w = (if (f - f0) % 2 = 0 then w0 else 1 - w0) ∧ x = x0 + twP w0 t ∧ d = (if t = 2 then d0 + 1 else 0) ∧ (∀ i, 0 ≤ i → i ≤ 3 → a i = a0 (rotP t (if (f - f0) % 2 = 0 then i else exP i))) ∧ (fr = a 0 ∨ fr = a 1)
/-- the history of card c: n picks are woven -/
def Ch (S : Sta) (c : Int) : Nat → (Int → Int) → Int → Int → Int → Int → Prop
  | 0, a, _, x, d, _ => x = 0 ∧ d = 0 ∧ Opp a
  | n + 1, a, w, x, d, f => Lk (S.2 12 (16 * (n : Int) + c)) (S.2 13 (16 * (n : Int) + c)) (fun i => S.2 7 (4 * (16 * (n : Int) + c) + i)) (S.2 8 (16 * (n : Int) + c)) (S.2 9 (16 * (n : Int) + c)) (S.2 10 (16 * (n : Int) + c)) (S.2 11 (16 * (n : Int) + c)) a w x d f ∧ Ch S c n (fun i => S.2 7 (4 * (16 * (n : Int) + c) + i)) (S.2 8 (16 * (n : Int) + c)) (S.2 9 (16 * (n : Int) + c)) (S.2 10 (16 * (n : Int) + c)) (S.2 11 (16 * (n : Int) + c))
def ChN (S : Sta) (c : Int) : Prop := Ch S c (S.1 2).toNat (fun i => S.2 1 (4 * c + i)) (S.2 2 c) (S.2 4 c) (S.2 5 c) (S.2 6 c)
/-- what is now of card c -/
def RCn (X S : Sta) (c : Int) : Prop := (∀ t, 0 ≤ t → t ≤ 3 → X.2 1 t = S.2 0 (4 * c + t)) ∧ (∀ i, 0 ≤ i → i ≤ 3 → X.2 0 i = S.2 1 (4 * c + i)) ∧ (X.1 0 = S.2 2 c ∧ X.1 1 = S.2 3 c ∧ X.1 2 = S.2 4 c ∧ X.1 3 = S.2 6 c) ∧ (∀ r, 0 ≤ r → r < 30 → X.2 6 r = S.2 16 (16 * r + c))
/-- what the picks did to it -/
def RCp (X S : Sta) (c p : Int) : Prop := ∀ k, 0 ≤ k → k < p → (X.2 2 k = S.2 12 (16 * k + c) ∧ X.2 3 k = S.2 13 (16 * k + c) ∧ X.2 4 k = S.2 15 (16 * k + c) ∧ X.2 5 k = S.2 11 (16 * k + c)) ∧ S.2 14 (16 * k + c) = (S.2 13 (16 * k + c) + 2) % 4
/-! the best turnings, by themselves: X a card, f FLOATS; k rows are left, r the next of them; t how far it is turned, sh the thread that shows, n how long it is idle, u how far its twist has gone -/
def byF (X : Sta) (f : Int) (B : Int → Int → Int → Int → Int → Int) (r t sh n u d : Int) : Int :=
  if d = 2 then (if n < f ∧ ¬ C_fits X r sh = 0 then (if B (r + 1) t sh (n + 1) u < 1000000 then B (r + 1) t sh (n + 1) u + 1000 else 1000000) else 1000000)
  else if C_fits X r (C_threadAfter X (P_roundFrom t d) d) = 0 then 1000000 else B (r + 1) (P_roundFrom t d) (C_threadAfter X (P_roundFrom t d) d) 0 (u + (if d = X.1 0 then 1 else -1))
def BF (X : Sta) (f : Int) : Nat → Int → Int → Int → Int → Int → Int
  | 0, _, _, _, _, u => J_abs (X.1 2 + u)
  | k + 1, r, t, sh, n, u => M_mn (M_mn (M_mn 1000000 (byF X f (BF X f k) r t sh n u 0)) (byF X f (BF X f k) r t sh n u 1)) (byF X f (BF X f k) r t sh n u 2)
/-- the first of the best turns -/
def gtF (X : Sta) (f : Int) (k : Nat) (r t sh n u : Int) : Int :=
  if byF X f (BF X f k) r t sh n u 0 = BF X f (k + 1) r t sh n u then 0 else if byF X f (BF X f k) r t sh n u 1 = BF X f (k + 1) r t sh n u then 1 else 2
/-- a plan g (a turn for each row) is the best one from there on, and leads to the twist e -/
def Gr (X : Sta) (f : Int) (g : Int → Int) (e : Int) : Nat → Int → Int → Int → Int → Int → Prop
  | 0, _, _, _, _, u => e = X.1 2 + u
  | k + 1, r, t, sh, n, u => g r = gtF X f k r t sh n u ∧
      if g r = 2 then Gr X f g e k (r + 1) t sh (n + 1) u else Gr X f g e k (r + 1) (P_roundFrom t (g r)) (C_threadAfter X (P_roundFrom t (g r)) (g r)) 0 (u + (if g r = X.1 0 then 1 else -1))
/-- what is kept as the plan of a card is its best turnings: p picks, h HEIGHT, f FLOATS -/
def PlanIs (X : Sta) (p h f : Int) : Prop :=
  (1000000 ≤ BF X f h.toNat 0 0 (C_showing X p) (C_idleBehind X p) 0 ∧ X.1 4 = -99) ∨ (BF X f h.toNat 0 0 (C_showing X p) (C_idleBehind X p) 0 < 1000000 ∧ X.1 4 = BF X f h.toNat 0 0 (C_showing X p) (C_idleBehind X p) 0 / 1000 ∧ Gr X f (X.2 7) (X.1 5) h.toNat 0 0 (C_showing X p) (C_idleBehind X p) 0)
def RelC (T : TS) (S : Sta) (c : Int) : Prop := RCn (T.2.2.2 c) S c ∧ RCp (T.2.2.2 c) S c (S.1 2) ∧ ChN S c ∧ ((T.2.2.2 c).1 6 = 0 ∨ PlanIs (T.2.2.2 c) (T.1 1) (T.1 2) (T.1 3))
def Rel (N : Int) (T : TS) (S : Sta) : Prop := (InvTC N T ∧ InvTCT T ∧ InvW N S ∧ InvT S) ∧ (T.1 0 = S.1 1 ∧ T.1 1 = S.1 2 ∧ T.1 2 = S.1 3 ∧ T.1 3 = S.1 4) ∧ ∀ c, 0 ≤ c → c < T.1 0 → RelC T S c
section REL
variable {N : Int} {T : TS} {S : Sta}
theorem Rel.it (h : Rel N T S) : InvTC N T := h.1.1
theorem Rel.itt (h : Rel N T S) : InvTCT T := h.1.2.1
theorem Rel.iw (h : Rel N T S) : InvW N S := h.1.2.2.1
theorem Rel.iwt (h : Rel N T S) : InvT S := h.1.2.2.2
theorem Rel.sc (h : Rel N T S) : T.1 0 = S.1 1 ∧ T.1 1 = S.1 2 ∧ T.1 2 = S.1 3 ∧ T.1 3 = S.1 4 := h.2.1
theorem Rel.now (h : Rel N T S) {c : Int} (h0 : 0 ≤ c) (h1 : c < S.1 1) : RCn (T.2.2.2 c) S c := (h.2.2 c h0 (by rw [h.sc.1]; exact h1)).1
theorem Rel.past (h : Rel N T S) {c : Int} (h0 : 0 ≤ c) (h1 : c < S.1 1) : RCp (T.2.2.2 c) S c (S.1 2) := (h.2.2 c h0 (by rw [h.sc.1]; exact h1)).2.1
theorem Rel.ch (h : Rel N T S) {c : Int} (h0 : 0 ≤ c) (h1 : c < S.1 1) : ChN S c := (h.2.2 c h0 (by rw [h.sc.1]; exact h1)).2.2.1
theorem Rel.plan (h : Rel N T S) {c : Int} (h0 : 0 ≤ c) (h1 : c < S.1 1) : (T.2.2.2 c).1 6 = 0 ∨ PlanIs (T.2.2.2 c) (T.1 1) (T.1 2) (T.1 3) := (h.2.2 c h0 (by rw [h.sc.1]; exact h1)).2.2.2
/-- who is a card, a pick -/
theorem Rel.card (h : Rel N T S) (c : Int) : (T_isCard T c = 0 ∧ M_noCard S c = 1 ∧ ¬ (0 ≤ c ∧ c < S.1 1)) ∨ (T_isCard T c = 1 ∧ M_noCard S c = 0 ∧ 0 ≤ c ∧ c < S.1 1) := by
  have a := T_isCard_sp T c
  have b := M_noCard_sp S c
  have e := h.sc.1
  rw [e] at a
  omega
theorem Rel.pick (h : Rel N T S) (c : Int) : (T_isPick T c = 0 ∧ M_noPick S c = 1 ∧ ¬ (0 ≤ c ∧ c < S.1 2)) ∨ (T_isPick T c = 1 ∧ M_noPick S c = 0 ∧ 0 ≤ c ∧ c < S.1 2) := by
  have a := T_isPick_sp T c
  have b := M_noPick_sp S c
  have e := h.sc.2.1
  rw [e] at a
  omega
end REL
theorem in_within (v a b : Int) : (T_within v a b = 0 ∧ M_in v a b = 0 ∧ ¬ (a ≤ v ∧ v ≤ b)) ∨ (T_within v a b = 1 ∧ M_in v a b = 1 ∧ a ≤ v ∧ v ≤ b) := by
  have h1 := T_within_sp v a b
  have h2 := M_in_sp v a b
  omega
/-! what a history says -/
theorem twP_rg (w t : Int) : twP w t = 0 ∨ twP w t = 1 ∨ twP w t = -1 := by
  unfold twP
  split
  · omega
  · split <;> omega
theorem Ch_rg (S : Sta) (c : Int) : ∀ (n : Nat) (a : Int → Int) (w x d f : Int), Ch S c n a w x d f → (-(n : Int) ≤ x ∧ x ≤ (n : Int)) ∧ (0 ≤ d ∧ d ≤ (n : Int)) := by
  intro n
  induction n with
  | zero => intro a w x d f h; obtain ⟨h1, h2, -⟩ := h; omega
  | succ n ih =>
    intro a w x d f h
    obtain ⟨⟨-, -, h3, h4, -⟩, h5⟩ := h
    have k := ih _ _ _ _ _ h5
    have t := twP_rg (S.2 8 (16 * (n : Int) + c)) (S.2 12 (16 * (n : Int) + c))
    split at h4 <;> omega
theorem Lk_opp {t fr : Int} {a0 : Int → Int} {w0 x0 d0 f0 : Int} {a : Int → Int} {w x d f : Int} (h : Lk t fr a0 w0 x0 d0 f0 a w x d f) (h0 : Opp a0) : Opp a := by
  obtain ⟨-, -, -, -, h5, -⟩ := h
  obtain ⟨o1, o2, o3, o4⟩ := h0
  have e0 := h5 0 (by decide) (by decide)
  have e1 := h5 1 (by decide) (by decide)
  have e2 := h5 2 (by decide) (by decide)
  have e3 := h5 3 (by decide) (by decide)
  unfold Opp
  by_cases hp : (f - f0) % 2 = 0
  · simp only [if_pos hp] at e0 e1 e2 e3
    by_cases t0 : t = 0
    · subst t0
      have r0 : rotP 0 0 = 3 := by decide
      have r1 : rotP 0 1 = 0 := by decide
      have r2 : rotP 0 2 = 1 := by decide
      have r3 : rotP 0 3 = 2 := by decide
      rw [r0] at e0; rw [r1] at e1; rw [r2] at e2; rw [r3] at e3
      omega
    · by_cases t1 : t = 1
      · subst t1
        have r0 : rotP 1 0 = 1 := by decide
        have r1 : rotP 1 1 = 2 := by decide
        have r2 : rotP 1 2 = 3 := by decide
        have r3 : rotP 1 3 = 0 := by decide
        rw [r0] at e0; rw [r1] at e1; rw [r2] at e2; rw [r3] at e3
        omega
      · have r : ∀ i, rotP t i = i := fun i => by unfold rotP; rw [if_neg t0, if_neg t1]
        rw [r] at e0 e1 e2 e3
        omega
  · simp only [if_neg hp] at e0 e1 e2 e3
    have x0 : exP 0 = 1 := by decide
    have x1 : exP 1 = 0 := by decide
    have x2 : exP 2 = 3 := by decide
    have x3 : exP 3 = 2 := by decide
    rw [x0] at e0; rw [x1] at e1; rw [x2] at e2; rw [x3] at e3
    by_cases t0 : t = 0
    · subst t0
      have r0 : rotP 0 0 = 3 := by decide
      have r1 : rotP 0 1 = 0 := by decide
      have r2 : rotP 0 2 = 1 := by decide
      have r3 : rotP 0 3 = 2 := by decide
      rw [r1] at e0; rw [r0] at e1; rw [r3] at e2; rw [r2] at e3
      omega
    · by_cases t1 : t = 1
      · subst t1
        have r0 : rotP 1 0 = 1 := by decide
        have r1 : rotP 1 1 = 2 := by decide
        have r2 : rotP 1 2 = 3 := by decide
        have r3 : rotP 1 3 = 0 := by decide
        rw [r1] at e0; rw [r0] at e1; rw [r3] at e2; rw [r2] at e3
        omega
      · have r : ∀ i, rotP t i = i := fun i => by unfold rotP; rw [if_neg t0, if_neg t1]
        rw [r] at e0 e1 e2 e3
        omega
theorem Ch_opp (S : Sta) (c : Int) : ∀ (n : Nat) (a : Int → Int) (w x d f : Int), Ch S c n a w x d f → Opp a := by
  intro n
  induction n with
  | zero => intro a w x d f h; exact h.2.2
  | succ n ih =>
    intro a w x d f h
    exact Lk_opp h.1 (ih _ _ _ _ _ h.2)
/-- how long it is idle: so many turns behind are idle, and the one ahead of them isn't -/
theorem Ch_idle (S : Sta) (c : Int) : ∀ (n : Nat) (a : Int → Int) (w x d f : Int), Ch S c n a w x d f → (0 ≤ d ∧ d ≤ (n : Int)) ∧ (∀ j, 0 ≤ j → j < d → S.2 12 (16 * ((n : Int) - 1 - j) + c) = 2) ∧ (d = (n : Int) ∨ ¬ S.2 12 (16 * ((n : Int) - 1 - d) + c) = 2) := by
  intro n
  induction n with
  | zero =>
    intro a w x d f h
    obtain ⟨-, h2, -⟩ := h
    subst h2
    exact ⟨by omega, fun j h0 h1 => by omega, Or.inl (by omega)⟩
  | succ n ih =>
    intro a w x d f h
    obtain ⟨⟨-, -, -, h4, -⟩, h5⟩ := h
    have k := ih _ _ _ _ _ h5
    have e1 : (((n + 1 : Nat)) : Int) = (n : Int) + 1 := by omega
    rw [e1]
    by_cases t : S.2 12 (16 * (n : Int) + c) = 2
    · rw [if_pos t] at h4
      refine ⟨by omega, fun j h0 h1 => ?_, ?_⟩
      · by_cases z : j = 0
        · subst z
          rw [show (n : Int) + 1 - 1 - 0 = (n : Int) by omega]
          exact t
        · rw [show (n : Int) + 1 - 1 - j = (n : Int) - 1 - (j - 1) by omega]
          exact k.2.1 (j - 1) (by omega) (by omega)
      · rcases k.2.2 with k2 | k2
        · left; omega
        · right
          rw [h4, show (n : Int) + 1 - 1 - (S.2 10 (16 * (n : Int) + c) + 1) = (n : Int) - 1 - S.2 10 (16 * (n : Int) + c) by omega]
          exact k2
    · rw [if_neg t] at h4
      subst h4
      refine ⟨by omega, fun j h0 h1 => by omega, Or.inr ?_⟩
      rw [show (n : Int) + 1 - 1 - 0 = (n : Int) by omega]
      exact t
theorem C_idleBehind_l2_eq (X : Sta) (p d : Int) (h0 : d ≤ p) (h1 : ∀ j, 0 ≤ j → j < d → X.2 2 (p - 1 - j) = 2) (h2 : d = p ∨ ¬ X.2 2 (p - 1 - d) = 2) : ∀ (fu : Nat) (v : Int), 0 ≤ v → v ≤ d → d - v < (fu : Int) → C_idleBehind_l2 X p fu v = d := by
  intro fu
  induction fu with
  | zero => intro v _ _ h; omega
  | succ fu ih =>
    intro v hv hd hf
    rw [C_idleBehind_l2_s]
    by_cases e : v = d
    · subst e
      rcases h2 with h2 | h2
      · rw [if_pos (by omega)]
      · by_cases g : p ≤ v
        · rw [if_pos g]
        · rw [if_neg g, if_neg h2]
    · rw [if_neg (by omega), if_pos (h1 v hv (by omega))]
      exact ih (v + 1) (by omega) (by omega) (by omega)
theorem Rel.idle {N : Int} {T : TS} {S : Sta} (h : Rel N T S) {c : Int} (h0 : 0 ≤ c) (h1 : c < S.1 1) : C_idleBehind (T.2.2.2 c) (S.1 2) = S.2 5 c := by
  have s2 := InvM_s2 h.iw
  have k := Ch_idle S c _ _ _ _ _ _ (h.ch h0 h1)
  have e : ((S.1 2).toNat : Int) = S.1 2 := by omega
  rw [e] at k
  have p := h.past h0 h1
  refine C_idleBehind_l2_eq _ _ _ k.1.2 (fun j j0 j1 => ?_) ?_ 61 0 (by omega) k.1.1 (by omega)
  · rw [(p (S.1 2 - 1 - j) (by omega) (by omega)).1.1]
    exact k.2.1 j j0 j1
  · rcases k.2.2 with k2 | k2
    · exact Or.inl k2
    · by_cases z : S.2 5 c = S.1 2
      · exact Or.inl z
      · right
        rw [(p (S.1 2 - 1 - S.2 5 c) (by omega) (by omega)).1.1]
        exact k2
