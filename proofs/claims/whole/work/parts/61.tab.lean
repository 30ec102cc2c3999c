/-! THE PLANNER's table: Rp k r t sh n i m: the k rows from r on can be turned with i idle turns and m more turns forward than back -/
def Rp (X : Sta) (f : Int) : Nat → Int → Int → Int → Int → Int → Int → Prop
  | 0, _, _, _, _, i, m => i = 0 ∧ m = 0
  | k + 1, r, t, sh, n, i, m => (n < f ∧ ¬ C_fits X r sh = 0 ∧ Rp X f k (r + 1) t sh (n + 1) (i - 1) m) ∨ (¬ C_fits X r (C_threadAfter X (P_roundFrom t 0) 0) = 0 ∧ Rp X f k (r + 1) (P_roundFrom t 0) (C_threadAfter X (P_roundFrom t 0) 0) 0 i (m - 1)) ∨ (¬ C_fits X r (C_threadAfter X (P_roundFrom t 1) 1) = 0 ∧ Rp X f k (r + 1) (P_roundFrom t 1) (C_threadAfter X (P_roundFrom t 1) 1) 0 i (m + 1))
theorem Rp_rg (X : Sta) (f : Int) : ∀ (k : Nat) (r t sh n i m : Int), Rp X f k r t sh n i m → (0 ≤ i ∧ i ≤ (k : Int)) ∧ (-(k : Int) ≤ m ∧ m ≤ (k : Int)) := by
  intro k
  induction k with
  | zero => intro r t sh n i m h; obtain ⟨rfl, rfl⟩ := h; decide
  | succ k ih =>
    intro r t sh n i m h
    rcases h with ⟨-, -, h⟩ | ⟨-, h⟩ | ⟨-, h⟩
    · have q := ih _ _ _ _ _ _ h; omega
    · have q := ih _ _ _ _ _ _ h; omega
    · have q := ih _ _ _ _ _ _ h; omega
/-! bits of a long -/
def bL (g : Int64) (j : Nat) : Bool := g.toBitVec.getLsbD j
theorem bL_or (a b : Int64) (j : Nat) : bL (a ||| b) j = (bL a j || bL b j) := by
  show (a.toBitVec ||| b.toBitVec).getLsbD j = _
  rw [BitVec.getLsbD_or]
  rfl
theorem bL_and (a b : Int64) (j : Nat) : bL (a &&& b) j = (bL a j && bL b j) := by
  show (a.toBitVec &&& b.toBitVec).getLsbD j = _
  rw [BitVec.getLsbD_and]
  rfl
theorem bL_shl (g : Int64) (j : Nat) (hj : j < 64) : bL (zl_shl g 1) j = (decide (1 ≤ j) && bL g (j - 1)) := by
  show (g.toBitVec <<< (1 : Nat)).getLsbD j = _
  rw [BitVec.getLsbD_shiftLeft]
  unfold bL
  by_cases e : 1 ≤ j
  · simp [hj, e]
    intro _
    omega
  · simp [e]
    omega
theorem bL_ushr (g : Int64) (j : Nat) : bL (zl_ushr g 1) j = bL g (j + 1) := by
  show (g.toBitVec >>> (1 : Nat)).getLsbD j = _
  rw [BitVec.getLsbD_ushiftRight, Nat.add_comm]
  rfl
theorem bL_ge (g : Int64) (j : Nat) (h : 64 ≤ j) : bL g j = false := BitVec.getLsbD_of_ge _ j h
theorem bL_zero (j : Nat) : bL (lI 0) j = false := by
  show (0#64).getLsbD j = false
  simp
theorem bL_one : ∀ v : Fin 61, ∀ j : Fin 64, bL (zl_shl (lI 1) ((v.val : Nat) : Int)) j.val = decide (j.val = v.val) := by decide +kernel
theorem bL_base : ∀ j : Fin 64, bL (lI 1073741824) j.val = decide (j.val = 30) := by decide +kernel
theorem zcr_zero (a : Int64) : zcr a (lI 0) = 0 ↔ ∀ j, j < 64 → bL a j = false := by
  have e1 : zcr a (lI 0) = 0 ↔ a = lI 0 := by
    unfold zcr
    constructor
    · intro h
      by_cases q : a = lI 0
      · exact q
      · rw [if_neg q] at h
        split at h <;> omega
    · intro h
      rw [h, if_neg (by decide), if_pos rfl]
  rw [e1]
  constructor
  · intro h j _
    rw [h]
    exact bL_zero j
  · intro h
    have e2 : a.toBitVec = (lI 0).toBitVec := BitVec.eq_of_getLsbD_eq (fun j hj => (h j hj).trans (bL_zero j).symm)
    exact Int64.toBitVec_inj.mp e2
/-- bi: the fewest idle turns of a set Q of ways on; bs: by bits, how many more turns forward those with bi have -/
def Best (bi : Int) (bs : Int64) (Q : Int → Int → Prop) : Prop := (1000 ≤ bi ∧ ∀ i m, ¬ Q i m) ∨ ((0 ≤ bi ∧ bi ≤ 30) ∧ (∃ m, Q bi m) ∧ (∀ i m, Q i m → bi ≤ i) ∧ (∀ j : Nat, j < 64 → (bL bs j = true ↔ Q bi ((j : Int) - 30))))
theorem Best_congr {bi : Int} {bs : Int64} {Q Q' : Int → Int → Prop} (e : ∀ i m, Q i m ↔ Q' i m) (h : Best bi bs Q) : Best bi bs Q' := by
  rcases h with ⟨h1, h2⟩ | ⟨h1, ⟨m, h2⟩, h3, h4⟩
  · exact Or.inl ⟨h1, fun i m q => h2 i m ((e i m).mpr q)⟩
  · exact Or.inr ⟨h1, ⟨m, (e _ _).mp h2⟩, fun i m q => h3 i m ((e i m).mpr q), fun j hj => (h4 j hj).trans (e _ _)⟩
theorem Best_offer {bi i : Int} {bs s : Int64} {Q1 Q2 : Int → Int → Prop} (h1 : Best bi bs Q1) (h2 : Best i s Q2) : Best (if bi ≤ i then bi else i) (if bi ≤ i then (if i = bi then bs ||| s else bs) else s) (fun a b => Q1 a b ∨ Q2 a b) := by
  rcases h1 with ⟨a1, a2⟩ | ⟨a1, ⟨m1, a2⟩, a3, a4⟩
  · rcases h2 with ⟨b1, b2⟩ | ⟨b1, ⟨m2, b2⟩, b3, b4⟩
    · refine Or.inl ⟨by split <;> omega, fun i m q => ?_⟩
      rcases q with q | q
      · exact a2 i m q
      · exact b2 i m q
    · rw [if_neg (by omega), if_neg (by omega)]
      refine Or.inr ⟨b1, ⟨m2, Or.inr b2⟩, fun i' m q => ?_, fun j hj => ?_⟩
      · rcases q with q | q
        · exact absurd q (a2 i' m)
        · exact b3 i' m q
      · rw [b4 j hj]
        exact ⟨fun q => Or.inr q, fun q => q.elim (fun q => absurd q (a2 _ _)) id⟩
  · rcases h2 with ⟨b1, b2⟩ | ⟨b1, ⟨m2, b2⟩, b3, b4⟩
    · rw [if_pos (by omega), if_pos (by omega), if_neg (by omega)]
      refine Or.inr ⟨a1, ⟨m1, Or.inl a2⟩, fun i' m q => ?_, fun j hj => ?_⟩
      · rcases q with q | q
        · exact a3 i' m q
        · exact absurd q (b2 i' m)
      · rw [a4 j hj]
        exact ⟨fun q => Or.inl q, fun q => q.elim id (fun q => absurd q (b2 _ _))⟩
    · by_cases e : bi ≤ i
      · rw [if_pos e, if_pos e]
        by_cases e2 : i = bi
        · subst e2
          rw [if_pos rfl]
          refine Or.inr ⟨a1, ⟨m1, Or.inl a2⟩, fun i' m q => ?_, fun j hj => ?_⟩
          · rcases q with q | q
            · exact a3 i' m q
            · exact b3 i' m q
          · rw [bL_or, Bool.or_eq_true, a4 j hj, b4 j hj]
        · rw [if_neg e2]
          refine Or.inr ⟨a1, ⟨m1, Or.inl a2⟩, fun i' m q => ?_, fun j hj => ?_⟩
          · rcases q with q | q
            · exact a3 i' m q
            · exact Int.le_trans e (b3 i' m q)
          · rw [a4 j hj]
            refine ⟨fun q => Or.inl q, fun q => q.elim id (fun q => ?_)⟩
            have := b3 _ _ q
            omega
      · rw [if_neg e, if_neg e]
        refine Or.inr ⟨b1, ⟨m2, Or.inr b2⟩, fun i' m q => ?_, fun j hj => ?_⟩
        · rcases q with q | q
          · have := a3 i' m q
            omega
          · exact b3 i' m q
        · rw [b4 j hj]
          refine ⟨fun q => Or.inr q, fun q => q.elim (fun q => ?_) id⟩
          have := a3 _ _ q
          omega
theorem Best_shl {i : Int} {s : Int64} {Q : Int → Int → Prop} (hq : ∀ i m, Q i m → -29 ≤ m ∧ m ≤ 29) (h : Best i s Q) : Best i (zl_shl s 1) (fun a b => Q a (b - 1)) := by
  rcases h with ⟨h1, h2⟩ | ⟨h1, ⟨m, h2⟩, h3, h4⟩
  · exact Or.inl ⟨h1, fun i m q => h2 i _ q⟩
  · refine Or.inr ⟨h1, ⟨m + 1, by show Q i (m + 1 - 1); rw [show m + 1 - 1 = m by omega]; exact h2⟩, fun i m q => h3 i _ q, fun j hj => ?_⟩
    rw [bL_shl s j hj]
    by_cases e : 1 ≤ j
    · rw [decide_eq_true e, Bool.true_and, h4 (j - 1) (by omega), show (((j - 1 : Nat)) : Int) - 30 = (j : Int) - 30 - 1 by omega]
    · rw [decide_eq_false e, Bool.false_and]
      refine ⟨fun q => absurd q (by decide), fun q => ?_⟩
      have := hq _ _ q
      omega
theorem Best_ushr {i : Int} {s : Int64} {Q : Int → Int → Prop} (hq : ∀ i m, Q i m → -29 ≤ m ∧ m ≤ 29) (h : Best i s Q) : Best i (zl_ushr s 1) (fun a b => Q a (b + 1)) := by
  rcases h with ⟨h1, h2⟩ | ⟨h1, ⟨m, h2⟩, h3, h4⟩
  · exact Or.inl ⟨h1, fun i m q => h2 i _ q⟩
  · refine Or.inr ⟨h1, ⟨m - 1, by show Q i (m - 1 + 1); rw [show m - 1 + 1 = m by omega]; exact h2⟩, fun i m q => h3 i _ q, fun j hj => ?_⟩
    rw [bL_ushr s j]
    by_cases e : j + 1 < 64
    · rw [h4 (j + 1) e, show (((j + 1 : Nat)) : Int) - 30 = (j : Int) - 30 + 1 by omega]
    · rw [bL_ge s (j + 1) (by omega)]
      refine ⟨fun q => absurd q (by decide), fun q => ?_⟩
      have := hq _ _ q
      omega
/-! filling a row -/
theorem P_offer_sp (S : PS) (i : Int) (s : Int64) : (P_offer S i s).1.1.1 0 = (if S.1.1.1 0 ≤ i then S.1.1.1 0 else i) ∧ (P_offer S i s).1.1.2 0 = (if S.1.1.1 0 ≤ i then (if i = S.1.1.1 0 then S.1.1.2 0 ||| s else S.1.1.2 0) else s) ∧ (P_offer S i s).1.2 = S.1.2 ∧ (P_offer S i s).2 = S.2 := by
  unfold P_offer
  by_cases e : S.1.1.1 0 ≤ i
  · rw [if_pos e, if_pos e, if_pos e]
    by_cases e2 : i = S.1.1.1 0
    · rw [if_pos e2, if_pos e2]
      exact ⟨rfl, rfl, rfl, rfl⟩
    · rw [if_neg e2, if_neg e2]
      exact ⟨rfl, rfl, rfl, rfl⟩
  · rw [if_neg e, if_neg e, if_neg e]
    exact ⟨rfl, rfl, rfl, rfl⟩
/-- row a of the table is right: k rows are left behind it -/
def RowOK (X : Sta) (f : Int) (k : Nat) (a : Int) (F : Int → Int) (G : Int → Int64) : Prop := ∀ t p n, (0 ≤ t ∧ t ≤ 3) → (0 ≤ p ∧ p ≤ 1) → (0 ≤ n ∧ n ≤ f) → Best (F (P_index a t p n)) (G (P_index a t p n)) (Rp X f k a t (C_threadAfter X t p) n)
theorem P_roundFrom_rg (t d : Int) : 0 ≤ P_roundFrom t d ∧ P_roundFrom t d ≤ 3 := by
  unfold P_roundFrom P_roundFrom_m10
  omega
theorem offerTurned_sp {X : Sta} {f : Int} {k : Nat} {a t d : Int} {S : PS} {Q : Int → Int → Prop} (hf : 0 ≤ f) (hk : k ≤ 29) (hX : S.2 = X) (hd : d = 0 ∨ d = 1) (nx : RowOK X f k (a + 1) S.1.2.1 S.1.2.2) (hB : Best (S.1.1.1 0) (S.1.1.2 0) Q) : Best ((P_offerTurned S a t d).1.1.1 0) ((P_offerTurned S a t d).1.1.2 0) (fun i m => Q i m ∨ (¬ C_fits X a (C_threadAfter X (P_roundFrom t d) d) = 0 ∧ Rp X f k (a + 1) (P_roundFrom t d) (C_threadAfter X (P_roundFrom t d) d) 0 i (if d = 0 then m - 1 else m + 1))) ∧ (P_offerTurned S a t d).1.2 = S.1.2 ∧ (P_offerTurned S a t d).2 = S.2 := by
  subst hX
  unfold P_offerTurned
  by_cases e : C_fits S.2 a (C_threadAfter S.2 (P_roundFrom t d) d) = 0
  · rw [if_pos e]
    exact ⟨Best_congr (fun i m => ⟨fun q => Or.inl q, fun q => q.elim id (fun q => absurd e q.1)⟩) hB, rfl, rfl⟩
  · rw [if_neg e]
    have rr := P_roundFrom_rg t d
    have n0 := nx (P_roundFrom t d) d 0 rr (by omega) ⟨by decide, hf⟩
    have hq : ∀ i m, Rp S.2 f k (a + 1) (P_roundFrom t d) (C_threadAfter S.2 (P_roundFrom t d) d) 0 i m → -29 ≤ m ∧ m ≤ 29 := fun i m q => by
      have := (Rp_rg _ _ _ _ _ _ _ _ _ q).2
      omega
    obtain ⟨o1, o2, o3, o4⟩ := P_offer_sp S (S.1.2.1 (P_index (a + 1) (P_roundFrom t d) d 0)) (if d = 0 then zl_shl (S.1.2.2 (P_index (a + 1) (P_roundFrom t d) d 0)) 1 else zl_ushr (S.1.2.2 (P_index (a + 1) (P_roundFrom t d) d 0)) 1)
    rw [o1, o2]
    refine ⟨?_, o3, o4⟩
    rcases hd with rfl | rfl
    · rw [if_pos rfl]
      exact Best_congr (fun i m => ⟨fun q => q.elim Or.inl (fun q => Or.inr ⟨e, by rw [if_pos rfl]; exact q⟩), fun q => q.elim Or.inl (fun q => Or.inr (by have := q.2; rw [if_pos rfl] at this; exact this))⟩) (Best_offer hB (Best_shl hq n0))
    · rw [if_neg (show ¬ (1 : Int) = 0 by decide)]
      exact Best_congr (fun i m => ⟨fun q => q.elim Or.inl (fun q => Or.inr ⟨e, by rw [if_neg (show ¬ (1 : Int) = 0 by decide)]; exact q⟩), fun q => q.elim Or.inl (fun q => Or.inr (by have := q.2; rw [if_neg (show ¬ (1 : Int) = 0 by decide)] at this; exact this))⟩) (Best_offer hB (Best_ushr hq n0))
/-- the two turns out of one lie -/
def QT (X : Sta) (f : Int) (k : Nat) (a t : Int) (i m : Int) : Prop := (¬ C_fits X a (C_threadAfter X (P_roundFrom t 0) 0) = 0 ∧ Rp X f k (a + 1) (P_roundFrom t 0) (C_threadAfter X (P_roundFrom t 0) 0) 0 i (m - 1)) ∨ (¬ C_fits X a (C_threadAfter X (P_roundFrom t 1) 1) = 0 ∧ Rp X f k (a + 1) (P_roundFrom t 1) (C_threadAfter X (P_roundFrom t 1) 1) 0 i (m + 1))
theorem turned_sp {X : Sta} {f : Int} {k : Nat} {a t : Int} {S : PS} (hf : 0 ≤ f) (hk : k ≤ 29) (hX : S.2 = X) (nx : RowOK X f k (a + 1) S.1.2.1 S.1.2.2) : Best ((P_offerTurned (P_offerTurned (pL (pI S 0 1000) 0 (lI 0)) a t 0) a t 1).1.1.1 0) ((P_offerTurned (P_offerTurned (pL (pI S 0 1000) 0 (lI 0)) a t 0) a t 1).1.1.2 0) (QT X f k a t) ∧ (P_offerTurned (P_offerTurned (pL (pI S 0 1000) 0 (lI 0)) a t 0) a t 1).1.2 = S.1.2 ∧ (P_offerTurned (P_offerTurned (pL (pI S 0 1000) 0 (lI 0)) a t 0) a t 1).2 = S.2 := by
  have b0 : Best ((pL (pI S 0 1000) 0 (lI 0)).1.1.1 0) ((pL (pI S 0 1000) 0 (lI 0)).1.1.2 0) (fun _ _ => False) := Or.inl ⟨Int.le_refl _, fun _ _ q => q⟩
  obtain ⟨a1, a2, a3⟩ := offerTurned_sp (t := t) (d := 0) hf hk (show (pL (pI S 0 1000) 0 (lI 0)).2 = X from hX) (Or.inl rfl) (show RowOK X f k (a + 1) (pL (pI S 0 1000) 0 (lI 0)).1.2.1 (pL (pI S 0 1000) 0 (lI 0)).1.2.2 from nx) b0
  obtain ⟨c1, c2, c3⟩ := offerTurned_sp (t := t) (d := 1) hf hk (a3.trans hX) (Or.inr rfl) (by rw [a2]; exact nx) a1
  refine ⟨Best_congr (fun i m => ?_) c1, c2.trans a2, c3.trans a3⟩
  simp only [if_neg (show ¬ (1 : Int) = 0 by decide), ite_true]
  constructor
  · rintro ((q | q) | q)
    · exact absurd q id
    · exact Or.inl q
    · exact Or.inr q
  · rintro (q | q)
    · exact Or.inl (Or.inr q)
    · exact Or.inr q
theorem fill78 {X : Sta} {f : Int} {k : Nat} {a v4 v8 : Int} {S3 S54 : PS} (hf : 0 ≤ f ∧ f ≤ 9) (hk : k ≤ 29) (ha : 0 ≤ a) (h4 : 0 ≤ v4 ∧ v4 ≤ 3) (h8 : 0 ≤ v8 ∧ v8 ≤ 1) (hX : S54.2 = X) (hO : Best ((P_offerTurned (P_offerTurned (pL (pI S3 0 1000) 0 (lI 0)) a v4 0) a v4 1).1.1.1 0) ((P_offerTurned (P_offerTurned (pL (pI S3 0 1000) 0 (lI 0)) a v4 0) a v4 1).1.1.2 0) (QT X f k a v4)) : ∀ (fu : Nat) (v : Int) (S : PS), 0 ≤ v → f + 1 - v < (fu : Int) → S.2 = X → RowOK X f k (a + 1) S.1.2.1 S.1.2.2 → (P_fillRow_l78 a f v4 S3 v8 S54 fu v S).2 = X ∧ (∀ z, (∀ n, v ≤ n → n ≤ f → z ≠ P_index a v4 v8 n) → (P_fillRow_l78 a f v4 S3 v8 S54 fu v S).1.2.1 z = S.1.2.1 z ∧ (P_fillRow_l78 a f v4 S3 v8 S54 fu v S).1.2.2 z = S.1.2.2 z) ∧ (∀ n, v ≤ n → n ≤ f → Best ((P_fillRow_l78 a f v4 S3 v8 S54 fu v S).1.2.1 (P_index a v4 v8 n)) ((P_fillRow_l78 a f v4 S3 v8 S54 fu v S).1.2.2 (P_index a v4 v8 n)) (Rp X f (k + 1) a v4 (C_threadAfter X v4 v8) n)) := by
  intro fu
  induction fu with
  | zero => intro v S h0 h1 hS _; exact ⟨hS, fun _ _ => ⟨rfl, rfl⟩, fun n q1 q2 => by omega⟩
  | succ fu ih =>
    intro v S h0 h1 hS nx
    rw [P_fillRow_l78_s]
    by_cases e : f < v
    · rw [if_pos e]
      exact ⟨hS, fun _ _ => ⟨rfl, rfl⟩, fun n q1 q2 => by omega⟩
    · rw [if_neg e]
      dsimp only
      generalize hOO : P_offerTurned (P_offerTurned (pL (pI S3 0 1000) 0 (lI 0)) a v4 0) a v4 1 = O at hO ⊢
      have key : ∃ Y : PS, (if C_fits S54.2 a (C_threadAfter S54.2 v4 v8) = 0 then pL (pI S 0 (O.1.1.1 0)) 0 (O.1.1.2 0) else if f ≤ v then pL (pI S 0 (O.1.1.1 0)) 0 (O.1.1.2 0) else P_offer (pL (pI S 0 (O.1.1.1 0)) 0 (O.1.1.2 0)) (S.1.2.1 (P_index (a + 1) v4 v8 (v + 1)) + 1) (S.1.2.2 (P_index (a + 1) v4 v8 (v + 1)))) = Y ∧ Y.1.2 = S.1.2 ∧ Y.2 = X ∧ Best (Y.1.1.1 0) (Y.1.1.2 0) (Rp X f (k + 1) a v4 (C_threadAfter X v4 v8) v) := by
        refine ⟨_, rfl, ?_⟩
        rw [hX]
        have qt : ∀ i m, (¬ (v < f ∧ ¬ C_fits X a (C_threadAfter X v4 v8) = 0)) → (QT X f k a v4 i m ↔ Rp X f (k + 1) a v4 (C_threadAfter X v4 v8) v i m) := fun i m nq => ⟨fun q => Or.inr q, fun q => q.elim (fun q => absurd ⟨q.1, q.2.1⟩ nq) id⟩
        by_cases e1 : C_fits X a (C_threadAfter X v4 v8) = 0
        · rw [if_pos e1]
          exact ⟨rfl, hS, Best_congr (fun i m => qt i m (fun q => q.2 e1)) hO⟩
        · rw [if_neg e1]
          by_cases e2 : f ≤ v
          · rw [if_pos e2]
            exact ⟨rfl, hS, Best_congr (fun i m => qt i m (fun q => by omega)) hO⟩
          · rw [if_neg e2]
            obtain ⟨o1, o2, o3, o4⟩ := P_offer_sp (pL (pI S 0 (O.1.1.1 0)) 0 (O.1.1.2 0)) (S.1.2.1 (P_index (a + 1) v4 v8 (v + 1)) + 1) (S.1.2.2 (P_index (a + 1) v4 v8 (v + 1)))
            refine ⟨o3, o4.trans hS, ?_⟩
            rw [o1, o2]
            have n1 := nx v4 v8 (v + 1) h4 h8 (by omega)
            have n2 : Best (S.1.2.1 (P_index (a + 1) v4 v8 (v + 1)) + 1) (S.1.2.2 (P_index (a + 1) v4 v8 (v + 1))) (fun i m => Rp X f k (a + 1) v4 (C_threadAfter X v4 v8) (v + 1) (i - 1) m) := by
              rcases n1 with ⟨h1, h2⟩ | ⟨h1, ⟨m, h2⟩, h3, h4'⟩
              · exact Or.inl ⟨by omega, fun i m q => h2 _ _ q⟩
              · have rg := Rp_rg _ _ _ _ _ _ _ _ _ h2
                refine Or.inr ⟨by omega, ⟨m, by show Rp X f k (a + 1) v4 (C_threadAfter X v4 v8) (v + 1) (S.1.2.1 (P_index (a + 1) v4 v8 (v + 1)) + 1 - 1) m; rw [Int.add_sub_cancel]; exact h2⟩, fun i m q => by have := h3 _ _ q; omega, fun j hj => ?_⟩
                show _ ↔ Rp X f k (a + 1) v4 (C_threadAfter X v4 v8) (v + 1) (S.1.2.1 (P_index (a + 1) v4 v8 (v + 1)) + 1 - 1) ((j : Int) - 30)
                rw [Int.add_sub_cancel]
                exact h4' j hj
            refine Best_congr (fun i m => ?_) (Best_offer (show Best ((pL (pI S 0 (O.1.1.1 0)) 0 (O.1.1.2 0)).1.1.1 0) ((pL (pI S 0 (O.1.1.1 0)) 0 (O.1.1.2 0)).1.1.2 0) (QT X f k a v4) from hO) n2)
            constructor
            · rintro (q | q)
              · exact Or.inr q
              · exact Or.inl ⟨by omega, e1, q⟩
            · rintro (q | q)
              · exact Or.inr q.2.2
              · exact Or.inl q
      obtain ⟨Y, y1, y2, y3, y4⟩ := key
      rw [y1]
      have px := fun t p n => P_index_sp (a + 1) t p n
      have pz := fun n => P_index_sp a v4 v8 n
      have wF : ∀ z, z ≠ P_index a v4 v8 v → (pG (pF Y (P_index a v4 v8 v) (Y.1.1.1 0)) (P_index a v4 v8 v) (Y.1.1.2 0)).1.2.1 z = S.1.2.1 z ∧ (pG (pF Y (P_index a v4 v8 v) (Y.1.1.1 0)) (P_index a v4 v8 v) (Y.1.1.2 0)).1.2.2 z = S.1.2.2 z := fun z hz => ⟨(iu_ne _ _ hz).trans (show Y.1.2.1 z = S.1.2.1 z by rw [y2]), (iu_ne _ _ hz).trans (show Y.1.2.2 z = S.1.2.2 z by rw [y2])⟩
      obtain ⟨k1, k2, k3⟩ := ih (v + 1) (pG (pF Y (P_index a v4 v8 v) (Y.1.1.1 0)) (P_index a v4 v8 v) (Y.1.1.2 0)) (by omega) (by omega) y3 (fun t p n q1 q2 q3 => by
        have w := wF (P_index (a + 1) t p n) (by rw [px, pz]; omega)
        rw [w.1, w.2]
        exact nx t p n q1 q2 q3)
      refine ⟨k1, fun z hz => ?_, fun n q1 q2 => ?_⟩
      · have a1 := k2 z (fun n q1 q2 => hz n (by omega) q2)
        have a2 := wF z (hz v (Int.le_refl v) (by omega))
        exact ⟨a1.1.trans a2.1, a1.2.trans a2.2⟩
      · by_cases z : n = v
        · subst z
          have a1 := k2 (P_index a v4 v8 n) (fun n' q3 q4 => by rw [pz, pz]; omega)
          rw [a1.1, a1.2]
          rw [show (pG (pF Y (P_index a v4 v8 n) (Y.1.1.1 0)) (P_index a v4 v8 n) (Y.1.1.2 0)).1.2.1 (P_index a v4 v8 n) = Y.1.1.1 0 from iu_same _ _ _, show (pG (pF Y (P_index a v4 v8 n) (Y.1.1.1 0)) (P_index a v4 v8 n) (Y.1.1.2 0)).1.2.2 (P_index a v4 v8 n) = Y.1.1.2 0 from iu_same _ _ _]
          exact y4
        · exact k3 n (by omega) q2
theorem fill54 {X : Sta} {f : Int} {k : Nat} {a v4 : Int} {S3 : PS} (hf : 0 ≤ f ∧ f ≤ 9) (hk : k ≤ 29) (ha : 0 ≤ a) (h4 : 0 ≤ v4 ∧ v4 ≤ 3) (hO : Best ((P_offerTurned (P_offerTurned (pL (pI S3 0 1000) 0 (lI 0)) a v4 0) a v4 1).1.1.1 0) ((P_offerTurned (P_offerTurned (pL (pI S3 0 1000) 0 (lI 0)) a v4 0) a v4 1).1.1.2 0) (QT X f k a v4)) : ∀ (fu : Nat) (v : Int) (S : PS), 0 ≤ v → 2 - v < (fu : Int) → S.2 = X → RowOK X f k (a + 1) S.1.2.1 S.1.2.2 → (P_fillRow_l54 a f v4 S3 fu v S).2 = X ∧ (∀ z, (∀ p n, v ≤ p → p ≤ 1 → 0 ≤ n → n ≤ f → z ≠ P_index a v4 p n) → (P_fillRow_l54 a f v4 S3 fu v S).1.2.1 z = S.1.2.1 z ∧ (P_fillRow_l54 a f v4 S3 fu v S).1.2.2 z = S.1.2.2 z) ∧ (∀ p n, v ≤ p → p ≤ 1 → 0 ≤ n → n ≤ f → Best ((P_fillRow_l54 a f v4 S3 fu v S).1.2.1 (P_index a v4 p n)) ((P_fillRow_l54 a f v4 S3 fu v S).1.2.2 (P_index a v4 p n)) (Rp X f (k + 1) a v4 (C_threadAfter X v4 p) n)) := by
  intro fu
  induction fu with
  | zero => intro v S h0 h1 hS _; exact ⟨hS, fun _ _ => ⟨rfl, rfl⟩, fun p n q1 q2 => by omega⟩
  | succ fu ih =>
    intro v S h0 h1 hS nx
    rw [P_fillRow_l54_s]
    by_cases e : 2 ≤ v
    · rw [if_pos e]
      exact ⟨hS, fun _ _ => ⟨rfl, rfl⟩, fun p n q1 q2 => by omega⟩
    · rw [if_neg e]
      dsimp only
      obtain ⟨j1, j2, j3⟩ := fill78 (v8 := v) (S54 := S) hf hk ha h4 (by omega) hS hO 11 0 S (by decide) (by omega) hS nx
      generalize P_fillRow_l78 a f v4 S3 v S 11 0 S = Y at j1 j2 j3 ⊢
      have px := fun t p n => P_index_sp (a + 1) t p n
      have pz := fun p n => P_index_sp a v4 p n
      obtain ⟨k1, k2, k3⟩ := ih (v + 1) Y (by omega) (by omega) j1 (fun t p n q1 q2 q3 => by
        have w := j2 (P_index (a + 1) t p n) (fun n' q4 q5 => by rw [px, pz]; omega)
        rw [w.1, w.2]
        exact nx t p n q1 q2 q3)
      refine ⟨k1, fun z hz => ?_, fun p n q1 q2 q3 q4 => ?_⟩
      · have a1 := k2 z (fun p n q1 q2 q3 q4 => hz p n (by omega) q2 q3 q4)
        have a2 := j2 z (fun n q1 q2 => hz v n (Int.le_refl v) (by omega) q1 q2)
        exact ⟨a1.1.trans a2.1, a1.2.trans a2.2⟩
      · by_cases z : p = v
        · subst z
          have a1 := k2 (P_index a v4 p n) (fun p' n' q5 q6 q7 q8 => by rw [pz, pz]; omega)
          rw [a1.1, a1.2]
          exact j3 n q3 q4
        · exact k3 p n (by omega) q2 q3 q4
theorem fill3 {X : Sta} {f : Int} {k : Nat} {a : Int} (hf : 0 ≤ f ∧ f ≤ 9) (hk : k ≤ 29) (ha : 0 ≤ a) : ∀ (fu : Nat) (v : Int) (S : PS), 0 ≤ v → 4 - v < (fu : Int) → S.2 = X → RowOK X f k (a + 1) S.1.2.1 S.1.2.2 → (P_fillRow_l3 a f fu v S).2 = X ∧ (∀ z, (∀ t p n, (v ≤ t ∧ t ≤ 3) → (0 ≤ p ∧ p ≤ 1) → (0 ≤ n ∧ n ≤ f) → z ≠ P_index a t p n) → (P_fillRow_l3 a f fu v S).1.2.1 z = S.1.2.1 z ∧ (P_fillRow_l3 a f fu v S).1.2.2 z = S.1.2.2 z) ∧ (∀ t p n, (v ≤ t ∧ t ≤ 3) → (0 ≤ p ∧ p ≤ 1) → (0 ≤ n ∧ n ≤ f) → Best ((P_fillRow_l3 a f fu v S).1.2.1 (P_index a t p n)) ((P_fillRow_l3 a f fu v S).1.2.2 (P_index a t p n)) (Rp X f (k + 1) a t (C_threadAfter X t p) n)) := by
  intro fu
  induction fu with
  | zero => intro v S h0 h1 hS _; exact ⟨hS, fun _ _ => ⟨rfl, rfl⟩, fun t p n q1 => by omega⟩
  | succ fu ih =>
    intro v S h0 h1 hS nx
    rw [P_fillRow_l3_s]
    by_cases e : 4 ≤ v
    · rw [if_pos e]
      exact ⟨hS, fun _ _ => ⟨rfl, rfl⟩, fun t p n q1 => by omega⟩
    · rw [if_neg e]
      dsimp only
      obtain ⟨o1, o2, o3⟩ := turned_sp (t := v) hf.1 hk hS nx
      obtain ⟨j1, j2, j3⟩ := fill54 (S3 := S) hf hk ha (show 0 ≤ v ∧ v ≤ 3 by omega) o1 3 0 (P_offerTurned (P_offerTurned (pL (pI S 0 1000) 0 (lI 0)) a v 0) a v 1) (by decide) (by decide) (o3.trans hS) (by rw [o2]; exact nx)
      generalize P_fillRow_l54 a f v S 3 0 (P_offerTurned (P_offerTurned (pL (pI S 0 1000) 0 (lI 0)) a v 0) a v 1) = Y at j1 j2 j3 ⊢
      rw [o2] at j2
      have px := fun t p n => P_index_sp (a + 1) t p n
      have pz := fun t p n => P_index_sp a t p n
      obtain ⟨k1, k2, k3⟩ := ih (v + 1) Y (by omega) (by omega) j1 (fun t p n q1 q2 q3 => by
        have w := j2 (P_index (a + 1) t p n) (fun p' n' q4 q5 q6 q7 => by rw [px, pz]; omega)
        rw [w.1, w.2]
        exact nx t p n q1 q2 q3)
      refine ⟨k1, fun z hz => ?_, fun t p n q1 q2 q3 => ?_⟩
      · have a1 := k2 z (fun t p n q1 q2 q3 => hz t p n (by omega) q2 q3)
        have a2 := j2 z (fun p n q1 q2 q3 q4 => hz v p n (by omega) ⟨q1, q2⟩ ⟨q3, q4⟩)
        exact ⟨a1.1.trans a2.1, a1.2.trans a2.2⟩
      · by_cases z : t = v
        · subst z
          have a1 := k2 (P_index a t p n) (fun t' p' n' q4 q5 q6 => by rw [pz, pz]; omega)
          rw [a1.1, a1.2]
          exact j3 p n q2.1 q2.2 q3.1 q3.2
        · exact k3 t p n (by omega) q2 q3
theorem fillRow_sp {X : Sta} {f : Int} {k : Nat} {a : Int} {S : PS} (hf : 0 ≤ f ∧ f ≤ 9) (hk : k ≤ 29) (ha : 0 ≤ a) (hS : S.2 = X) (nx : RowOK X f k (a + 1) S.1.2.1 S.1.2.2) : (P_fillRow S a f).2 = X ∧ RowOK X f (k + 1) a (P_fillRow S a f).1.2.1 (P_fillRow S a f).1.2.2 ∧ (∀ z, 80 * (a + 1) ≤ z → (P_fillRow S a f).1.2.1 z = S.1.2.1 z ∧ (P_fillRow S a f).1.2.2 z = S.1.2.2 z) := by
  obtain ⟨k1, k2, k3⟩ := fill3 hf hk ha 5 0 S (by decide) (by decide) hS nx
  refine ⟨k1, fun t p n q1 q2 q3 => k3 t p n q1 q2 q3, fun z hz => k2 z (fun t p n q1 q2 q3 => by rw [P_index_sp]; omega)⟩
theorem plan_l10 {X : Sta} {f h : Int} (hf : 0 ≤ f ∧ f ≤ 9) (hh : 1 ≤ h ∧ h ≤ 30) : ∀ (fu : Nat) (v : Int) (S : PS), -1 ≤ v → v < h → v + 1 < (fu : Int) → S.2 = X → (∀ r, v + 1 ≤ r → r ≤ h → RowOK X f (h - r).toNat r S.1.2.1 S.1.2.2) → (P_plan_l10 f fu v S).2 = X ∧ (∀ r, 0 ≤ r → r ≤ h → RowOK X f (h - r).toNat r (P_plan_l10 f fu v S).1.2.1 (P_plan_l10 f fu v S).1.2.2) := by
  intro fu
  induction fu with
  | zero => intro v S h0 h1 h2; omega
  | succ fu ih =>
    intro v S h0 h1 h2 hS hR
    rw [P_plan_l10_s]
    by_cases e : v < 0
    · rw [if_pos e]
      exact ⟨hS, fun r q1 q2 => hR r (by omega) q2⟩
    · rw [if_neg e]
      obtain ⟨k1, k2, k3⟩ := fillRow_sp (k := (h - (v + 1)).toNat) (a := v) hf (by omega) (by omega) hS (hR (v + 1) (Int.le_refl _) (by omega))
      refine ih (v + -1) _ (by omega) (by omega) (by omega) k1 (fun r q1 q2 => ?_)
      by_cases z : r = v
      · subst z
        rw [show (h - r).toNat = (h - (r + 1)).toNat + 1 by omega]
        exact k2
      · intro t p n q3 q4 q5
        have w := k3 (P_index r t p n) (by rw [P_index_sp]; omega)
        rw [w.1, w.2]
        exact hR r (by omega) q2 t p n q3 q4 q5
theorem plan_table (S : PS) {f h : Int} (hf : 0 ≤ f ∧ f ≤ 9) (hh : 1 ≤ h ∧ h ≤ 30) : (P_plan_l10 f 31 (h - 1) (P_fillEnd S h)).2 = S.2 ∧ (∀ r, 0 ≤ r → r ≤ h → RowOK S.2 f (h - r).toNat r (P_plan_l10 f 31 (h - 1) (P_fillEnd S h)).1.2.1 (P_plan_l10 f 31 (h - 1) (P_fillEnd S h)).1.2.2) := by
  refine plan_l10 (X := S.2) hf hh 31 (h - 1) (P_fillEnd S h) (by omega) (by omega) (by omega) (P_fillEnd_card S h) (fun r q1 q2 => ?_)
  have er : r = h := by omega
  subst er
  intro t p n q3 q4 q5
  rw [show (r - r).toNat = 0 by omega]
  have ix := P_index_sp r t p n
  have i0 := P_index_sp r 0 0 0
  have kF := P_fillEnd_l10_sp r 81 0 S (by decide) (by decide)
  have eF : (P_fillEnd S r).1.2.1 (P_index r t p n) = 0 := (kF.2.2.1 (P_index r t p n)).trans (if_pos (by omega))
  have eG : (P_fillEnd S r).1.2.2 (P_index r t p n) = lI 1073741824 := (kF.2.2.2 (P_index r t p n)).trans (if_pos (by omega))
  rw [eF, eG]
  refine Or.inr ⟨by decide, ⟨0, rfl, rfl⟩, fun i m q => by have := q.1; omega, fun j hj => ?_⟩
  have b := bL_base ⟨j, hj⟩
  dsimp only at b
  rw [b, decide_eq_true_iff]
  constructor
  · intro q
    exact ⟨rfl, by omega⟩
  · intro q
    have := q.2
    omega
