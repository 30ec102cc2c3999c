/-! PICKS: woven, and taken back -/
def LT (τ : Int → Int) (w p : Int) : Nat → Int → TS → TS
  | 0, _, X => X
  | n + 1, v, X => if w ≤ v then X else LT τ w p n (v + 1) (tC X v (C_turnIn (X.2.2.2 v) p (τ v)))
def LM (τ : Int → Int) (w : Int) : Nat → Int → Sta → Sta
  | 0, _, Y => Y
  | n + 1, v, Y => if w ≤ v then Y else LM τ w n (v + 1) (M_make Y v (τ v))
/-- cards 0 .. v - 1 are turned, the others aren't yet -/
def PLi (N p v : Int) (T : TS) (S : Sta) (X : TS) (Y : Sta) : Prop :=
  (InvTC N X ∧ InvW N Y) ∧ (X.1 = T.1 ∧ Y.1 = S.1) ∧ (∀ c, ¬ (0 ≤ c ∧ c < v) → X.2.2.2 c = T.2.2.2 c) ∧ (∀ c, v ≤ c → c < 16 → Sm S Y c) ∧ (∀ c, 0 ≤ c → c < v → RelP (p + 1) (X.2.2.2 c) Y c ∧ (X.2.2.2 c).1 6 = 0) ∧ (∀ j, ¬ (0 ≤ j ∧ j < v) → Y.2 4 j = S.2 4 j ∧ Y.2 5 j = S.2 5 j) ∧ ((∀ c, (X.2.2.2 c).2 7 = (T.2.2.2 c).2 7) ∧ Y.2 19 = S.2 19)
theorem PL_loop {N : Int} {T : TS} {S : Sta} (h : Rel N T S) (hp : S.1 2 < 60) {τ : Int → Int} (hτ : ∀ v, 0 ≤ v → v < S.1 1 → 0 ≤ τ v ∧ τ v ≤ 2) : ∀ (n : Nat) (v : Int) (X : TS) (Y : Sta), 0 ≤ v → v ≤ S.1 1 → S.1 1 - v < (n : Int) → PLi N (S.1 2) v T S X Y → PLi N (S.1 2) (S.1 1) T S (LT τ (S.1 1) (S.1 2) n v X) (LM τ (S.1 1) n v Y) := by
  have s1 := InvM_s1 h.iw
  have s2 := InvM_s2 h.iw
  intro n
  induction n with
  | zero => intro v X Y _ h1 h2; omega
  | succ n ih =>
    intro v X Y h0 h1 h2 P
    show PLi N (S.1 2) (S.1 1) T S (if S.1 1 ≤ v then X else LT τ (S.1 1) (S.1 2) n (v + 1) (tC X v (C_turnIn (X.2.2.2 v) (S.1 2) (τ v)))) (if S.1 1 ≤ v then Y else LM τ (S.1 1) n (v + 1) (M_make Y v (τ v)))
    by_cases e : S.1 1 ≤ v
    · have ev : v = S.1 1 := by omega
      rw [if_pos e, if_pos e, ← ev]
      exact P
    · rw [if_neg e, if_neg e]
      obtain ⟨⟨p1, p2⟩, ⟨p3, p4⟩, p5, p6, p7, p8, p9, p10⟩ := P
      have tv := hτ v h0 (by omega)
      have y2 : Y.1 2 = S.1 2 := congrFun p4 2
      refine ih (v + 1) _ _ (by omega) (by omega) (by omega) ⟨⟨p1.tC (C_turnIn_inv (InvTC_c p1 v) tv), M_make_inv Y v (τ v) p2 (by omega) (by omega) tv⟩, ⟨p3, (M_make_sc Y v (τ v)).trans p4⟩, fun c hc => ?_, fun c q1 q2 => ?_, fun c q1 q2 => ?_, fun j hj => ?_, fun c => ?_, ?_⟩
      · rw [tC_ne X _ (by omega)]
        exact p5 c (by omega)
      · exact (p6 c (by omega) q2).trans (Sm_make (by omega) (by omega) (by omega))
      · by_cases z : c = v
        · subst z
          have r := RelP_same s2.1 (p6 c (by omega) (by omega)) (h.relP h0 (by omega))
          have ex : X.2.2.2 c = T.2.2.2 c := p5 c (by omega)
          rw [tC_at, ex]
          exact step_own r y2 s2.1 (by omega) tv (InvM_a2 p2 c)
        · have r := p7 c q1 (by omega)
          rw [tC_ne X _ z]
          exact ⟨RelP_same (by omega) (Sm_make z (by omega) (by omega)) r.1, r.2⟩
      · have k := p8 j (by omega)
        rw [M_make_ne Y v (τ v) 4 j (by omega) (by omega) (by omega) (by omega), M_make_ne Y v (τ v) 5 j (by omega) (by omega) (by omega) (by omega)]
        exact k
      · by_cases z : c = v
        · subst z
          rw [tC_at, ← p9 c]
          exact funext fun j => C_turnIn_ne _ _ _ 7 j (by decide) (by omega)
        · rw [tC_ne X _ z]
          exact p9 c
      · rw [M_make_ar Y v (τ v) 19 (by decide)]
        exact p10
theorem pick_gen {N : Int} {T : TS} {S : Sta} (h : Rel N T S) (hp : S.1 2 < 60) {τ : Int → Int} (hτ : ∀ v, 0 ≤ v → v < S.1 1 → 0 ≤ τ v ∧ τ v ≤ 2) : Rel N (tI (LT τ (S.1 1) (S.1 2) 17 0 T) 1 (S.1 2 + 1)) (mI (LM τ (S.1 1) 17 0 S) 2 (S.1 2 + 1)) ∧ (∀ c, ((LT τ (S.1 1) (S.1 2) 17 0 T).2.2.2 c).2 7 = (T.2.2.2 c).2 7) ∧ (LM τ (S.1 1) 17 0 S).2 19 = S.2 19 := by
  have s1 := InvM_s1 h.iw
  have s2 := InvM_s2 h.iw
  have sc := h.sc
  have P := PL_loop h hp hτ 17 0 T S (by decide) (by omega) (by omega) ⟨⟨h.it, h.iw⟩, ⟨rfl, rfl⟩, fun _ _ => rfl, fun c _ _ => Sm.rf S c, fun c q1 q2 => by omega, fun _ _ => ⟨rfl, rfl⟩, fun _ => rfl, rfl⟩
  generalize LT τ (S.1 1) (S.1 2) 17 0 T = X at P ⊢
  generalize LM τ (S.1 1) 17 0 S = Y at P ⊢
  obtain ⟨⟨p1, p2⟩, ⟨p3, p4⟩, p5, p6, p7, p8, p9, p10⟩ := P
  have rg : ∀ c, 0 ≤ c → c < S.1 1 → (-60 ≤ Y.2 4 c ∧ Y.2 4 c ≤ 60) ∧ (0 ≤ Y.2 5 c ∧ Y.2 5 c ≤ 60) := fun c c0 c1 => by
    have k := Ch_rg _ _ _ _ _ _ _ _ (p7 c c0 c1).1.2.2
    omega
  refine ⟨⟨⟨p1.tI1 (by omega), fun i => ?_, InvW_pick p2 (by omega), ⟨fun j => ?_, fun j => ?_⟩⟩, ⟨?_, rfl, ?_, ?_⟩, fun c c0 c1 => ?_⟩, p9, p10⟩
  · by_cases z : 0 ≤ i ∧ i < S.1 1
    · show -60 ≤ (X.2.2.2 i).1 2 ∧ (X.2.2.2 i).1 2 ≤ 60
      rw [(p7 i z.1 z.2).1.1.2.2.1.2.2.1]
      exact (rg i z.1 z.2).1
    · show InvCT (X.2.2.2 i)
      rw [p5 i z]
      exact h.itt i
  · show -60 ≤ Y.2 4 j ∧ Y.2 4 j ≤ 60
    by_cases z : 0 ≤ j ∧ j < S.1 1
    · exact (rg j z.1 z.2).1
    · rw [(p8 j z).1]
      exact h.iwt.1 j
  · show 0 ≤ Y.2 5 j ∧ Y.2 5 j ≤ 60
    by_cases z : 0 ≤ j ∧ j < S.1 1
    · exact (rg j z.1 z.2).2
    · rw [(p8 j z).2]
      exact h.iwt.2 j
  · show X.1 0 = Y.1 1
    rw [p3, p4]
    exact sc.1
  · show X.1 2 = Y.1 3
    rw [p3, p4]
    exact sc.2.2.1
  · show X.1 3 = Y.1 4
    rw [p3, p4]
    exact sc.2.2.2
  · have c1 : c < X.1 0 := c1
    rw [p3, sc.1] at c1
    obtain ⟨r, r6⟩ := p7 c c0 c1
    exact ⟨r.1, r.2.1, Ch_congr (S := Y) _ _ _ _ _ _ _ (fun _ _ _ _ _ _ => rfl) (fun _ _ _ _ _ _ => rfl) (fun _ _ _ => rfl) r.2.2, Or.inl r6⟩
/-! bits -/
theorem shl_pow : ∀ w : Fin 17, zi_shl 1 ((w.val : Nat) : Int) = ((2 ^ w.val : Nat) : Int) := by decide +kernel
theorem bit_lt (x : BitVec 32) (w : Nat) : (∀ i, i < 32 → w ≤ i → x.getLsbD i = false) ↔ x.toNat < 2 ^ w := by
  constructor
  · intro h
    refine Nat.lt_pow_two_of_testBit _ (fun i hi => ?_)
    by_cases e : i < 32
    · exact h i e hi
    · exact BitVec.getLsbD_of_ge x i (by omega)
  · intro h i _ hi
    exact Nat.testBit_lt_two_pow (Nat.lt_of_lt_of_le h (Nat.pow_le_pow_right (by decide) hi))
theorem mask_bits : ∀ W : Fin 17, ∀ i : Fin 32, ((iI (zi_shl 1 ((W.val : Nat) : Int) - 1)).toBitVec ^^^ (iI (-1)).toBitVec).getLsbD i.val = decide (W.val ≤ i.val) := by decide +kernel
theorem pick_bit {W : Nat} (hW : W ≤ 16) {f : Int} (hf : ok32 f) : (iI f).toBitVec.toNat < 2 ^ W ↔ (0 ≤ f ∧ f ≤ ((2 ^ W : Nat) : Int) - 1) := by
  have e : (iI f).toBitVec.toInt = f := iI_toInt hf
  rw [BitVec.toInt_eq_toNat_cond] at e
  have l : (iI f).toBitVec.toNat < 2 ^ 32 := (iI f).toBitVec.isLt
  have p : 2 ^ W ≤ 2 ^ 16 := Nat.pow_le_pow_right (by decide) hW
  generalize 2 ^ W = P at p ⊢
  generalize (iI f).toBitVec.toNat = x at e l ⊢
  have hf1 := hf.1
  have hf2 := hf.2
  split at e <;> omega
theorem pick_ok {w f b : Int} (hw : 1 ≤ w ∧ w ≤ 16) (hf : ok32 f) (hb : ok32 b) : zi_and (zi_or f b) (zi_xor (zi_shl 1 w - 1) (-1)) = 0 ↔ ((0 ≤ f ∧ f ≤ zi_shl 1 w - 1) ∧ (0 ≤ b ∧ b ≤ zi_shl 1 w - 1)) := by
  have ew : ((w.toNat : Nat) : Int) = w := by omega
  have hW : w.toNat ≤ 16 := by omega
  have sp := shl_pow ⟨w.toNat, by omega⟩
  have mb := mask_bits ⟨w.toNat, by omega⟩
  dsimp only at sp mb
  rw [ew] at sp mb
  have key : zi_and (zi_or f b) (zi_xor (zi_shl 1 w - 1) (-1)) = 0 ↔ (((iI f).toBitVec ||| (iI b).toBitVec) &&& ((iI (zi_shl 1 w - 1)).toBitVec ^^^ (iI (-1)).toBitVec)) = 0#32 := by
    have e1 : iI (zi_or f b) = (iI f ||| iI b) := (iI_of _).symm
    have e2 : iI (zi_xor (zi_shl 1 w - 1) (-1)) = (iI (zi_shl 1 w - 1) ^^^ iI (-1)) := (iI_of _).symm
    unfold zi_and
    rw [e1, e2]
    constructor
    · intro h
      have h2 : ((iI f ||| iI b) &&& (iI (zi_shl 1 w - 1) ^^^ iI (-1))) = (0 : Int32) := Int32.toInt_inj.mp h
      exact congrArg Int32.toBitVec h2
    · intro h
      have h2 : ((iI f ||| iI b) &&& (iI (zi_shl 1 w - 1) ^^^ iI (-1))) = (0 : Int32) := Int32.toBitVec_inj.mp h
      rw [h2]
      rfl
  rw [key, sp, ← pick_bit hW hf, ← pick_bit hW hb, ← bit_lt, ← bit_lt]
  rw [← sp]
  constructor
  · intro h
    have hi : ∀ i, i < 32 → w.toNat ≤ i → ((iI f).toBitVec.getLsbD i || (iI b).toBitVec.getLsbD i) = false := by
      intro i i0 i1
      have q := congrArg (fun z : BitVec 32 => z.getLsbD i) h
      have m := mb ⟨i, i0⟩
      dsimp only at q m
      rw [BitVec.getLsbD_and, BitVec.getLsbD_or, m, decide_eq_true i1] at q
      simpa using q
    exact ⟨fun i i0 i1 => ((Bool.or_eq_false_iff).mp (hi i i0 i1)).1, fun i i0 i1 => ((Bool.or_eq_false_iff).mp (hi i i0 i1)).2⟩
  · rintro ⟨h1, h2⟩
    refine BitVec.eq_of_getLsbD_eq (fun i i0 => ?_)
    have m := mb ⟨i, i0⟩
    dsimp only at m
    rw [BitVec.getLsbD_and, BitVec.getLsbD_or, m]
    by_cases e : w.toNat ≤ i
    · rw [h1 i i0 e, h2 i i0 e]
      simp
    · rw [decide_eq_false e]
      simp
section PICKS
variable {N : Int} {T : TS} {S : Sta}
theorem T_pick_LT (T : TS) (f b : Int) : ∀ (n : Nat) (v : Int) (X : TS), T_pick_l43 T f b n v X = LT (fun v => T_turnOfBits f b v) (T.1 0) (T.1 1) n v X := by
  intro n
  induction n with
  | zero => intro v X; rfl
  | succ n ih =>
    intro v X
    rw [T_pick_l43_s, ih]
    rfl
theorem M_pick_LM (S : Sta) (f b : Int) : ∀ (n : Nat) (v : Int) (Y : Sta), M_pick_l64 S f b n v Y = LM (fun v => T_turnOfBits f b v) (S.1 1) n v Y := by
  intro n
  induction n with
  | zero => intro v Y; rfl
  | succ n ih =>
    intro v Y
    rw [M_pick_l64_s]
    dsimp only
    rw [ih]
    rfl
theorem s_pick (h : Rel N T S) (hN : N + 1 ≤ 1000) (f b : Int) (hf : ok32 f) (hb : ok32 b) : (T_pick T f b).1 = (M_pick S f b).1 ∧ Rel (N + 1) (T_pick T f b).2 (M_pick S f b).2 := by
  have m := h.mono (M := N + 1) (by omega) hN
  have s1 := InvM_s1 h.iw
  have s2 := InvM_s2 h.iw
  have sc := h.sc
  have ok := pick_ok s1 hf hb
  have i1 := M_in_sp f 0 (zi_shl 1 (S.1 1) - 1)
  have i2 := M_in_sp b 0 (zi_shl 1 (S.1 1) - 1)
  unfold T_pick M_pick
  rw [sc.1, sc.2.1]
  by_cases A : zi_and (zi_or f b) (zi_xor (zi_shl 1 (S.1 1) - 1) (-1)) = 0
  · have o := ok.mp A
    rw [if_pos A, if_neg (show ¬ M_in f 0 (zi_shl 1 (S.1 1) - 1) = 0 by omega), if_neg (show ¬ M_in b 0 (zi_shl 1 (S.1 1) - 1) = 0 by omega)]
    by_cases B : zi_and f b = 0
    · rw [if_pos B, if_pos B]
      by_cases C : S.1 2 = 60
      · rw [if_pos C, if_neg (show ¬ S.1 2 < 60 by omega)]
        exact ⟨rfl, m⟩
      · rw [if_neg C, if_pos (show S.1 2 < 60 by omega)]
        unfold T_pick_r43 M_pick_r64
        dsimp only
        rw [T_pick_LT, M_pick_LM, sc.1, sc.2.1]
        exact ⟨rfl, (pick_gen m (by omega) (fun v _ _ => T_turnOfBits_rg f b v)).1⟩
    · rw [if_neg B, if_neg B]
      exact ⟨rfl, m⟩
  · rw [if_neg A]
    by_cases B : M_in f 0 (zi_shl 1 (S.1 1) - 1) = 0
    · rw [if_pos B]
      exact ⟨rfl, m⟩
    · rw [if_neg B]
      by_cases C : M_in b 0 (zi_shl 1 (S.1 1) - 1) = 0
      · rw [if_pos C]
        exact ⟨rfl, m⟩
      · exact absurd (ok.mpr (by omega)) A
theorem T_packs_LT (T : TS) (a b c d : Int) : ∀ (n : Nat) (v : Int) (X : TS), (∀ j, v ≤ j → X.2.2.2 j = T.2.2.2 j) → T_packs_l47 T a b c d n v X = LT (fun v => T_turnOfPack ((T.2.2.2 v).1 1) a b c d) (T.1 0) (T.1 1) n v X := by
  intro n
  induction n with
  | zero => intro v X _; rfl
  | succ n ih =>
    intro v X h
    rw [T_packs_l47_s, ih (v + 1) _ (fun j hj => (tC_ne X _ (by omega)).trans (h j (by omega))), h v (Int.le_refl v)]
    show _ = if T.1 0 ≤ v then X else LT (fun v => T_turnOfPack ((T.2.2.2 v).1 1) a b c d) (T.1 0) (T.1 1) n (v + 1) (tC X v (C_turnIn (X.2.2.2 v) (T.1 1) (T_turnOfPack ((T.2.2.2 v).1 1) a b c d)))
    rw [h v (Int.le_refl v)]
theorem M_packs_LM (S : Sta) (a b c d : Int) {τ : Int → Int} (hτ : ∀ v, 0 ≤ v → v < S.1 1 → τ v = T_turnOfPack (S.2 3 v) a b c d) : ∀ (n : Nat) (v : Int) (Y : Sta), 0 ≤ v → Y.2 3 = S.2 3 → M_packs_l72 S a b c d n v Y = LM τ (S.1 1) n v Y := by
  intro n
  induction n with
  | zero => intro v Y _ _; rfl
  | succ n ih =>
    intro v Y hv h
    rw [M_packs_l72_s]
    show _ = if S.1 1 ≤ v then Y else LM τ (S.1 1) n (v + 1) (M_make Y v (τ v))
    by_cases e : S.1 1 ≤ v
    · rw [if_pos e, if_pos e]
    · rw [if_neg e, if_neg e, h, hτ v hv (by omega)]
      exact ih (v + 1) _ (by omega) ((M_make_ar Y v _ 3 (by decide)).trans h)
theorem s_packs (h : Rel N T S) (hN : N + 1 ≤ 1000) (a b c d : Int) : (T_packs T a b c d).1 = (M_packs S a b c d).1 ∧ Rel (N + 1) (T_packs T a b c d).2 (M_packs S a b c d).2 := by
  have m := h.mono (M := N + 1) (by omega) hN
  have s1 := InvM_s1 h.iw
  have s2 := InvM_s2 h.iw
  have sc := h.sc
  have ta : ∀ x : Int, (T_isTurn x = 0 ∧ M_in x 0 2 = 0) ∨ (¬ T_isTurn x = 0 ∧ ¬ M_in x 0 2 = 0 ∧ 0 ≤ x ∧ x ≤ 2) := fun x => by
    have q := in_within x 0 2
    have e : T_isTurn x = T_within x 0 2 := rfl
    omega
  unfold T_packs M_packs
  rcases ta a with ⟨x, y⟩ | ⟨x, y, a0, a1⟩
  · rw [if_pos x, if_pos y]
    exact ⟨rfl, m⟩
  · rw [if_neg x, if_neg y]
    rcases ta b with ⟨x, y⟩ | ⟨x, y, b0, b1⟩
    · rw [if_pos x, if_pos y]
      exact ⟨rfl, m⟩
    · rw [if_neg x, if_neg y]
      rcases ta c with ⟨x, y⟩ | ⟨x, y, c0, c1⟩
      · rw [if_pos x, if_pos y]
        exact ⟨rfl, m⟩
      · rw [if_neg x, if_neg y]
        rcases ta d with ⟨x, y⟩ | ⟨x, y, d0, d1⟩
        · rw [if_pos x, if_pos y]
          exact ⟨rfl, m⟩
        · rw [if_neg x, if_neg y, sc.2.1]
          by_cases C : S.1 2 = 60
          · rw [if_pos C, if_neg (show ¬ S.1 2 < 60 by omega)]
            exact ⟨rfl, m⟩
          · rw [if_neg C, if_pos (show S.1 2 < 60 by omega)]
            unfold T_packs_r47 M_packs_r72
            dsimp only
            rw [T_packs_LT T a b c d 17 0 T (fun _ _ => rfl), M_packs_LM S a b c d (τ := fun v => T_turnOfPack ((T.2.2.2 v).1 1) a b c d) (fun v v0 v1 => by rw [(h.now v0 v1).2.2.1.2.1]) 17 0 S (by decide) rfl, sc.1, sc.2.1]
            exact ⟨rfl, (pick_gen m (by omega) (fun v _ _ => by have q := T_turnOfPack_sp ((T.2.2.2 v).1 1) a b c d; omega)).1⟩
end PICKS
