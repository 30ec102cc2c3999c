theorem P_goOn_fr (S : PS) (d : Int) : (∀ j : Nat, j ≠ 5 → (P_goOn S d).2.1 j = S.2.1 j) ∧ (P_goOn S d).2.2 = S.2.2 := by
  unfold P_goOn
  split
  · exact ⟨fun _ _ => rfl, rfl⟩
  · exact ⟨fun j hj => if_neg hj, rfl⟩
theorem P_wantLeastTwist_l15_card (s : Int64) (h : Int) : ∀ (fu : Nat) (v5 v6 : Int) (S : PS), (P_wantLeastTwist_l15 s h fu v5 v6 S).2 = S.2 := by
  intro fu
  induction fu with
  | zero => intro v5 v6 S; rfl
  | succ fu ih =>
    intro v5 v6 S
    rw [P_wantLeastTwist_l15_s]
    split
    · rfl
    · refine (ih _ _ _).trans ?_
      split
      · rfl
      · split <;> rfl
theorem P_plan_l145_fr {N : Int} (h : Int) (hh : h ≤ 30) : ∀ (fu : Nat) (v : Int) (S : PS), 0 ≤ v → InvP N S → InvP N (P_plan_l145 h fu v S) ∧ (∀ j : Nat, j ≠ 5 → (P_plan_l145 h fu v S).2.1 j = S.2.1 j) ∧ (∀ k : Nat, k ≠ 7 → (P_plan_l145 h fu v S).2.2 k = S.2.2 k) := by
  intro fu
  induction fu with
  | zero => intro v S _ hI; exact ⟨hI, fun _ _ => rfl, fun _ _ => rfl⟩
  | succ fu ih =>
    intro v S hv hI
    rw [P_plan_l145_s]
    split
    · exact ⟨hI, fun _ _ => rfl, fun _ _ => rfl⟩
    · have ht := P_firstTurn_rg S v hI (by omega)
      have h1 : InvP N (cA S 7 v (P_firstTurn S v)) := hI.cA (show 0 ≤ _ ∧ _ ≤ 2 from ht)
      have h2 := P_goOn_inv _ (P_firstTurn S v) h1 ht
      have k := ih (v + 1) _ (by omega) h2
      have g := P_goOn_fr (cA S 7 v (P_firstTurn S v)) (P_firstTurn S v)
      refine ⟨k.1, fun j hj => (k.2.1 j hj).trans (g.1 j hj), fun i hi => (k.2.2 i hi).trans ?_⟩
      rw [g.2]
      exact mA_ne _ _ trivial hi
theorem P_plan_l10_fr {N : Int} (f : Int) (hf : 0 ≤ f ∧ f ≤ 9) : ∀ (fu : Nat) (v : Int) (S : PS), v < 30 → InvP N S → InvP N (P_plan_l10 f fu v S) ∧ (P_plan_l10 f fu v S).2 = S.2 := by
  intro fu
  induction fu with
  | zero => intro v S _ h; exact ⟨h, rfl⟩
  | succ fu ih =>
    intro v S hv h
    rw [P_plan_l10_s]
    split
    · exact ⟨h, rfl⟩
    · have k := ih (v + (-1)) _ (by omega) (P_fillRow_inv S v f h (by omega) hf)
      exact ⟨k.1, k.2.trans (P_fillRow_card S v f h (by omega))⟩
theorem P_plan_all {N : Int} (S : PS) (p h f : Int) (hI : InvP N S) (hp : 0 ≤ p ∧ p ≤ 60) (hh : 1 ≤ h ∧ h ≤ 30) (hf : 0 ≤ f ∧ f ≤ 9) : InvP N (P_plan S p h f) ∧ (∀ j : Nat, j ≠ 4 → j ≠ 5 → (P_plan S p h f).2.1 j = S.2.1 j) ∧ (∀ k : Nat, k ≠ 7 → (P_plan S p h f).2.2 k = S.2.2 k) := by
  have a := P_plan_l10_fr f hf 31 (h - 1) (P_fillEnd S h) (by omega) (P_fillEnd_inv S h hI hh)
  have ac : (P_plan_l10 f 31 (h - 1) (P_fillEnd S h)).2 = S.2 := a.2.trans (P_fillEnd_card S h)
  unfold P_plan P_plan_r10
  dsimp only
  generalize P_plan_l10 f 31 (h - 1) (P_fillEnd S h) = Z at a ac ⊢
  have aI := a.1
  unfold P_plan_m55
  have hm2 : 0 ≤ (if C_showing Z.2 p = Z.2.2 0 0 then (0 : Int) else 1) ∧ (if C_showing Z.2 p = Z.2.2 0 0 then (0 : Int) else 1) ≤ 1 := by split <;> omega
  generalize (if C_showing Z.2 p = Z.2.2 0 0 then (0 : Int) else 1) = m at hm2 ⊢
  have ib := C_idleBehind_rg Z.2 p aI.1 hp
  have jm := J_min_sp (C_idleBehind Z.2 p) f
  have hr : 0 ≤ J_min (C_idleBehind Z.2 p) f ∧ J_min (C_idleBehind Z.2 p) f ≤ 9 := by omega
  generalize J_min (C_idleBehind Z.2 p) f = r at hr ⊢
  have b := ((aI.pI1 (v := 0) (by decide)).pI2 (v := m) hm2).pI3 (v := r) hr
  rw [← ac]
  split
  · have c := InvP_f aI (P_index 0 0 m r)
    have d := (b.cI (j := 4) (v := Z.1.2.1 (P_index 0 0 m r)) (show -99 ≤ _ ∧ _ ≤ 1000 from by omega)).cI (j := 5) (v := Z.2.1 2) (show sgC N 5 _ from trivial)
    have e := P_wantLeastTwist_l15_inv (Z.1.2.2 (P_index 0 0 m r)) h 62 1000 (-h) _ (d.pL (j := 1) (v := lI 0))
    have ec := P_wantLeastTwist_l15_card (Z.1.2.2 (P_index 0 0 m r)) h 62 1000 (-h) (pL (cI (cI (pI (pI (pI Z 1 0) 2 m) 3 r) 4 (Z.1.2.1 (P_index 0 0 m r))) 5 (Z.2.1 2)) 1 (lI 0))
    have g := P_plan_l145_fr h hh.2 31 0 _ (by decide) e
    refine ⟨g.1, fun j h4 h5 => (g.2.1 j h5).trans ?_, fun k hk => (g.2.2 k hk).trans ?_⟩
    · rw [ec]
      exact (if_neg h5).trans (if_neg h4)
    · rw [ec]
      rfl
  · exact ⟨b.cI (j := 4) (v := -99) (show (-99 : Int) ≤ -99 ∧ (-99 : Int) ≤ 1000 by decide), fun j h4 _ => if_neg h4, fun _ _ => rfl⟩
def T_plannedCard (S : TS) (c : Int) : TS := if ((S.2.2.2 c).1 6) = 0 then (tC (tP S ((P_plan (S.2.2.1, S.2.2.2 c) (S.1 1) (S.1 2) (S.1 3)).1)) c (mI (P_plan (S.2.2.1, S.2.2.2 c) (S.1 1) (S.1 2) (S.1 3)).2 6 1)) else S
theorem T_plannedCard_sc (S : TS) (c : Int) : (T_plannedCard S c).1 = S.1 := by
  unfold T_plannedCard
  split <;> rfl
theorem T_plannedCard_inv {N : Int} (S : TS) (c : Int) (hI : InvTC N S) (hT : InvTCT S) (_ : 0 ≤ c ∧ c < 16) : InvTC N (T_plannedCard S c) ∧ InvTCT (T_plannedCard S c) := by
  unfold T_plannedCard
  split
  · have a := P_plan_all (S.2.2.1, S.2.2.2 c) (S.1 1) (S.1 2) (S.1 3) (hI.2 c) hI.1.2.1 hI.1.2.2.1 hI.1.2.2.2
    refine ⟨⟨hI.1, fun i => ?_⟩, fun i => ?_⟩
    · show InvP N ((P_plan (S.2.2.1, S.2.2.2 c) (S.1 1) (S.1 2) (S.1 3)).1, iu S.2.2.2 c (mI (P_plan (S.2.2.1, S.2.2.2 c) (S.1 1) (S.1 2) (S.1 3)).2 6 1) i)
      unfold iu
      split
      · exact ⟨InvC.mI (k := 6) a.1.1 (show (0 : Int) ≤ 1 ∧ (1 : Int) ≤ 1 by decide), a.1.2⟩
      · exact ⟨(hI.2 i).1, a.1.2⟩
    · show InvCT (iu S.2.2.2 c (mI (P_plan (S.2.2.1, S.2.2.2 c) (S.1 1) (S.1 2) (S.1 3)).2 6 1) i)
      unfold iu
      split
      · show -60 ≤ (P_plan (S.2.2.1, S.2.2.2 c) (S.1 1) (S.1 2) (S.1 3)).2.1 2 ∧ (P_plan (S.2.2.1, S.2.2.2 c) (S.1 1) (S.1 2) (S.1 3)).2.1 2 ≤ 60
        rw [a.2.1 2 (by decide) (by decide)]
        exact hT c
      · exact hT i
  · exact ⟨hI, hT⟩
theorem T_listWrongTurns_l19_rg (S : TS) (i v4 : Int) (ht : 0 ≤ (S.2.2.2 i).2 2 v4 ∧ (S.2.2.2 i).2 2 v4 ≤ 2) : ∀ (n : Nat) (v3 v5 : Int) (X : TS), 0 ≤ v3 → 0 ≤ v5 → v5 ≤ 3 → 0 ≤ (T_listWrongTurns_l19 S i v4 n v3 v5 X).1 ∧ (T_listWrongTurns_l19 S i v4 n v3 v5 X).1 ≤ v3 + 3 - v5 ∧ (v5 ≤ (S.2.2.2 i).2 2 v4 → (T_listWrongTurns_l19 S i v4 n v3 v5 X).1 ≤ v3 + 2 - v5) := by
  intro n
  induction n with
  | zero => intro v3 v5 X h3 h5 h6; exact ⟨h3, by show v3 ≤ _; omega, fun _ => by show v3 ≤ _; omega⟩
  | succ n ih =>
    intro v3 v5 X h3 h5 h6
    rw [T_listWrongTurns_l19_s]
    split
    · exact ⟨h3, by show v3 ≤ _; omega, fun _ => by show v3 ≤ _; omega⟩
    · by_cases e : v5 = (S.2.2.2 i).2 2 v4
      · simp only [if_pos e]
        have k := ih v3 (v5 + 1) X h3 (by omega) (by omega)
        exact ⟨k.1, by omega, fun _ => by omega⟩
      · simp only [if_neg e]
        by_cases e2 : C_fitsWith (S.2.2.2 i) v4 v5 (T_wovenRows S) = 0
        · simp only [if_pos e2]
          have k := ih v3 (v5 + 1) X h3 (by omega) (by omega)
          exact ⟨k.1, by omega, fun _ => by omega⟩
        · simp only [if_neg e2]
          have k := ih (v3 + 1) (v5 + 1) (tW X v3 ((10 * v4) + v5)) (by omega) (by omega) (by omega)
          exact ⟨k.1, by omega, fun q => by have := k.2.2 (by omega); omega⟩
theorem T_listWrongTurns_l10_rg {N : Int} (S : TS) (i : Int) (hI : InvTC N S) : ∀ (n : Nat) (v3 v4 : Int) (X : TS), 0 ≤ v4 → 0 ≤ v3 → v3 ≤ 2 * v4 → v4 ≤ 30 → 0 ≤ (T_listWrongTurns_l10 S i n v3 v4 X).1 ∧ (T_listWrongTurns_l10 S i n v3 v4 X).1 ≤ 60 := by
  intro n
  have hw := T_wovenRows_sp S
  have h2 := InvTC_s2 hI
  induction n with
  | zero => intro v3 v4 X h4 h3 h5 h6; exact ⟨h3, by show v3 ≤ _; omega⟩
  | succ n ih =>
    intro v3 v4 X h4 h3 h5 h6
    rw [T_listWrongTurns_l10_s]
    split
    · exact ⟨h3, by show v3 ≤ _; omega⟩
    · have ht := InvC_a2 (InvTC_c hI i) v4
      have q := T_listWrongTurns_l19_rg S i v4 ht 4 v3 0 X h3 (by decide) (by decide)
      have q2 := q.2.2 ht.1
      exact ih _ _ _ (by omega) q.1 (by omega) (by omega)
theorem T_listWrongTurns_rg {N : Int} (S : TS) (i : Int) (hI : InvTC N S) (_ : 0 ≤ i ∧ i < 16) : 0 ≤ (T_listWrongTurns S i).1 ∧ (T_listWrongTurns S i).1 ≤ 60 := T_listWrongTurns_l10_rg S i hI 31 0 0 S (by decide) (by decide) (by decide) (by decide)
set_option maxRecDepth 100000 in
theorem c_T_plannedCard {l : Launch} {K : KK} {N : Int} (u r : Nat → Nat) (ca : Nat → Nat → Nat) (S : TS) (c : Int) (hI : InvTC N S) (hT : InvTCT S) (hp2 : 0 ≤ c ∧ c < 16) : CtA l yX2_plannedCard cX2_plannedCard 3 (.object "TurnedCards$Card") (5, 127) K [.ref (u 0), .int (iI c)] (wT K u r ca S) (ca c.toNat 0) (wT K u r ca (T_plannedCard S c)) := by
  refine ctA_of (by decide) (Nat.le_of_ble_eq_true rfl) (Or.inl ⟨_, rfl⟩) ?_
  intro x X hD hR
  have hD : ∀ S9 : TS, va_D (cx_A x) (wT K u r ca S9) := fun S9 => va_D_same hD rfl
  have hs0 := InvTC_s0 hI
  have hs1 := InvTC_s1 hI
  have hs2 := InvTC_s2 hI
  have hs3 := InvTC_s3 hI
  refine gx_aload_n X dX2_plannedCard_0 rfl 0 rfl ?_
  refine gT_band X dX2_plannedCard_1 ?_
  refine gx_iload_n X dX2_plannedCard_4 rfl 1 rfl ?_
  refine gT_card X (by omega) dX2_plannedCard_5 ?_
  refine gx_astore_n X dX2_plannedCard_6 rfl (by decide) rfl ?_
  refine gx_aload_n X dX2_plannedCard_7 rfl 0 rfl ?_
  refine gT_cg6 (v := ((S.2.2.2 c).1 6)) X (by omega) rfl dX2_plannedCard_8 ?_
  have hg8 := InvC_s6 (InvTC_c hI c)
  have J39 : ∀ (S39 : TS), S39 = (if ((S.2.2.2 c).1 6) = 0 then (tC (tP S ((P_plan (S.2.2.1, S.2.2.2 c) (S.1 1) (S.1 2) (S.1 3)).1)) c (mI (P_plan (S.2.2.1, S.2.2.2 c) (S.1 1) (S.1 2) (S.1 3)).2 6 1)) else S) → GG l (rmK (5, 127)) K x (wT K u r ca S39) 39 [(0, .ref (u 0)), (1, .int (iI c)), (2, .ref (ca c.toNat 0))] [] := by
    intro S39 e_S39
    refine gx_aload_n X dX2_plannedCard_39 rfl 2 rfl ?_
    exact gx_aret hR rfl (congrArg (fun z : TS => (wT K u r ca z)) ((show T_plannedCard S c = S39 from e_S39.symm))) dX2_plannedCard_40
  refine gx_if_ne (tgt := 39) X dX2_plannedCard_11 (by decide) (by omega) (fun hc11 => ?_) (fun hc11 => ?_)
  · refine gx_sub [1, 2, 0] rfl ?_
    exact J39 S ((if_neg hc11).symm) 
  · refine gx_aload_n X dX2_plannedCard_14 rfl 1 rfl ?_
    refine gT_planner X dX2_plannedCard_15 ?_
    refine gx_aload_n X dX2_plannedCard_18 rfl 0 rfl ?_
    refine gx_aload_n X dX2_plannedCard_19 rfl 1 rfl ?_
    refine gT_g1 (v := (S.1 1)) X rfl dX2_plannedCard_20 ?_
    refine gx_aload_n X dX2_plannedCard_23 rfl 1 rfl ?_
    refine gT_g2 (v := (S.1 2)) X rfl dX2_plannedCard_24 ?_
    refine gx_aload_n X dX2_plannedCard_27 rfl 1 rfl ?_
    refine gT_g3 (v := (S.1 3)) X rfl dX2_plannedCard_28 ?_
    refine gx_callVV (As := [.ref (ca c.toNat 0), .int (iI (S.1 1)), .int (iI (S.1 2)), .int (iI (S.1 3))]) (rest := []) X (hD _) lk_T_215 (ci := 1) rfl rfl 0 rfl (c_P_plan r (ca c.toNat) (S.2.2.1, S.2.2.2 c) (S.1 1) (S.1 2) (S.1 3) (hI.2 c) (hT c) (by omega) (by omega) (by omega)) (jn_plan K u r ca S (by omega) _ (hD _)) rfl ⟨by decide, by decide⟩ (Nat.le_of_ble_eq_true rfl) dX2_plannedCard_31 ?_
    refine gx_aload_n X dX2_plannedCard_34 rfl 0 rfl ?_
    refine gx_iconst (z := 1) X dX2_plannedCard_35 rfl ?_
    refine gT_cp6 X (hD _) (by omega) (by decide) dX2_plannedCard_36 ?_
    refine gx_eq (ws' := (wT K u r ca (tC (tP S ((P_plan (S.2.2.1, S.2.2.2 c) (S.1 1) (S.1 2) (S.1 3)).1)) c (mI (P_plan (S.2.2.1, S.2.2.2 c) (S.1 1) (S.1 2) (S.1 3)).2 6 1)))) ?_ (congrArg (wT K u r ca) (tC_upd (tP S ((P_plan (S.2.2.1, S.2.2.2 c) (S.1 1) (S.1 2) (S.1 3)).1)) c ((P_plan (S.2.2.1, S.2.2.2 c) (S.1 1) (S.1 2) (S.1 3)).2) (fun q : Sta => mI q 6 1))) rfl rfl
    refine gx_sub [1, 2, 0] rfl ?_
    exact J39 (tC (tP S ((P_plan (S.2.2.1, S.2.2.2 c) (S.1 1) (S.1 2) (S.1 3)).1)) c (mI (P_plan (S.2.2.1, S.2.2.2 c) (S.1 1) (S.1 2) (S.1 3)).2 6 1)) ((if_pos hc11).symm) 
def T_idles (S : TS) (c : Int) : Int × TS := if (T_isCard S c) = 0 then ((-1), S) else ((((T_plannedCard S c).2.2.2 c).1 4), (T_plannedCard S c))
set_option maxRecDepth 100000 in
theorem c_T_idles {l : Launch} {K : KK} {N : Int} (u r : Nat → Nat) (ca : Nat → Nat → Nat) (S : TS) (c : Int) (hI : InvTC N S) (hT : InvTCT S) (hp2 : ok32 c) : CtI l yX2_idles cX2_idles 2 .int (6, 149) K [.ref (u 0), .int (iI c)] (wT K u r ca S) (T_idles S c).1 (wT K u r ca ((T_idles S c).2)) := by
  refine ctI_of (by decide) (Nat.le_of_ble_eq_true rfl) rfl ?_
  intro x X hD hR
  have hD : ∀ S9 : TS, va_D (cx_A x) (wT K u r ca S9) := fun S9 => va_D_same hD rfl
  have hs0 := InvTC_s0 hI
  have hs1 := InvTC_s1 hI
  have hs2 := InvTC_s2 hI
  have hs3 := InvTC_s3 hI
  refine gx_aload_n X dX2_idles_0 rfl 0 rfl ?_
  refine gx_iload_n X dX2_idles_1 rfl 1 rfl ?_
  refine gx_callVI (As := [.int (iI c)]) (rest := []) X (hD _) lk_T_39 (ci := 2) rfl rfl 0 rfl (c_T_isCard u r ca S c hI (by omega)) jn_all rfl ⟨by decide, by decide⟩ (Nat.le_of_ble_eq_true rfl) dX2_idles_2 ?_
  have hq2_0 := T_isCard_sp S c
  refine gx_if_ne (tgt := 10) X dX2_idles_5 (by decide) (by omega) (fun hc5 => ?_) (fun hc5 => ?_)
  · refine gx_aload_n X dX2_idles_10 rfl 0 rfl ?_
    refine gx_iload_n X dX2_idles_11 rfl 1 rfl ?_
    refine gx_callVA (As := [.int (iI c)]) (rest := []) X (hD _) lk_T_168 (ci := 2) rfl rfl 0 rfl (c_T_plannedCard u r ca S c hI hT (by omega)) jn_all rfl ⟨by decide, by decide⟩ (Nat.le_of_ble_eq_true rfl) dX2_idles_12 ?_
    have hv12 := T_plannedCard_inv S c hI hT (by omega)
    refine gT_cg4 (v := (((T_plannedCard S c).2.2.2 c).1 4)) X (by omega) rfl dX2_idles_15 ?_
    have hg15 := InvC_s4 (InvTC_c hv12.1 c)
    exact gx_iret hR (congrArg Prod.fst ((show T_idles S c = ((((T_plannedCard S c).2.2.2 c).1 4), (T_plannedCard S c)) from if_neg hc5))) (ret2 (fun z => (wT K u r ca z)) ((show T_idles S c = ((((T_plannedCard S c).2.2.2 c).1 4), (T_plannedCard S c)) from if_neg hc5))) dX2_idles_18
  · refine gx_iconst (z := (-1)) X dX2_idles_8 rfl ?_
    exact gx_iret hR (congrArg Prod.fst ((show T_idles S c = ((-1), S) from if_pos hc5))) (ret2 (fun z => (wT K u r ca z)) ((show T_idles S c = ((-1), S) from if_pos hc5))) dX2_idles_9
def T_turning_m53 (S : TS) (c : Int) (m53 : Int) : Int × TS := (m53, (T_plannedCard S c))
def T_turning (S : TS) (c : Int) (i : Int) : Int × TS := if (T_isCard S c) = 0 then ((-1), S) else if (T_within i 0 ((S.1 2) - 1)) = 0 then ((-2), S) else T_turning_m53 S c (if (((T_plannedCard S c).2.2.2 c).1 4) = (-99) then (-99) else (((T_plannedCard S c).2.2.2 c).2 7 i))
set_option maxRecDepth 100000 in
theorem c_T_turning {l : Launch} {K : KK} {N : Int} (u r : Nat → Nat) (ca : Nat → Nat → Nat) (S : TS) (c : Int) (i : Int) (hI : InvTC N S) (hT : InvTCT S) (hp2 : ok32 c) (hp3 : ok32 i) : CtI l yX2_turning cX2_turning 4 .int (6, 149) K [.ref (u 0), .int (iI c), .int (iI i)] (wT K u r ca S) (T_turning S c i).1 (wT K u r ca ((T_turning S c i).2)) := by
  refine ctI_of (by decide) (Nat.le_of_ble_eq_true rfl) rfl ?_
  intro x X hD hR
  have hD : ∀ S9 : TS, va_D (cx_A x) (wT K u r ca S9) := fun S9 => va_D_same hD rfl
  have hs0 := InvTC_s0 hI
  have hs1 := InvTC_s1 hI
  have hs2 := InvTC_s2 hI
  have hs3 := InvTC_s3 hI
  refine gx_aload_n X dX2_turning_0 rfl 0 rfl ?_
  refine gx_iload_n X dX2_turning_1 rfl 1 rfl ?_
  refine gx_callVI (As := [.int (iI c)]) (rest := []) X (hD _) lk_T_39 (ci := 2) rfl rfl 0 rfl (c_T_isCard u r ca S c hI (by omega)) jn_all rfl ⟨by decide, by decide⟩ (Nat.le_of_ble_eq_true rfl) dX2_turning_2 ?_
  have hq2_0 := T_isCard_sp S c
  refine gx_if_ne (tgt := 10) X dX2_turning_5 (by decide) (by omega) (fun hc5 => ?_) (fun hc5 => ?_)
  · refine gx_iload_n X dX2_turning_10 rfl 2 rfl ?_
    refine gx_iconst (z := 0) X dX2_turning_11 rfl ?_
    refine gx_aload_n X dX2_turning_12 rfl 0 rfl ?_
    refine gT_g2 (v := (S.1 2)) X rfl dX2_turning_13 ?_
    refine gx_iconst (z := 1) X dX2_turning_16 rfl ?_
    refine gx_isub X dX2_turning_17 ?_
    refine gx_callSI (As := [.int (iI i), .int (iI 0), .int (iI ((S.1 2) - 1))]) (rest := []) X (hD _) lk_T_31 (c_T_within i 0 ((S.1 2) - 1) (by omega) (by omega) (by omega)) jn_nil rfl ⟨by decide, by decide⟩ (Nat.le_of_ble_eq_true rfl) dX2_turning_18 ?_
    have hq18_0 := T_within_sp i 0 ((S.1 2) - 1)
    refine gx_if_ne (tgt := 27) X dX2_turning_21 (by decide) (by omega) (fun hc21 => ?_) (fun hc21 => ?_)
    · refine gx_aload_n X dX2_turning_27 rfl 0 rfl ?_
      refine gx_iload_n X dX2_turning_28 rfl 1 rfl ?_
      refine gx_callVA (As := [.int (iI c)]) (rest := []) X (hD _) lk_T_168 (ci := 2) rfl rfl 0 rfl (c_T_plannedCard u r ca S c hI hT (by omega)) jn_all rfl ⟨by decide, by decide⟩ (Nat.le_of_ble_eq_true rfl) dX2_turning_29 ?_
      have hv29 := T_plannedCard_inv S c hI hT (by omega)
      refine gx_astore_n X dX2_turning_32 rfl (by decide) rfl ?_
      refine gx_aload_n X dX2_turning_33 rfl 0 rfl ?_
      refine gT_cg4 (v := (((T_plannedCard S c).2.2.2 c).1 4)) X (by omega) rfl dX2_turning_34 ?_
      have hg34 := InvC_s4 (InvTC_c hv29.1 c)
      refine gx_bipush (z := (-99)) X dX2_turning_37 (by decide) ?_
      have J53 : ∀ (m53 : Int), m53 = (if (((T_plannedCard S c).2.2.2 c).1 4) = (-99) then (-99) else (((T_plannedCard S c).2.2.2 c).2 7 i)) → GG l (rmK (6, 149)) K x (wT K u r ca (T_plannedCard S c)) 53 [(0, .ref (u 0)), (1, .int (iI c)), (2, .int (iI i)), (3, .ref (ca c.toNat 0))] [.int (iI m53)] := by
        intro m53 e_m53
        exact gx_iret hR (congrArg Prod.fst ((show T_turning S c i = (m53, (T_plannedCard S c)) from (if_neg hc5).trans ((if_neg hc21).trans (congrArg (fun z0 => T_turning_m53 S c z0) e_m53.symm))))) (ret2 (fun z => (wT K u r ca z)) ((show T_turning S c i = (m53, (T_plannedCard S c)) from (if_neg hc5).trans ((if_neg hc21).trans (congrArg (fun z0 => T_turning_m53 S c z0) e_m53.symm))))) dX2_turning_53
      refine gx_icmp_ne (tgt := 47) X dX2_turning_39 (by decide) (by omega) (fun hc39 => ?_) (fun hc39 => ?_)
      · refine gx_aload_n X dX2_turning_47 rfl 0 rfl ?_
        refine gT_cr7 X (by omega) dX2_turning_48 ?_
        refine gx_iload_n X dX2_turning_51 rfl 3 rfl ?_
        refine gT_cl7 (v := (((T_plannedCard S c).2.2.2 c).2 7 i)) X (by omega) (by omega) rfl dX2_turning_52 ?_
        have hr52 := InvC_a7 (InvTC_c hv29.1 c) i
        refine gx_sub [1, 2, 3, 0] rfl ?_
        exact J53 (((T_plannedCard S c).2.2.2 c).2 7 i) ((if_neg hc39).symm) 
      · refine gx_bipush (z := (-99)) X dX2_turning_42 (by decide) ?_
        refine gx_goto (tgt := 53) X dX2_turning_44 (by decide) ?_
        refine gx_sub [1, 2, 3, 0] rfl ?_
        exact J53 (-99) ((if_pos hc39).symm) 
    · refine gx_bipush (z := (-2)) X dX2_turning_24 (by decide) ?_
      exact gx_iret hR (congrArg Prod.fst ((show T_turning S c i = ((-2), S) from (if_neg hc5).trans (if_pos hc21)))) (ret2 (fun z => (wT K u r ca z)) ((show T_turning S c i = ((-2), S) from (if_neg hc5).trans (if_pos hc21)))) dX2_turning_26
  · refine gx_iconst (z := (-1)) X dX2_turning_8 rfl ?_
    exact gx_iret hR (congrArg Prod.fst ((show T_turning S c i = ((-1), S) from if_pos hc5))) (ret2 (fun z => (wT K u r ca z)) ((show T_turning S c i = ((-1), S) from if_pos hc5))) dX2_turning_9
def T_behind_m37 (S : TS) (c : Int) (m37 : Int) : Int × TS := (m37, (T_plannedCard S c))
def T_behind (S : TS) (c : Int) : Int × TS := if (T_isCard S c) = 0 then ((-1), S) else T_behind_m37 S c (if (((T_plannedCard S c).2.2.2 c).1 4) = (-99) then (-99) else ((((T_plannedCard S c).2.2.2 c).1 5) + 100))
set_option maxRecDepth 100000 in
theorem c_T_behind {l : Launch} {K : KK} {N : Int} (u r : Nat → Nat) (ca : Nat → Nat → Nat) (S : TS) (c : Int) (hI : InvTC N S) (hT : InvTCT S) (hp2 : ok32 c) : CtI l yX2_behind cX2_behind 3 .int (6, 149) K [.ref (u 0), .int (iI c)] (wT K u r ca S) (T_behind S c).1 (wT K u r ca ((T_behind S c).2)) := by
  refine ctI_of (by decide) (Nat.le_of_ble_eq_true rfl) rfl ?_
  intro x X hD hR
  have hD : ∀ S9 : TS, va_D (cx_A x) (wT K u r ca S9) := fun S9 => va_D_same hD rfl
  have hs0 := InvTC_s0 hI
  have hs1 := InvTC_s1 hI
  have hs2 := InvTC_s2 hI
  have hs3 := InvTC_s3 hI
  refine gx_aload_n X dX2_behind_0 rfl 0 rfl ?_
  refine gx_iload_n X dX2_behind_1 rfl 1 rfl ?_
  refine gx_callVI (As := [.int (iI c)]) (rest := []) X (hD _) lk_T_39 (ci := 2) rfl rfl 0 rfl (c_T_isCard u r ca S c hI (by omega)) jn_all rfl ⟨by decide, by decide⟩ (Nat.le_of_ble_eq_true rfl) dX2_behind_2 ?_
  have hq2_0 := T_isCard_sp S c
  refine gx_if_ne (tgt := 10) X dX2_behind_5 (by decide) (by omega) (fun hc5 => ?_) (fun hc5 => ?_)
  · refine gx_aload_n X dX2_behind_10 rfl 0 rfl ?_
    refine gx_iload_n X dX2_behind_11 rfl 1 rfl ?_
    refine gx_callVA (As := [.int (iI c)]) (rest := []) X (hD _) lk_T_168 (ci := 2) rfl rfl 0 rfl (c_T_plannedCard u r ca S c hI hT (by omega)) jn_all rfl ⟨by decide, by decide⟩ (Nat.le_of_ble_eq_true rfl) dX2_behind_12 ?_
    have hv12 := T_plannedCard_inv S c hI hT (by omega)
    refine gx_astore_n X dX2_behind_15 rfl (by decide) rfl ?_
    refine gx_aload_n X dX2_behind_16 rfl 0 rfl ?_
    refine gT_cg4 (v := (((T_plannedCard S c).2.2.2 c).1 4)) X (by omega) rfl dX2_behind_17 ?_
    have hg17 := InvC_s4 (InvTC_c hv12.1 c)
    refine gx_bipush (z := (-99)) X dX2_behind_20 (by decide) ?_
    have J37 : ∀ (m37 : Int), m37 = (if (((T_plannedCard S c).2.2.2 c).1 4) = (-99) then (-99) else ((((T_plannedCard S c).2.2.2 c).1 5) + 100)) → GG l (rmK (6, 149)) K x (wT K u r ca (T_plannedCard S c)) 37 [(0, .ref (u 0)), (1, .int (iI c)), (2, .ref (ca c.toNat 0))] [.int (iI m37)] := by
      intro m37 e_m37
      exact gx_iret hR (congrArg Prod.fst ((show T_behind S c = (m37, (T_plannedCard S c)) from (if_neg hc5).trans (congrArg (fun z0 => T_behind_m37 S c z0) e_m37.symm)))) (ret2 (fun z => (wT K u r ca z)) ((show T_behind S c = (m37, (T_plannedCard S c)) from (if_neg hc5).trans (congrArg (fun z0 => T_behind_m37 S c z0) e_m37.symm)))) dX2_behind_37
    refine gx_icmp_ne (tgt := 30) X dX2_behind_22 (by decide) (by omega) (fun hc22 => ?_) (fun hc22 => ?_)
    · refine gx_aload_n X dX2_behind_30 rfl 0 rfl ?_
      refine gT_cg5 (v := (((T_plannedCard S c).2.2.2 c).1 5)) X (by omega) rfl dX2_behind_31 ?_
      refine gx_bipush (z := 100) X dX2_behind_34 (by decide) ?_
      refine gx_iadd X dX2_behind_36 ?_
      refine gx_sub [1, 2, 0] rfl ?_
      exact J37 ((((T_plannedCard S c).2.2.2 c).1 5) + 100) ((if_neg hc22).symm) 
    · refine gx_bipush (z := (-99)) X dX2_behind_25 (by decide) ?_
      refine gx_goto (tgt := 37) X dX2_behind_27 (by decide) ?_
      refine gx_sub [1, 2, 0] rfl ?_
      exact J37 (-99) ((if_pos hc22).symm) 
  · refine gx_iconst (z := (-1)) X dX2_behind_8 rfl ?_
    exact gx_iret hR (congrArg Prod.fst ((show T_behind S c = ((-1), S) from if_pos hc5))) (ret2 (fun z => (wT K u r ca z)) ((show T_behind S c = ((-1), S) from if_pos hc5))) dX2_behind_9
def T_weave_l2 (S : TS) : Nat → Int → TS → (Int × TS) ⊕ (TS)
  | 0, v1, S2 => .inr S2
  | fu + 1, v1, S2 => if (S.1 0) ≤ v1 then .inr S2 else if (((T_plannedCard S2 v1).2.2.2 v1).1 4) = (-99) then .inl ((-99), (T_plannedCard S2 v1)) else T_weave_l2 S fu (v1 + 1) (T_plannedCard S2 v1)
theorem T_weave_l2_s (S : TS) (fu : Nat) (v1 : Int) (S2 : TS) : T_weave_l2 S (fu + 1) v1 S2 = (if (S.1 0) ≤ v1 then .inr S2 else if (((T_plannedCard S2 v1).2.2.2 v1).1 4) = (-99) then .inl ((-99), (T_plannedCard S2 v1)) else T_weave_l2 S fu (v1 + 1) (T_plannedCard S2 v1)) := rfl
def T_weave_l61 (v1 : Int) (S51 : TS) : Nat → Int → TS → TS
  | 0, v2, S61 => S61
  | fu + 1, v2, S61 => if (S51.1 0) ≤ v2 then S61 else T_weave_l61 v1 S51 fu (v2 + 1) (tC S61 v2 (C_turnIn (S61.2.2.2 v2) (S51.1 1) ((S61.2.2.2 v2).2 7 v1)))
theorem T_weave_l61_s (v1 : Int) (S51 : TS) (fu : Nat) (v2 : Int) (S61 : TS) : T_weave_l61 v1 S51 (fu + 1) v2 S61 = (if (S51.1 0) ≤ v2 then S61 else T_weave_l61 v1 S51 fu (v2 + 1) (tC S61 v2 (C_turnIn (S61.2.2.2 v2) (S51.1 1) ((S61.2.2.2 v2).2 7 v1)))) := rfl
def T_weave_l51  : Nat → Int → TS → TS
  | 0, v1, S51 => S51
  | fu + 1, v1, S51 => if (S51.1 2) ≤ v1 then S51 else (fun (z61 : TS) => T_weave_l51  fu (v1 + 1) (tI z61 1 ((S51.1 1) + 1))) (T_weave_l61 v1 S51 (17) 0 S51)
theorem T_weave_l51_s  (fu : Nat) (v1 : Int) (S51 : TS) : T_weave_l51  (fu + 1) v1 S51 = (if (S51.1 2) ≤ v1 then S51 else (fun (z61 : TS) => T_weave_l51  fu (v1 + 1) (tI z61 1 ((S51.1 1) + 1))) (T_weave_l61 v1 S51 (17) 0 S51)) := rfl
def T_weave_r51 (z51 : TS) : Int × TS := ((z51.1 1), z51)
def T_weave_r2 (S : TS) (z2 : TS) : Int × TS := if ((S.1 1) + (S.1 2)) ≤ 60 then (fun z51 => T_weave_r51 z51) (T_weave_l51  (31) 0 z2) else ((-4), z2)
def T_weave (S : TS) : Int × TS := Sum.elim id (fun z2 => T_weave_r2 S z2) (T_weave_l2 S (17) 0 S)
set_option maxRecDepth 100000 in
theorem c_T_weave {l : Launch} {K : KK} {N : Int} (u r : Nat → Nat) (ca : Nat → Nat → Nat) (S : TS) (hI : InvTC N S) (hT : InvTCT S) : CtI l yX2_weave cX2_weave 3 .int (6, 149) K [.ref (u 0)] (wT K u r ca S) (T_weave S).1 (wT K u r ca ((T_weave S).2)) := by
  refine ctI_of (by decide) (Nat.le_of_ble_eq_true rfl) rfl ?_
  intro x X hD hR
  have hD : ∀ S9 : TS, va_D (cx_A x) (wT K u r ca S9) := fun S9 => va_D_same hD rfl
  have hs0 := InvTC_s0 hI
  have hs1 := InvTC_s1 hI
  have hs2 := InvTC_s2 hI
  have hs3 := InvTC_s3 hI
  refine gx_iconst (z := 0) X dX2_weave_0 rfl ?_
  refine gx_istore_n X dX2_weave_1 rfl (by decide) rfl ?_
  have L2 : ∀ (fu : Nat) (v1 : Int) (S2 : TS), (0 ≤ v1) → (v1 ≤ (S.1 0)) → (InvTC N S2) → (InvTCT S2) → (S2.1 = S.1) → ((S.1 0) - v1) < (fu : Int) → (∀ z2 : TS, T_weave_l2 S fu v1 S2 = .inr z2 → (InvTC N z2) ∧ (z2.1 = S.1) → GG l (rmK (6, 149)) K x (wT K u r ca z2) 32 [(0, .ref (u 0))] []) → (∀ zz : Int × TS, T_weave_l2 S fu v1 S2 = .inl zz → T_weave S = zz) → GG l (rmK (6, 149)) K x (wT K u r ca S2) 2 [(0, .ref (u 0)), (1, .int (iI v1))] [] := by
    intro fu
    induction fu with
    | zero => intro v1 S2 hi2_0 hi2_1 hi2_2 hi2_3 hi2_4 hm2 K2 KR2; exact absurd hm2 (by omega)
    | succ fu ih =>
      intro v1 S2 hi2_0 hi2_1 hi2_2 hi2_3 hi2_4 hm2 K2 KR2
      refine gx_iload_n X dX2_weave_2 rfl 1 rfl ?_
      refine gx_aload_n X dX2_weave_3 rfl 0 rfl ?_
      refine gT_g0 (v := (S.1 0)) X (congrFun (hi2_4 ) 0) dX2_weave_4 ?_
      refine gx_icmp_ge (tgt := 32) X dX2_weave_7 (by decide) (by omega) (fun hc7 => ?_) (fun hc7 => ?_)
      · refine gx_sub [0] rfl ?_
        exact K2 S2 ((T_weave_l2_s S fu v1 S2).trans (if_pos hc7)) ⟨hi2_2, (hi2_4 )⟩
      · refine gx_aload_n X dX2_weave_10 rfl 0 rfl ?_
        refine gx_iload_n X dX2_weave_11 rfl 1 rfl ?_
        refine gx_callVA (As := [.int (iI v1)]) (rest := []) X (hD _) lk_T_168 (ci := 2) rfl rfl 0 rfl (c_T_plannedCard u r ca S2 v1 hi2_2 hi2_3 (by omega)) jn_all rfl ⟨by decide, by decide⟩ (Nat.le_of_ble_eq_true rfl) dX2_weave_12 ?_
        have hv12 := T_plannedCard_inv S2 v1 hi2_2 hi2_3 (by omega)
        refine gT_cg4 (v := (((T_plannedCard S2 v1).2.2.2 v1).1 4)) X (by omega) rfl dX2_weave_15 ?_
        have hg15 := InvC_s4 (InvTC_c hv12.1 v1)
        refine gx_bipush (z := (-99)) X dX2_weave_18 (by decide) ?_
        refine gx_icmp_ne (tgt := 26) X dX2_weave_20 (by decide) (by omega) (fun hc20 => ?_) (fun hc20 => ?_)
        · refine gx_iinc X dX2_weave_26 1 rfl (by decide) rfl ?_
          refine gx_goto (tgt := 2) X dX2_weave_29 (by decide) ?_
          refine gx_sub [1, 0] rfl ?_
          exact ih (v1 + 1) (T_plannedCard S2 v1) (by omega) (by omega) hv12.1 hv12.2 (((T_plannedCard_sc _ _)).trans (hi2_4 )) (by omega) (fun z e hx => K2 z ((T_weave_l2_s S fu v1 S2).trans (((if_neg hc7).trans (if_neg hc20)).trans e)) hx) (fun z e => KR2 z ((T_weave_l2_s S fu v1 S2).trans (((if_neg hc7).trans (if_neg hc20)).trans e)))
        · refine gx_bipush (z := (-99)) X dX2_weave_23 (by decide) ?_
          exact gx_iret hR (congrArg Prod.fst ((show T_weave S = ((-99), (T_plannedCard S2 v1)) from KR2 ((-99), (T_plannedCard S2 v1)) ((T_weave_l2_s S fu v1 S2).trans ((if_neg hc7).trans (if_pos hc20)))))) (ret2 (fun z => (wT K u r ca z)) ((show T_weave S = ((-99), (T_plannedCard S2 v1)) from KR2 ((-99), (T_plannedCard S2 v1)) ((T_weave_l2_s S fu v1 S2).trans ((if_neg hc7).trans (if_pos hc20)))))) dX2_weave_25
  refine gx_sub [1, 0] rfl ?_
  refine L2 (17) 0 S (by omega) (by omega) hI hT rfl (by omega) (fun z2 e2 hx2 => ?_) (fun z e => congrArg (Sum.elim id (fun z2 => T_weave_r2 S z2)) e)
  refine gx_aload_n X dX2_weave_32 rfl 0 rfl ?_
  refine gT_g1 (v := (S.1 1)) X (congrFun (hx2.2 ) 1) dX2_weave_33 ?_
  refine gx_aload_n X dX2_weave_36 rfl 0 rfl ?_
  refine gT_g2 (v := (S.1 2)) X (congrFun (hx2.2 ) 2) dX2_weave_37 ?_
  refine gx_iadd X dX2_weave_40 ?_
  refine gx_bipush (z := 60) X dX2_weave_41 (by decide) ?_
  refine gx_icmp_le (tgt := 49) X dX2_weave_43 (by decide) (by omega) (fun hc43 => ?_) (fun hc43 => ?_)
  · refine gx_iconst (z := 0) X dX2_weave_49 rfl ?_
    refine gx_istore_n X dX2_weave_50 rfl (by decide) rfl ?_
    have L51 : ∀ (fu : Nat) (v1 : Int) (S51 : TS), (0 ≤ v1) → (v1 ≤ (S.1 2)) → (InvTC N S51) → ((S51.1 0 = (S.1 0) ∧ S51.1 2 = (S.1 2)) ∧ S51.1 1 = (S.1 1) + v1) → ((S.1 2) - v1) < (fu : Int) → (∀ z51 : TS, T_weave_l51  fu v1 S51 = z51 → (z51.1 2 = z51.1 2) → GG l (rmK (6, 149)) K x (wT K u r ca z51) 115 [(0, .ref (u 0))] []) → GG l (rmK (6, 149)) K x (wT K u r ca S51) 51 [(0, .ref (u 0)), (1, .int (iI v1))] [] := by
      intro fu
      induction fu with
      | zero => intro v1 S51 hi51_0 hi51_1 hi51_2 hi51_3 hm51 K51; exact absurd hm51 (by omega)
      | succ fu ih =>
        intro v1 S51 hi51_0 hi51_1 hi51_2 hi51_3 hm51 K51
        refine gx_iload_n X dX2_weave_51 rfl 1 rfl ?_
        refine gx_aload_n X dX2_weave_52 rfl 0 rfl ?_
        refine gT_g2 (v := (S51.1 2)) X rfl dX2_weave_53 ?_
        have hg53 := InvTC_s2 hi51_2
        refine gx_icmp_ge (tgt := 115) X dX2_weave_56 (by decide) (by omega) (fun hc56 => ?_) (fun hc56 => ?_)
        · refine gx_sub [0] rfl ?_
          exact K51 S51 ((T_weave_l51_s  fu v1 S51).trans (if_pos hc56)) (rfl)
        · refine gx_iconst (z := 0) X dX2_weave_59 rfl ?_
          refine gx_istore_n X dX2_weave_60 rfl (by decide) rfl ?_
          have L61 : ∀ (fu : Nat) (v2 : Int) (S61 : TS), (0 ≤ v2) → (v2 ≤ (S.1 0)) → (InvTC N S61) → (S61.1 = S51.1) → ((S.1 0) - v2) < (fu : Int) → (∀ z61 : TS, T_weave_l61 v1 S51 fu v2 S61 = z61 → (InvTC N z61) ∧ (z61.1 = S51.1) → GG l (rmK (6, 149)) K x (wT K u r ca z61) 99 [(0, .ref (u 0)), (1, .int (iI v1))] []) → GG l (rmK (6, 149)) K x (wT K u r ca S61) 61 [(0, .ref (u 0)), (1, .int (iI v1)), (2, .int (iI v2))] [] := by
            intro fu
            induction fu with
            | zero => intro v2 S61 hi61_0 hi61_1 hi61_2 hi61_3 hm61 K61; exact absurd hm61 (by omega)
            | succ fu ih =>
              intro v2 S61 hi61_0 hi61_1 hi61_2 hi61_3 hm61 K61
              refine gx_iload_n X dX2_weave_61 rfl 2 rfl ?_
              refine gx_aload_n X dX2_weave_62 rfl 0 rfl ?_
              refine gT_g0 (v := (S51.1 0)) X (congrFun (hi61_3 ) 0) dX2_weave_63 ?_
              have hg63 := InvTC_s0 hi51_2
              refine gx_icmp_ge (tgt := 99) X dX2_weave_66 (by decide) (by omega) (fun hc66 => ?_) (fun hc66 => ?_)
              · refine gx_sub [0, 1] rfl ?_
                exact K61 S61 ((T_weave_l61_s v1 S51 fu v2 S61).trans (if_pos hc66)) ⟨hi61_2, (hi61_3 )⟩
              · have hkp := congrFun hi61_3 1
                refine gx_aload_n X dX2_weave_69 rfl 0 rfl ?_
                refine gT_band X dX2_weave_70 ?_
                refine gx_iload_n X dX2_weave_73 rfl 2 rfl ?_
                refine gT_card X (by omega) dX2_weave_74 ?_
                refine gx_aload_n X dX2_weave_75 rfl 0 rfl ?_
                refine gT_g1 (v := (S51.1 1)) X (congrFun (hi61_3 ) 1) dX2_weave_76 ?_
                have hg76 := InvTC_s1 hi51_2
                refine gx_aload_n X dX2_weave_79 rfl 0 rfl ?_
                refine gT_band X dX2_weave_80 ?_
                refine gx_iload_n X dX2_weave_83 rfl 2 rfl ?_
                refine gT_card X (by omega) dX2_weave_84 ?_
                refine gT_cr7 X (by omega) dX2_weave_85 ?_
                refine gx_iload_n X dX2_weave_88 rfl 1 rfl ?_
                refine gT_cl7 (v := ((S61.2.2.2 v2).2 7 v1)) X (by omega) (by omega) rfl dX2_weave_89 ?_
                have hr89 := InvC_a7 (InvTC_c hi61_2 v2) v1
                refine gx_callVV (As := [.int (iI (S51.1 1)), .int (iI ((S61.2.2.2 v2).2 7 v1))]) (rest := []) X (hD _) lk_T_88 (ci := 0) rfl rfl 0 rfl (c_C_turnIn (ca v2.toNat) (S61.2.2.2 v2) (S51.1 1) ((S61.2.2.2 v2).2 7 v1) (show 0 ≤ (S61.2.2.2 v2).1 0 ∧ (S61.2.2.2 v2).1 0 ≤ 1 from InvC_s0 (InvTC_c hi61_2 v2)) (by omega) (by omega)) (jn_cd K u r ca S61 (by omega) _ rfl (hD _)) rfl ⟨by decide, by decide⟩ (Nat.le_of_ble_eq_true rfl) dX2_weave_90 ?_
                refine gx_iinc X dX2_weave_93 2 rfl (by decide) rfl ?_
                refine gx_goto (tgt := 61) X dX2_weave_96 (by decide) ?_
                refine gx_sub [1, 2, 0] rfl ?_
                exact ih (v2 + 1) (tC S61 v2 (C_turnIn (S61.2.2.2 v2) (S51.1 1) ((S61.2.2.2 v2).2 7 v1))) (by omega) (by omega) (hi61_2.tC (C_turnIn_inv (InvTC_c hi61_2 _) (by omega))) (hi61_3 ) (by omega) (fun z e hx => K61 z ((T_weave_l61_s v1 S51 fu v2 S61).trans ((if_neg hc66).trans e)) hx)
          refine gx_sub [1, 2, 0] rfl ?_
          refine L61 (17) 0 S51 (by omega) (by omega) hi51_2 rfl (by omega) (fun z61 e61 hx61 => ?_)
          refine gx_aload_n X dX2_weave_99 rfl 0 rfl ?_
          refine gx_dup X dX2_weave_100 rfl ?_
          refine gT_g1 (v := (S51.1 1)) X (congrFun (hx61.2 ) 1) dX2_weave_101 ?_
          have hg101 := InvTC_s1 hi51_2
          refine gx_iconst (z := 1) X dX2_weave_104 rfl ?_
          refine gx_iadd X dX2_weave_105 ?_
          refine gT_p1 X (hD _) dX2_weave_106 ?_
          refine gx_iinc X dX2_weave_109 1 rfl (by decide) rfl ?_
          refine gx_goto (tgt := 51) X dX2_weave_112 (by decide) ?_
          refine gx_sub [1, 0] rfl ?_
          subst e61
          exact ih _ _ (by omega) (by omega) (InvTC.tI1 hx61.1 (by have e2 := congrFun hx61.2 1; omega)) (by have e1 := congrFun hx61.2 0; have e2 := congrFun hx61.2 1; have e3 := congrFun hx61.2 2; refine ⟨⟨e1.trans hi51_3.1.1, e3.trans hi51_3.1.2⟩, ?_⟩; show S51.1 1 + 1 = _; omega) (by omega) (fun z e hx => K51 z ((T_weave_l51_s  fu v1 S51).trans ((if_neg hc56).trans e)) hx)
    refine gx_sub [1, 0] rfl ?_
    refine L51 (31) 0 z2 (by omega) (by omega) hx2.1 (by have e1 := congrFun hx2.2 0; have e2 := congrFun hx2.2 1; have e3 := congrFun hx2.2 2; omega) (by omega) (fun z51 e51 hx51 => ?_)
    refine gx_aload_n X dX2_weave_115 rfl 0 rfl ?_
    refine gT_g1 (v := (z51.1 1)) X rfl dX2_weave_116 ?_
    exact gx_iret hR (congrArg Prod.fst ((show T_weave S = ((z51.1 1), z51) from (congrArg (Sum.elim id (fun z2 => T_weave_r2 S z2)) e2).trans ((if_pos hc43).trans (congrArg (fun z51 => T_weave_r51 z51) e51))))) (ret2 (fun z => (wT K u r ca z)) ((show T_weave S = ((z51.1 1), z51) from (congrArg (Sum.elim id (fun z2 => T_weave_r2 S z2)) e2).trans ((if_pos hc43).trans (congrArg (fun z51 => T_weave_r51 z51) e51))))) dX2_weave_119
  · refine gx_bipush (z := (-4)) X dX2_weave_46 (by decide) ?_
    exact gx_iret hR (congrArg Prod.fst ((show T_weave S = ((-4), z2) from (congrArg (Sum.elim id (fun z2 => T_weave_r2 S z2)) e2).trans (if_neg hc43)))) (ret2 (fun z => (wT K u r ca z)) ((show T_weave S = ((-4), z2) from (congrArg (Sum.elim id (fun z2 => T_weave_r2 S z2)) e2).trans (if_neg hc43)))) dX2_weave_48
def T_wrongs (S : TS) (c : Int) : Int × TS := if (T_isCard S c) = 0 then ((-1), S) else if ((S.2.2.2 c).1 3) ≤ 0 then ((T_listWrongTurns S c).1, (T_listWrongTurns S c).2) else ((-3), S)
set_option maxRecDepth 100000 in
theorem c_T_wrongs {l : Launch} {K : KK} {N : Int} (u r : Nat → Nat) (ca : Nat → Nat → Nat) (S : TS) (c : Int) (hI : InvTC N S) (hp1 : ok32 c) : CtI l yX2_wrongs cX2_wrongs 2 .int (3, 74) K [.ref (u 0), .int (iI c)] (wT K u r ca S) (T_wrongs S c).1 (wT K u r ca ((T_wrongs S c).2)) := by
  refine ctI_of (by decide) (Nat.le_of_ble_eq_true rfl) rfl ?_
  intro x X hD hR
  have hD : ∀ S9 : TS, va_D (cx_A x) (wT K u r ca S9) := fun S9 => va_D_same hD rfl
  have hs0 := InvTC_s0 hI
  have hs1 := InvTC_s1 hI
  have hs2 := InvTC_s2 hI
  have hs3 := InvTC_s3 hI
  refine gx_aload_n X dX2_wrongs_0 rfl 0 rfl ?_
  refine gx_iload_n X dX2_wrongs_1 rfl 1 rfl ?_
  refine gx_callVI (As := [.int (iI c)]) (rest := []) X (hD _) lk_T_39 (ci := 2) rfl rfl 0 rfl (c_T_isCard u r ca S c hI (by omega)) jn_all rfl ⟨by decide, by decide⟩ (Nat.le_of_ble_eq_true rfl) dX2_wrongs_2 ?_
  have hq2_0 := T_isCard_sp S c
  refine gx_if_ne (tgt := 10) X dX2_wrongs_5 (by decide) (by omega) (fun hc5 => ?_) (fun hc5 => ?_)
  · refine gx_aload_n X dX2_wrongs_10 rfl 0 rfl ?_
    refine gT_band X dX2_wrongs_11 ?_
    refine gx_iload_n X dX2_wrongs_14 rfl 1 rfl ?_
    refine gT_card X (by omega) dX2_wrongs_15 ?_
    refine gT_cg3 (v := ((S.2.2.2 c).1 3)) X (by omega) rfl dX2_wrongs_16 ?_
    have hg16 := InvC_s3 (InvTC_c hI c)
    refine gx_if_le (tgt := 25) X dX2_wrongs_19 (by decide) (by omega) (fun hc19 => ?_) (fun hc19 => ?_)
    · refine gx_aload_n X dX2_wrongs_25 rfl 0 rfl ?_
      refine gx_aload_n X dX2_wrongs_26 rfl 0 rfl ?_
      refine gT_band X dX2_wrongs_27 ?_
      refine gx_iload_n X dX2_wrongs_30 rfl 1 rfl ?_
      refine gT_card X (by omega) dX2_wrongs_31 ?_
      refine gx_callVI (As := [.ref (ca c.toNat 0)]) (rest := []) X (hD _) lk_T_187 (ci := 2) rfl rfl 0 rfl (c_T_listWrongTurns u r ca S c hI (by omega)) jn_all rfl ⟨by decide, by decide⟩ (Nat.le_of_ble_eq_true rfl) dX2_wrongs_32 ?_
      have hp32_0 := T_listWrongTurns_rg S c hI (by omega)
      exact gx_iret hR (congrArg Prod.fst ((show T_wrongs S c = ((T_listWrongTurns S c).1, (T_listWrongTurns S c).2) from (if_neg hc5).trans (if_pos hc19)))) (ret2 (fun z => (wT K u r ca z)) ((show T_wrongs S c = ((T_listWrongTurns S c).1, (T_listWrongTurns S c).2) from (if_neg hc5).trans (if_pos hc19)))) dX2_wrongs_35
    · refine gx_bipush (z := (-3)) X dX2_wrongs_22 (by decide) ?_
      exact gx_iret hR (congrArg Prod.fst ((show T_wrongs S c = ((-3), S) from (if_neg hc5).trans (if_neg hc19)))) (ret2 (fun z => (wT K u r ca z)) ((show T_wrongs S c = ((-3), S) from (if_neg hc5).trans (if_neg hc19)))) dX2_wrongs_24
  · refine gx_iconst (z := (-1)) X dX2_wrongs_8 rfl ?_
    exact gx_iret hR (congrArg Prod.fst ((show T_wrongs S c = ((-1), S) from if_pos hc5))) (ret2 (fun z => (wT K u r ca z)) ((show T_wrongs S c = ((-1), S) from if_pos hc5))) dX2_wrongs_9
def T_wrong_m58 (S : TS) (c : Int) (m58 : Int) : Int × TS := (m58, (T_listWrongTurns S c).2)
def T_wrong (S : TS) (c : Int) (i : Int) : Int × TS := if (T_isCard S c) = 0 then ((-1), S) else if ((S.2.2.2 c).1 3) ≤ 0 then T_wrong_m58 S c (if (T_within i 0 (((T_listWrongTurns S c).1) - 1)) = 0 then (-99) else ((T_listWrongTurns S c).2.2.1 i)) else ((-3), S)
set_option maxRecDepth 100000 in
theorem c_T_wrong {l : Launch} {K : KK} {N : Int} (u r : Nat → Nat) (ca : Nat → Nat → Nat) (S : TS) (c : Int) (i : Int) (hI : InvTC N S) (hp1 : ok32 c) (hp2 : ok32 i) : CtI l yX2_wrong cX2_wrong 4 .int (3, 74) K [.ref (u 0), .int (iI c), .int (iI i)] (wT K u r ca S) (T_wrong S c i).1 (wT K u r ca ((T_wrong S c i).2)) := by
  refine ctI_of (by decide) (Nat.le_of_ble_eq_true rfl) rfl ?_
  intro x X hD hR
  have hD : ∀ S9 : TS, va_D (cx_A x) (wT K u r ca S9) := fun S9 => va_D_same hD rfl
  have hs0 := InvTC_s0 hI
  have hs1 := InvTC_s1 hI
  have hs2 := InvTC_s2 hI
  have hs3 := InvTC_s3 hI
  refine gx_aload_n X dX2_wrong_0 rfl 0 rfl ?_
  refine gx_iload_n X dX2_wrong_1 rfl 1 rfl ?_
  refine gx_callVI (As := [.int (iI c)]) (rest := []) X (hD _) lk_T_39 (ci := 2) rfl rfl 0 rfl (c_T_isCard u r ca S c hI (by omega)) jn_all rfl ⟨by decide, by decide⟩ (Nat.le_of_ble_eq_true rfl) dX2_wrong_2 ?_
  have hq2_0 := T_isCard_sp S c
  refine gx_if_ne (tgt := 10) X dX2_wrong_5 (by decide) (by omega) (fun hc5 => ?_) (fun hc5 => ?_)
  · refine gx_aload_n X dX2_wrong_10 rfl 0 rfl ?_
    refine gT_band X dX2_wrong_11 ?_
    refine gx_iload_n X dX2_wrong_14 rfl 1 rfl ?_
    refine gT_card X (by omega) dX2_wrong_15 ?_
    refine gT_cg3 (v := ((S.2.2.2 c).1 3)) X (by omega) rfl dX2_wrong_16 ?_
    have hg16 := InvC_s3 (InvTC_c hI c)
    refine gx_if_le (tgt := 25) X dX2_wrong_19 (by decide) (by omega) (fun hc19 => ?_) (fun hc19 => ?_)
    · refine gx_aload_n X dX2_wrong_25 rfl 0 rfl ?_
      refine gx_aload_n X dX2_wrong_26 rfl 0 rfl ?_
      refine gT_band X dX2_wrong_27 ?_
      refine gx_iload_n X dX2_wrong_30 rfl 1 rfl ?_
      refine gT_card X (by omega) dX2_wrong_31 ?_
      refine gx_callVI (As := [.ref (ca c.toNat 0)]) (rest := []) X (hD _) lk_T_187 (ci := 2) rfl rfl 0 rfl (c_T_listWrongTurns u r ca S c hI (by omega)) jn_all rfl ⟨by decide, by decide⟩ (Nat.le_of_ble_eq_true rfl) dX2_wrong_32 ?_
      have hp32_0 := T_listWrongTurns_rg S c hI (by omega)
      refine gx_istore_n X dX2_wrong_35 rfl (by decide) rfl ?_
      refine gx_iload_n X dX2_wrong_36 rfl 3 rfl ?_
      refine gx_iconst (z := 0) X dX2_wrong_37 rfl ?_
      refine gx_iload_n X dX2_wrong_38 rfl 0 rfl ?_
      refine gx_iconst (z := 1) X dX2_wrong_39 rfl ?_
      refine gx_isub X dX2_wrong_40 ?_
      refine gx_callSI (As := [.int (iI i), .int (iI 0), .int (iI (((T_listWrongTurns S c).1) - 1))]) (rest := []) X (hD _) lk_T_31 (c_T_within i 0 (((T_listWrongTurns S c).1) - 1) (by omega) (by omega) (by omega)) jn_nil rfl ⟨by decide, by decide⟩ (Nat.le_of_ble_eq_true rfl) dX2_wrong_41 ?_
      have hq41_0 := T_within_sp i 0 (((T_listWrongTurns S c).1) - 1)
      have J58 : ∀ (m58 : Int), m58 = (if (T_within i 0 (((T_listWrongTurns S c).1) - 1)) = 0 then (-99) else ((T_listWrongTurns S c).2.2.1 i)) → GG l (rmK (3, 74)) K x (wT K u r ca ((T_listWrongTurns S c).2)) 58 [(0, .ref (u 0)), (1, .int (iI c)), (2, .int (iI i)), (3, .int (iI (T_listWrongTurns S c).1))] [.int (iI m58)] := by
        intro m58 e_m58
        exact gx_iret hR (congrArg Prod.fst ((show T_wrong S c i = (m58, (T_listWrongTurns S c).2) from (if_neg hc5).trans ((if_pos hc19).trans (congrArg (fun z0 => T_wrong_m58 S c z0) e_m58.symm))))) (ret2 (fun z => (wT K u r ca z)) ((show T_wrong S c i = (m58, (T_listWrongTurns S c).2) from (if_neg hc5).trans ((if_pos hc19).trans (congrArg (fun z0 => T_wrong_m58 S c z0) e_m58.symm))))) dX2_wrong_58
      refine gx_if_eq (tgt := 56) X dX2_wrong_44 (by decide) (by omega) (fun hc44 => ?_) (fun hc44 => ?_)
      · refine gx_bipush (z := (-99)) X dX2_wrong_56 (by decide) ?_
        refine gx_sub [1, 2, 3, 0] rfl ?_
        exact J58 (-99) ((if_pos hc44).symm) 
      · refine gx_aload_n X dX2_wrong_47 rfl 1 rfl ?_
        refine gT_wrongTurns X dX2_wrong_48 ?_
        refine gx_iload_n X dX2_wrong_51 rfl 3 rfl ?_
        refine gT_lW (v := ((T_listWrongTurns S c).2.2.1 i)) X (by omega) rfl dX2_wrong_52 ?_
        refine gx_goto (tgt := 58) X dX2_wrong_53 (by decide) ?_
        refine gx_sub [1, 2, 3, 0] rfl ?_
        exact J58 ((T_listWrongTurns S c).2.2.1 i) ((if_neg hc44).symm) 
    · refine gx_bipush (z := (-3)) X dX2_wrong_22 (by decide) ?_
      exact gx_iret hR (congrArg Prod.fst ((show T_wrong S c i = ((-3), S) from (if_neg hc5).trans (if_neg hc19)))) (ret2 (fun z => (wT K u r ca z)) ((show T_wrong S c i = ((-3), S) from (if_neg hc5).trans (if_neg hc19)))) dX2_wrong_24
  · refine gx_iconst (z := (-1)) X dX2_wrong_8 rfl ?_
    exact gx_iret hR (congrArg Prod.fst ((show T_wrong S c i = ((-1), S) from if_pos hc5))) (ret2 (fun z => (wT K u r ca z)) ((show T_wrong S c i = ((-1), S) from if_pos hc5))) dX2_wrong_9
