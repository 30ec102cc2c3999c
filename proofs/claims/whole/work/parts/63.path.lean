/-! the planner's way, row by row -/
def Clk (Y X : Sta) : Prop := Y.1 0 = X.1 0 ∧ Y.1 2 = X.1 2 ∧ Y.2 0 = X.2 0 ∧ Y.2 1 = X.2 1 ∧ Y.2 6 = X.2 6
theorem Clk.fits {Y X : Sta} (h : Clk Y X) (r t : Int) : C_fits Y r t = C_fits X r t := by
  unfold C_fits
  rw [h.2.2.2.1, h.2.2.2.2]
theorem Clk.after {Y X : Sta} (h : Clk Y X) (t p : Int) : C_threadAfter Y t p = C_threadAfter X t p := by
  unfold C_threadAfter
  rw [h.2.2.1]
theorem turn_iff {X : Sta} {f h : Int} (hw : 0 ≤ X.1 0 ∧ X.1 0 ≤ 1) (hx : -60 ≤ X.1 2 ∧ X.1 2 ≤ 60) (hf : 0 ≤ f ∧ f ≤ 9) (hh : 1 ≤ h ∧ h ≤ 30) {S : PS} {k : Nat} {r t sh n u F L d : Int} (hr : r + ((k : Int) + 1) = h) (r0 : 0 ≤ r) (tab : ∀ r', 0 ≤ r' → r' ≤ h → RowOK X f (h - r').toNat r' S.1.2.1 S.1.2.2) (hu : -r ≤ u ∧ u ≤ r) (hF : 0 ≤ F ∧ F ≤ 30) (hL : 0 ≤ L ∧ L < 1000) (hb : BF X f (k + 1) r t sh n u = 1000 * F + L) (hW : ∀ m, Rp X f (k + 1) r t sh n F m → (bL (S.1.1.2 1) (30 + m).toNat = true ↔ dv X u m = L)) (hd : d = 0 ∨ d = 1) : (((S.1.2.1 (P_index (r + 1) (P_roundFrom t d) d 0) = F ∧ ¬ zcr ((S.1.2.2 (P_index (r + 1) (P_roundFrom t d) d 0)) &&& (P_wantedBehind S d)) (lI 0) = 0) ∧ ¬ C_fits X r (C_threadAfter X (P_roundFrom t d) d) = 0) ↔ byF X f (BF X f k) r t sh n u d = BF X f (k + 1) r t sh n u) ∧ (byF X f (BF X f k) r t sh n u d = BF X f (k + 1) r t sh n u → ¬ C_fits X r (C_threadAfter X (P_roundFrom t d) d) = 0 ∧ S.1.2.1 (P_index (r + 1) (P_roundFrom t d) d 0) = F ∧ BF X f k (r + 1) (P_roundFrom t d) (C_threadAfter X (P_roundFrom t d) d) 0 (u + (if d = X.1 0 then 1 else -1)) = 1000 * F + L ∧ (∀ m, Rp X f k (r + 1) (P_roundFrom t d) (C_threadAfter X (P_roundFrom t d) d) 0 F m → (bL (P_wantedBehind S d) (30 + m).toNat = true ↔ dv X (u + (if d = X.1 0 then 1 else -1)) m = L))) := by
  have nd : ¬ d = 2 := by rcases hd with rfl | rfl <;> decide
  have rr := P_roundFrom_rg t d
  have nx := tab (r + 1) (by omega) (by omega) (P_roundFrom t d) d 0 rr (by omega) ⟨by decide, hf.1⟩
  rw [show (h - (r + 1)).toNat = k by omega] at nx
  have ms : (if d = X.1 0 then (1 : Int) else -1) = 1 ∨ (if d = X.1 0 then (1 : Int) else -1) = -1 := by
    split
    · exact Or.inl rfl
    · exact Or.inr rfl
  have hu2 : -400 + (k : Int) ≤ X.1 2 + (u + (if d = X.1 0 then 1 else -1)) ∧ X.1 2 + (u + (if d = X.1 0 then 1 else -1)) ≤ 400 - (k : Int) := by
    rcases ms with q | q <;> rw [q] <;> omega
  have ls := least_sp hw (k := k) (by omega) hu2 nx
  have bl := BF_le X f k r t sh n u
  have bR := (BF_Rp (f := f) hw k (r + 1) (P_roundFrom t d) (C_threadAfter X (P_roundFrom t d) d) 0 (u + (if d = X.1 0 then 1 else -1)) (by omega) hu2).2
  have bd : BF X f (k + 1) r t sh n u ≤ byF X f (BF X f k) r t sh n u d := by
    rcases hd with rfl | rfl
    · exact bl.1
    · exact bl.2.1
  have wb : ∀ m, -29 ≤ m → m ≤ 29 → bL (P_wantedBehind S d) (30 + m).toNat = bL (S.1.1.2 1) (30 + (m + (if d = 0 then 1 else -1))).toNat := by
    intro m q1 q2
    unfold P_wantedBehind
    rcases hd with rfl | rfl
    · rw [if_pos rfl, if_pos rfl, bL_ushr, show (30 + m).toNat + 1 = (30 + (m + 1)).toNat by omega]
    · rw [if_neg (by decide), if_neg (by decide), bL_shl _ _ (by omega), decide_eq_true (show 1 ≤ (30 + m).toNat by omega), Bool.true_and, show (30 + m).toNat - 1 = (30 + (m + -1)).toNat by omega]
  have bwd : byF X f (BF X f k) r t sh n u d = BF X f (k + 1) r t sh n u → ¬ C_fits X r (C_threadAfter X (P_roundFrom t d) d) = 0 ∧ S.1.2.1 (P_index (r + 1) (P_roundFrom t d) d 0) = F ∧ BF X f k (r + 1) (P_roundFrom t d) (C_threadAfter X (P_roundFrom t d) d) 0 (u + (if d = X.1 0 then 1 else -1)) = 1000 * F + L ∧ (∀ m, Rp X f k (r + 1) (P_roundFrom t d) (C_threadAfter X (P_roundFrom t d) d) 0 F m → (bL (P_wantedBehind S d) (30 + m).toNat = true ↔ dv X (u + (if d = X.1 0 then 1 else -1)) m = L)) := by
    intro e
    rw [byF_t nd, hb] at e
    by_cases c : C_fits X r (C_threadAfter X (P_roundFrom t d) d) = 0
    · rw [if_pos c] at e
      omega
    · rw [if_neg c] at e
      rcases ls with ⟨l1, l2⟩ | ⟨l1, L', l2, l3, l4, l5⟩
      · omega
      · refine ⟨c, by omega, e, fun m q => ?_⟩
        have rg := Rp_rg _ _ _ _ _ _ _ _ _ q
        rw [wb m (by omega) (by omega), dv_step hw hd]
        exact hW _ (Rp_turn hd c q)
  refine ⟨⟨?_, fun e => ?_⟩, bwd⟩
  · rintro ⟨⟨c1, c2⟩, c3⟩
    rw [c1] at nx
    rcases nx with ⟨n1, -⟩ | ⟨n1, n2, n3, n4⟩
    · omega
    · have ex : ∃ j : Nat, j < 64 ∧ bL (S.1.2.2 (P_index (r + 1) (P_roundFrom t d) d 0)) j = true ∧ bL (P_wantedBehind S d) j = true := by
        by_cases q : ∃ j : Nat, j < 64 ∧ bL (S.1.2.2 (P_index (r + 1) (P_roundFrom t d) d 0)) j = true ∧ bL (P_wantedBehind S d) j = true
        · exact q
        · refine absurd ((zcr_zero _).mpr (fun j hj => ?_)) c2
          rw [bL_and]
          cases x : bL (S.1.2.2 (P_index (r + 1) (P_roundFrom t d) d 0)) j with
          | false => rfl
          | true =>
            cases y : bL (P_wantedBehind S d) j with
            | false => rfl
            | true => exact absurd ⟨j, hj, x, y⟩ q
      obtain ⟨j, hj, x, y⟩ := ex
      have q := (n4 j hj).mp x
      have rg := Rp_rg _ _ _ _ _ _ _ _ _ q
      have y2 := wb ((j : Int) - 30) (by omega) (by omega)
      rw [show (30 + ((j : Int) - 30)).toNat = j by omega, y] at y2
      have z := (hW _ (Rp_turn (n := n) hd c3 q)).mp y2.symm
      have z2 := bR F _ q
      rw [dv_step hw hd, z] at z2
      rw [byF_t nd, if_neg c3] at bd ⊢
      omega
  · obtain ⟨c1, c2, c3, c4⟩ := bwd e
    refine ⟨⟨c2, fun z => ?_⟩, c1⟩
    rcases ls with ⟨l1, l2⟩ | ⟨l1, L', l2, l3, ⟨m, l4, l5⟩, l6⟩
    · omega
    · rw [c2] at l4 l3 nx
      have eL : L' = L := by omega
      have rg := Rp_rg _ _ _ _ _ _ _ _ _ l4
      have x := (zcr_zero _).mp z (30 + m).toNat (by omega)
      rw [bL_and, (c4 m l4).mpr (by rw [l5, eL]), Bool.and_true] at x
      rcases nx with ⟨n1, n2⟩ | ⟨n1, n2, n3, n4⟩
      · exact absurd l4 (n2 _ _)
      · have y := (n4 (30 + m).toNat (by omega)).mpr (by rw [show (((30 + m).toNat : Nat) : Int) - 30 = m by omega]; exact l4)
        rw [x] at y
        exact absurd y (by decide)
theorem firstTurn_sp {X : Sta} {f : Int} {S : PS} {k : Nat} {r sh n u F : Int} (hC : Clk S.2 X) (hF : S.1.2.1 (P_index r (S.1.1.1 1) (S.1.1.1 2) (S.1.1.1 3)) = F) (h0 : ((S.1.2.1 (P_index (r + 1) (P_roundFrom (S.1.1.1 1) 0) 0 0) = F ∧ ¬ zcr ((S.1.2.2 (P_index (r + 1) (P_roundFrom (S.1.1.1 1) 0) 0 0)) &&& (P_wantedBehind S 0)) (lI 0) = 0) ∧ ¬ C_fits X r (C_threadAfter X (P_roundFrom (S.1.1.1 1) 0) 0) = 0) ↔ byF X f (BF X f k) r (S.1.1.1 1) sh n u 0 = BF X f (k + 1) r (S.1.1.1 1) sh n u) (h1 : ((S.1.2.1 (P_index (r + 1) (P_roundFrom (S.1.1.1 1) 1) 1 0) = F ∧ ¬ zcr ((S.1.2.2 (P_index (r + 1) (P_roundFrom (S.1.1.1 1) 1) 1 0)) &&& (P_wantedBehind S 1)) (lI 0) = 0) ∧ ¬ C_fits X r (C_threadAfter X (P_roundFrom (S.1.1.1 1) 1) 1) = 0) ↔ byF X f (BF X f k) r (S.1.1.1 1) sh n u 1 = BF X f (k + 1) r (S.1.1.1 1) sh n u) : P_firstTurn S r = gtF X f k r (S.1.1.1 1) sh n u := by
  have step : ∀ (fu : Nat) (d : Int), ¬ 1 < d → P_firstTurn_l25 S r (fu + 1) d = if ((S.1.2.1 (P_index (r + 1) (P_roundFrom (S.1.1.1 1) d) d 0) = F ∧ ¬ zcr ((S.1.2.2 (P_index (r + 1) (P_roundFrom (S.1.1.1 1) d) d 0)) &&& (P_wantedBehind S d)) (lI 0) = 0) ∧ ¬ C_fits X r (C_threadAfter X (P_roundFrom (S.1.1.1 1) d) d) = 0) then .inl d else P_firstTurn_l25 S r fu (d + 1) := by
    intro fu d hd
    rw [P_firstTurn_l25_s, if_neg hd, hF]
    dsimp only
    rw [hC.fits, hC.after]
    by_cases a : S.1.2.1 (P_index (r + 1) (P_roundFrom (S.1.1.1 1) d) d 0) = F
    · by_cases b : zcr ((S.1.2.2 (P_index (r + 1) (P_roundFrom (S.1.1.1 1) d) d 0)) &&& (P_wantedBehind S d)) (lI 0) = 0
      · rw [if_pos a, if_pos b, if_pos rfl, if_neg (fun q => q.1.2 b)]
      · rw [if_pos a, if_neg b, if_neg (show ¬ (1 : Int) = 0 by decide)]
        by_cases c : C_fits X r (C_threadAfter X (P_roundFrom (S.1.1.1 1) d) d) = 0
        · rw [if_pos c, if_neg (fun q => q.2 c)]
        · rw [if_neg c, if_pos ⟨⟨a, b⟩, c⟩]
    · rw [if_neg a, if_pos rfl, if_neg (fun q => a q.1.1)]
  unfold P_firstTurn gtF
  rw [step 2 0 (by decide)]
  by_cases e0 : byF X f (BF X f k) r (S.1.1.1 1) sh n u 0 = BF X f (k + 1) r (S.1.1.1 1) sh n u
  · rw [if_pos e0, if_pos (h0.mpr e0)]
    rfl
  · rw [if_neg e0, if_neg (fun q => e0 (h0.mp q)), show (0 : Int) + 1 = 1 by decide, step 1 1 (by decide)]
    by_cases e1 : byF X f (BF X f k) r (S.1.1.1 1) sh n u 1 = BF X f (k + 1) r (S.1.1.1 1) sh n u
    · rw [if_pos e1, if_pos (h1.mpr e1)]
      rfl
    · rw [if_neg e1, if_neg (fun q => e1 (h1.mp q)), P_firstTurn_l25_s, if_pos (by decide)]
      rfl
theorem path_sp {X : Sta} {f h : Int} (hw : 0 ≤ X.1 0 ∧ X.1 0 ≤ 1) (hx : -60 ≤ X.1 2 ∧ X.1 2 ≤ 60) (hf : 0 ≤ f ∧ f ≤ 9) (hh : 1 ≤ h ∧ h ≤ 30) : ∀ (fu : Nat) (k : Nat) (r u F L : Int) (S : PS), r + (k : Int) = h → 0 ≤ r → k < fu → (∀ r', 0 ≤ r' → r' ≤ h → RowOK X f (h - r').toNat r' S.1.2.1 S.1.2.2) → Clk S.2 X → (0 ≤ S.1.1.1 1 ∧ S.1.1.1 1 ≤ 3) → (0 ≤ S.1.1.1 2 ∧ S.1.1.1 2 ≤ 1) → (0 ≤ S.1.1.1 3 ∧ S.1.1.1 3 ≤ f) → S.2.1 5 = X.1 2 + u → (-r ≤ u ∧ u ≤ r) → S.1.2.1 (P_index r (S.1.1.1 1) (S.1.1.1 2) (S.1.1.1 3)) = F → (0 ≤ F ∧ F ≤ 30) → (0 ≤ L ∧ L < 1000) → BF X f k r (S.1.1.1 1) (C_threadAfter X (S.1.1.1 1) (S.1.1.1 2)) (S.1.1.1 3) u = 1000 * F + L → (∀ m, Rp X f k r (S.1.1.1 1) (C_threadAfter X (S.1.1.1 1) (S.1.1.1 2)) (S.1.1.1 3) F m → (bL (S.1.1.2 1) (30 + m).toNat = true ↔ dv X u m = L)) → Gr X f ((P_plan_l145 h fu r S).2.2 7) ((P_plan_l145 h fu r S).2.1 5) k r (S.1.1.1 1) (C_threadAfter X (S.1.1.1 1) (S.1.1.1 2)) (S.1.1.1 3) u ∧ (∀ j, j < r → (P_plan_l145 h fu r S).2.2 7 j = S.2.2 7 j) := by
  intro fu
  induction fu with
  | zero => intro k r u F L S _ _ hk; omega
  | succ fu ih =>
    intro k r u F L S hr r0 hk tab hC ht hp hn h5 hu hF hF2 hL hb hW
    rw [P_plan_l145_s]
    cases k with
    | zero =>
      rw [if_pos (by omega)]
      exact ⟨h5, fun _ _ => rfl⟩
    | succ k =>
      rw [if_neg (by omega)]
      have I := fun d (hd : d = 0 ∨ d = 1) => turn_iff (n := S.1.1.1 3) hw hx hf hh (by omega) r0 tab hu hF2 hL hb hW hd
      have z := firstTurn_sp (f := f) (k := k) (sh := C_threadAfter X (S.1.1.1 1) (S.1.1.1 2)) (n := S.1.1.1 3) (u := u) hC hF (I 0 (Or.inl rfl)).1 (I 1 (Or.inr rfl)).1
      generalize hz : P_firstTurn S r = d at z ⊢
      have gd := z
      unfold gtF at z
      have d3 : (d = 0 ∧ byF X f (BF X f k) r (S.1.1.1 1) (C_threadAfter X (S.1.1.1 1) (S.1.1.1 2)) (S.1.1.1 3) u 0 = BF X f (k + 1) r (S.1.1.1 1) (C_threadAfter X (S.1.1.1 1) (S.1.1.1 2)) (S.1.1.1 3) u) ∨ (d = 1 ∧ byF X f (BF X f k) r (S.1.1.1 1) (C_threadAfter X (S.1.1.1 1) (S.1.1.1 2)) (S.1.1.1 3) u 1 = BF X f (k + 1) r (S.1.1.1 1) (C_threadAfter X (S.1.1.1 1) (S.1.1.1 2)) (S.1.1.1 3) u) ∨ (d = 2 ∧ byF X f (BF X f k) r (S.1.1.1 1) (C_threadAfter X (S.1.1.1 1) (S.1.1.1 2)) (S.1.1.1 3) u 2 = BF X f (k + 1) r (S.1.1.1 1) (C_threadAfter X (S.1.1.1 1) (S.1.1.1 2)) (S.1.1.1 3) u) := by
        have b := (BF_le X f k r (S.1.1.1 1) (C_threadAfter X (S.1.1.1 1) (S.1.1.1 2)) (S.1.1.1 3) u).2.2.2.2
        split at z
        · next q => exact Or.inl ⟨z, q⟩
        · split at z
          · next q => exact Or.inr (Or.inl ⟨z, q⟩)
          · next q1 q2 =>
            refine Or.inr (Or.inr ⟨z, ?_⟩)
            rcases b with b | b | b | b
            · omega
            · exact absurd b.symm q1
            · exact absurd b.symm q2
            · exact b.symm
      have go : ∀ Y : PS, (P_goOn (cA S 7 r d) d = Y) → Y.2.2 7 r = d → (∀ j, j ≠ r → Y.2.2 7 j = S.2.2 7 j) → (if d = 2 then Gr X f ((P_plan_l145 h fu (r + 1) Y).2.2 7) ((P_plan_l145 h fu (r + 1) Y).2.1 5) k (r + 1) (S.1.1.1 1) (C_threadAfter X (S.1.1.1 1) (S.1.1.1 2)) (S.1.1.1 3 + 1) u else Gr X f ((P_plan_l145 h fu (r + 1) Y).2.2 7) ((P_plan_l145 h fu (r + 1) Y).2.1 5) k (r + 1) (P_roundFrom (S.1.1.1 1) d) (C_threadAfter X (P_roundFrom (S.1.1.1 1) d) d) 0 (u + (if d = X.1 0 then 1 else -1))) → (∀ j, j < r + 1 → (P_plan_l145 h fu (r + 1) Y).2.2 7 j = Y.2.2 7 j) → Gr X f ((P_plan_l145 h fu (r + 1) (P_goOn (cA S 7 r d) d)).2.2 7) ((P_plan_l145 h fu (r + 1) (P_goOn (cA S 7 r d) d)).2.1 5) (k + 1) r (S.1.1.1 1) (C_threadAfter X (S.1.1.1 1) (S.1.1.1 2)) (S.1.1.1 3) u ∧ (∀ j, j < r → (P_plan_l145 h fu (r + 1) (P_goOn (cA S 7 r d) d)).2.2 7 j = S.2.2 7 j) := by
        intro Y y1 y2 y3 y4 y5
        rw [y1]
        have gr : (P_plan_l145 h fu (r + 1) Y).2.2 7 r = d := (y5 r (by omega)).trans y2
        refine ⟨⟨gr.trans gd, ?_⟩, fun j hj => (y5 j (by omega)).trans (y3 j (by omega))⟩
        rw [gr]
        exact y4
      have a7 : (cA S 7 r d).2.2 7 r = d := by
        show (mA S.2 7 r d).2 7 r = d
        rw [mA_rd, if_pos ⟨rfl, rfl⟩]
      have a7n : ∀ j, j ≠ r → (cA S 7 r d).2.2 7 j = S.2.2 7 j := fun j hj => by
        show (mA S.2 7 r d).2 7 j = _
        rw [mA_rd, if_neg (fun q => hj q.2)]
      have hC2 : ∀ (Y : PS), Y.2.1 0 = S.2.1 0 → Y.2.1 2 = S.2.1 2 → Y.2.2 0 = S.2.2 0 → Y.2.2 1 = S.2.2 1 → Y.2.2 6 = S.2.2 6 → Clk Y.2 X := fun Y q1 q2 q3 q4 q5 => ⟨q1.trans hC.1, q2.trans hC.2.1, q3.trans hC.2.2.1, q4.trans hC.2.2.2.1, q5.trans hC.2.2.2.2⟩
      have turned : (d = 0 ∨ d = 1) → byF X f (BF X f k) r (S.1.1.1 1) (C_threadAfter X (S.1.1.1 1) (S.1.1.1 2)) (S.1.1.1 3) u d = BF X f (k + 1) r (S.1.1.1 1) (C_threadAfter X (S.1.1.1 1) (S.1.1.1 2)) (S.1.1.1 3) u → Gr X f ((P_plan_l145 h fu (r + 1) (P_goOn (cA S 7 r d) d)).2.2 7) ((P_plan_l145 h fu (r + 1) (P_goOn (cA S 7 r d) d)).2.1 5) (k + 1) r (S.1.1.1 1) (C_threadAfter X (S.1.1.1 1) (S.1.1.1 2)) (S.1.1.1 3) u ∧ (∀ j, j < r → (P_plan_l145 h fu (r + 1) (P_goOn (cA S 7 r d) d)).2.2 7 j = S.2.2 7 j) := by
        intro hd e
        obtain ⟨i1, i2, i3, i4⟩ := (I d hd).2 e
        have nd : ¬ d = 2 := by omega
        have rr := P_roundFrom_rg (S.1.1.1 1) d
        have ms : (if d = X.1 0 then (1 : Int) else -1) = 1 ∨ (if d = X.1 0 then (1 : Int) else -1) = -1 := by
          split
          · exact Or.inl rfl
          · exact Or.inr rfl
        have tw : C_twistOf (cA S 7 r d).2 d = (if d = X.1 0 then (1 : Int) else -1) := by
          have q := C_twistOf_eq (mA S.2 7 r d) d (by show 0 ≤ S.2.1 0 ∧ S.2.1 0 ≤ 1; rw [hC.1]; exact hw) (by omega)
          rw [show C_twistOf (cA S 7 r d).2 d = C_twistOf (mA S.2 7 r d) d from rfl, q]
          unfold twP
          rw [if_neg nd, show (mA S.2 7 r d).1 0 = X.1 0 from hC.1]
        have eY : P_goOn (cA S 7 r d) d = cI (pL (pI (pI (pI (cA S 7 r d) 1 (P_roundFrom ((cA S 7 r d).1.1.1 1) d)) 2 d) 3 0) 1 (P_wantedBehind (pI (pI (pI (cA S 7 r d) 1 (P_roundFrom ((cA S 7 r d).1.1.1 1) d)) 2 d) 3 0) d)) 5 (((cA S 7 r d).2.1 5) + (C_twistOf (cA S 7 r d).2 d)) := by
          unfold P_goOn
          rw [if_neg nd]
        generalize hY : cI (pL (pI (pI (pI (cA S 7 r d) 1 (P_roundFrom ((cA S 7 r d).1.1.1 1) d)) 2 d) 3 0) 1 (P_wantedBehind (pI (pI (pI (cA S 7 r d) 1 (P_roundFrom ((cA S 7 r d).1.1.1 1) d)) 2 d) 3 0) d)) 5 (((cA S 7 r d).2.1 5) + (C_twistOf (cA S 7 r d).2 d)) = Y at eY
        have t1 : Y.1.1.1 1 = P_roundFrom (S.1.1.1 1) d := by rw [← hY]; rfl
        have t2 : Y.1.1.1 2 = d := by rw [← hY]; rfl
        have t3 : Y.1.1.1 3 = 0 := by rw [← hY]; rfl
        have t4 : Y.1.1.2 1 = P_wantedBehind S d := by rw [← hY]; rfl
        have t5 : Y.1.2 = S.1.2 := by rw [← hY]; rfl
        have t6 : Y.2.1 5 = X.1 2 + (u + (if d = X.1 0 then 1 else -1)) := by
          rw [← hY]
          show S.2.1 5 + C_twistOf (cA S 7 r d).2 d = _
          rw [tw, h5]
          omega
        have K := ih k (r + 1) (u + (if d = X.1 0 then 1 else -1)) F L Y (by omega) (by omega) (by omega) (by rw [t5]; exact tab) (hC2 Y (by rw [← hY]; rfl) (by rw [← hY]; rfl) (by rw [← hY]; rfl) (by rw [← hY]; rfl) (by rw [← hY]; rfl)) (by rw [t1]; exact rr) (by rw [t2]; omega) (by rw [t3]; exact ⟨by decide, hf.1⟩) t6 (by rcases ms with q | q <;> rw [q] <;> omega) (by rw [t1, t2, t3, t5]; exact i2) hF2 hL (by rw [t1, t2, t3]; exact i3) (by rw [t1, t2, t3, t4]; exact i4)
        rw [t1, t2, t3] at K
        refine go Y eY (by rw [← hY]; exact a7) (fun j hj => by rw [← hY]; exact a7n j hj) ?_ K.2
        rw [if_neg nd]
        exact K.1
      rcases d3 with ⟨e, q⟩ | ⟨e, q⟩ | ⟨e, q⟩
      · exact turned (Or.inl e) (by rw [e]; exact q)
      · exact turned (Or.inr e) (by rw [e]; exact q)
      · rw [byF_2, hb] at q
        by_cases c : S.1.1.1 3 < f ∧ ¬ C_fits X r (C_threadAfter X (S.1.1.1 1) (S.1.1.1 2)) = 0
        · rw [if_pos c] at q
          by_cases w : BF X f k (r + 1) (S.1.1.1 1) (C_threadAfter X (S.1.1.1 1) (S.1.1.1 2)) (S.1.1.1 3 + 1) u < 1000000
          · rw [if_pos w] at q
            have nx := tab (r + 1) (by omega) (by omega) (S.1.1.1 1) (S.1.1.1 2) (S.1.1.1 3 + 1) ht hp (by omega)
            rw [show (h - (r + 1)).toNat = k by omega] at nx
            have ls := least_sp (u := u) hw (k := k) (by omega) (by omega) nx
            rcases ls with ⟨l1, l2⟩ | ⟨l1, L', l2, l3, l4, l5⟩
            · omega
            · have eF : S.1.2.1 (P_index (r + 1) (S.1.1.1 1) (S.1.1.1 2) (S.1.1.1 3 + 1)) = F - 1 := by omega
              have eY : P_goOn (cA S 7 r d) d = pI (cA S 7 r d) 3 (J_min ((cA S 7 r d).1.1.1 3 + 1) 9) := by
                unfold P_goOn
                rw [if_pos e]
              have jm : J_min ((cA S 7 r d).1.1.1 3 + 1) 9 = S.1.1.1 3 + 1 := by
                have j := J_min_sp ((cA S 7 r d).1.1.1 3 + 1) 9
                have j2 : (cA S 7 r d).1.1.1 3 = S.1.1.1 3 := rfl
                omega
              rw [jm] at eY
              generalize hY : pI (cA S 7 r d) 3 (S.1.1.1 3 + 1) = Y at eY
              have t1 : Y.1.1.1 1 = S.1.1.1 1 := by rw [← hY]; rfl
              have t2 : Y.1.1.1 2 = S.1.1.1 2 := by rw [← hY]; rfl
              have t3 : Y.1.1.1 3 = S.1.1.1 3 + 1 := by rw [← hY]; rfl
              have t4 : Y.1.1.2 1 = S.1.1.2 1 := by rw [← hY]; rfl
              have t5 : Y.1.2 = S.1.2 := by rw [← hY]; rfl
              have K := ih k (r + 1) u (F - 1) L Y (by omega) (by omega) (by omega) (by rw [t5]; exact tab) (hC2 Y (by rw [← hY]; rfl) (by rw [← hY]; rfl) (by rw [← hY]; rfl) (by rw [← hY]; rfl) (by rw [← hY]; rfl)) (by rw [t1]; exact ht) (by rw [t2]; exact hp) (by rw [t3]; omega) (by rw [← hY]; exact h5) (by omega) (by rw [t1, t2, t3, t5]; exact eF) (by omega) hL (by rw [t1, t2, t3]; omega) (by
                rw [t1, t2, t3, t4]
                intro m qm
                exact hW m (Or.inl ⟨c.1, c.2, qm⟩))
              rw [t1, t2, t3] at K
              refine go Y eY (by rw [← hY]; exact a7) (fun j hj => by rw [← hY]; exact a7n j hj) ?_ K.2
              rw [if_pos e]
              exact K.1
          · rw [if_neg w] at q
            omega
        · rw [if_neg c] at q
          omega
theorem P_plan_l145_sc (h : Int) : ∀ (fu : Nat) (v : Int) (S : PS) (j : Nat), j ≠ 5 → (P_plan_l145 h fu v S).2.1 j = S.2.1 j := by
  intro fu
  induction fu with
  | zero => intro v S j _; rfl
  | succ fu ih =>
    intro v S j hj
    rw [P_plan_l145_s]
    split
    · rfl
    · exact (ih _ _ j hj).trans ((P_goOn_fr _ _).1 j hj)
theorem plan_is {N : Int} {S : PS} {p h f : Int} (hI : InvP N S) (hT : InvPT S) (hp : 0 ≤ p ∧ p ≤ 60) (hh : 1 ≤ h ∧ h ≤ 30) (hf : 0 ≤ f ∧ f ≤ 9) (hs : C_showing S.2 p = S.2.2 0 0 ∨ C_showing S.2 p = S.2.2 0 1) : PlanIs (P_plan S p h f).2 p h f := by
  have all := P_plan_all S p h f hI hp hh hf
  have hw : 0 ≤ S.2.1 0 ∧ S.2.1 0 ≤ 1 := InvC_s0 hI.1
  have hx : -60 ≤ S.2.1 2 ∧ S.2.1 2 ≤ 60 := hT
  have ib := C_idleBehind_rg S.2 p hI.1 hp
  have es : C_showing (P_plan S p h f).2 p = C_showing S.2 p := by
    unfold C_showing
    rw [all.2.2 0 (by decide), all.2.2 3 (by decide)]
  have ei : C_idleBehind (P_plan S p h f).2 p = C_idleBehind S.2 p := C_idleBehind_l2_congr (all.2.2 2 (by decide)) p 61 0
  have c0 : (P_plan S p h f).2.1 0 = S.2.1 0 := all.2.1 0 (by decide) (by decide)
  have c2 : (P_plan S p h f).2.1 2 = S.2.1 2 := all.2.1 2 (by decide) (by decide)
  have eb := fun k => BF_congr (f := f) c0 c2 (all.2.2 0 (by decide)) (all.2.2 1 (by decide)) (all.2.2 6 (by decide)) k
  unfold PlanIs
  rw [es, ei, eb]
  have cap : ∀ k r t sh u, BF S.2 f k r t sh (J_min (C_idleBehind S.2 p) f) u = BF S.2 f k r t sh (C_idleBehind S.2 p) u := by
    intro k r t sh u
    have j := J_min_sp (C_idleBehind S.2 p) f
    rcases j with ⟨j1, j2⟩ | ⟨j1, j2⟩
    · rw [j2]
      exact BF_cap _ _ _ _ _ _ _ _ _ (Int.le_refl f) (by omega)
    · rw [j2]
  have jr : 0 ≤ J_min (C_idleBehind S.2 p) f ∧ J_min (C_idleBehind S.2 p) f ≤ f := by
    have j := J_min_sp (C_idleBehind S.2 p) f
    omega
  obtain ⟨t1, t2⟩ := plan_table S hf hh
  have grc : ∀ (g g' : Int → Int) (e : Int), (∀ j, g' j = g j) → Gr S.2 f g e h.toNat 0 0 (C_showing S.2 p) (J_min (C_idleBehind S.2 p) f) 0 → BF S.2 f h.toNat 0 0 (C_showing S.2 p) (J_min (C_idleBehind S.2 p) f) 0 < 1000000 → Gr (P_plan S p h f).2 f g' e h.toNat 0 0 (C_showing S.2 p) (C_idleBehind S.2 p) 0 := by
    intro g g' e hg q hl
    refine Gr_congr c0 c2 (all.2.2 0 (by decide)) (all.2.2 1 (by decide)) (all.2.2 6 (by decide)) _ _ _ _ _ _ (fun j _ _ => hg j) ?_
    have j := J_min_sp (C_idleBehind S.2 p) f
    rcases j with ⟨j1, j2⟩ | ⟨j1, j2⟩
    · exact Gr_cap _ _ _ _ _ _ _ _ _ _ _ (by omega) (by omega) hl q
    · rw [j2] at q
      exact q
  revert grc
  unfold P_plan P_plan_r10
  dsimp only
  generalize P_plan_l10 f 31 (h - 1) (P_fillEnd S h) = Z at t1 t2 ⊢
  unfold P_plan_m55
  rw [t1]
  intro grc
  have sh0 : C_threadAfter S.2 0 (if C_showing S.2 p = S.2.2 0 0 then 0 else 1) = C_showing S.2 p := by
    by_cases q : C_showing S.2 p = S.2.2 0 0
    · rw [if_pos q]
      unfold C_threadAfter
      rw [J_floorMod_sp (0 - 0) 4 (by decide) rfl, q]
      rfl
    · rw [if_neg q]
      unfold C_threadAfter
      rw [J_floorMod_sp (1 - 0) 4 (by decide) rfl]
      rcases hs with hs | hs
      · exact absurd hs q
      · rw [hs]
        rfl
  have m01 : 0 ≤ (if C_showing S.2 p = S.2.2 0 0 then (0 : Int) else 1) ∧ (if C_showing S.2 p = S.2.2 0 0 then (0 : Int) else 1) ≤ 1 := by split <;> omega
  generalize (if C_showing S.2 p = S.2.2 0 0 then (0 : Int) else 1) = m at sh0 m01 grc ⊢
  generalize hn : J_min (C_idleBehind S.2 p) f = n at jr cap grc ⊢
  have row := t2 0 (by decide) (by omega) 0 m n (by decide) m01 jr
  rw [show (h - 0).toNat = h.toNat by omega, sh0] at row
  have ls := least_sp (u := 0) hw (k := h.toNat) (by omega) (by omega) row
  rw [← cap]
  by_cases c : Z.1.2.1 (P_index 0 0 m n) < 1000
  · rw [if_pos c] at grc ⊢
    right
    rcases ls with ⟨l1, l2⟩ | ⟨l1, L, l2, l3, l4, l5⟩
    · omega
    · rcases row with ⟨n1, -⟩ | ⟨n1, n2, n3, n4⟩
      · omega
      · have wx : ((cI (cI (pI (pI (pI Z 1 0) 2 m) 3 n) 4 (Z.1.2.1 (P_index 0 0 m n))) 5 (S.2.1 2)).2.1 2) = S.2.1 2 := by
          show Z.2.1 2 = _
          rw [t1]
        have w := want_sp (S := cI (cI (pI (pI (pI Z 1 0) 2 m) 3 n) 4 (Z.1.2.1 (P_index 0 0 m n))) 5 (S.2.1 2)) (s := Z.1.2.2 (P_index 0 0 m n)) (h := h) (P := fun m' => Rp S.2 f h.toNat 0 0 (C_showing S.2 p) n (Z.1.2.1 (P_index 0 0 m n)) m') (by omega) (by rw [wx]; exact hx) (fun m' q => by have := (Rp_rg _ _ _ _ _ _ _ _ _ q).2; omega) n4 n2
        obtain ⟨⟨w1, w2, w3⟩, L2, ⟨m2, w4, w5⟩, w6, w7⟩ := w
        have dve : ∀ m', dv (cI (cI (pI (pI (pI Z 1 0) 2 m) 3 n) 4 (Z.1.2.1 (P_index 0 0 m n))) 5 (S.2.1 2)).2 0 m' = dv S.2 0 m' := by
          intro m'
          show dv (mI (mI Z.2 4 _) 5 _) 0 m' = _
          rw [t1]
          rfl
        have eL : L2 = L := by
          obtain ⟨m1, a1, a2⟩ := l4
          have b1 := w6 m1 a1
          have b2 := l5 m2 w4
          rw [dve] at b1 w5
          omega
        generalize hQ : P_wantLeastTwist (cI (cI (pI (pI (pI Z 1 0) 2 m) 3 n) 4 (Z.1.2.1 (P_index 0 0 m n))) 5 (S.2.1 2)) (Z.1.2.2 (P_index 0 0 m n)) h = Q at w1 w2 w3 w7 grc ⊢
        have q1 : Q.1.1.1 1 = 0 := by rw [w2]; rfl
        have q2 : Q.1.1.1 2 = m := by rw [w2]; rfl
        have q3 : Q.1.1.1 3 = n := by rw [w2]; rfl
        have qT : Q.1.2 = Z.1.2 := w3
        have qC : Clk Q.2 S.2 := by
          rw [w1]
          have e : (cI (cI (pI (pI (pI Z 1 0) 2 m) 3 n) 4 (Z.1.2.1 (P_index 0 0 m n))) 5 (S.2.1 2)).2 = mI (mI S.2 4 (Z.1.2.1 (P_index 0 0 m n))) 5 (S.2.1 2) := by
            show mI (mI Z.2 4 _) 5 _ = _
            rw [t1]
          rw [e]
          exact ⟨rfl, rfl, rfl, rfl, rfl⟩
        have q5 : Q.2.1 5 = S.2.1 2 + 0 := by
          rw [w1, Int.add_zero]
          rfl
        have q4 : Q.2.1 4 = Z.1.2.1 (P_index 0 0 m n) := by rw [w1]; rfl
        have K := path_sp hw hx hf hh 31 h.toNat 0 0 (Z.1.2.1 (P_index 0 0 m n)) L Q (by omega) (by decide) (by omega) (by rw [qT]; exact t2) qC (by rw [q1]; decide) (by rw [q2]; exact m01) (by rw [q3]; exact jr) q5 (by decide) (by rw [q1, q2, q3, qT]) l1 l2 (by rw [q1, q2, q3, sh0]; exact l3) (by
          rw [q1, q2, q3, sh0]
          intro m' qm
          rw [w7 m' qm, dve, eL])
        rw [q1, q2, q3, sh0] at K
        refine ⟨by omega, ?_, grc _ _ _ (fun _ => rfl) K.1 (by omega)⟩
        have p4 : (P_plan_l145 h 31 0 Q).2.1 4 = Q.2.1 4 := P_plan_l145_sc h 31 0 Q 4 (by decide)
        rw [p4, q4, l3]
        omega
  · rw [if_neg c]
    left
    rcases ls with ⟨l1, l2⟩ | ⟨l1, L, l2, l3, l4, l5⟩
    · exact ⟨l2, rfl⟩
    · omega
