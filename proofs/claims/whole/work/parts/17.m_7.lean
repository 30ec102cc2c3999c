theorem M_look_l28_fr {N : Int} (S : Sta) (c a b d : Int) (hT : InvT S) : ∀ (fu : Nat) (v : Int) (Z : Sta), -30 ≤ v → InvW N Z → (InvW N (M_look_l28 S c a b d fu v Z) ∧ (M_look_l28 S c a b d fu v Z).1 = Z.1 ∧ ∀ k : Nat, k ∉ [17] → (M_look_l28 S c a b d fu v Z).2 k = Z.2 k) := by
  intro fu
  induction fu with
  | zero => intro v Z _ h; exact ⟨h, rfl, fun _ _ => rfl⟩
  | succ fu ih =>
    intro v Z hv h
    rw [M_look_l28_s]
    split
    · exact ⟨h, rfl, fun _ _ => rfl⟩
    · have t4 := InvM_a4 hT c
      have sz := M_size_sp (S.2 4 c + v)
      have k := ih (v + 1) (mA Z 17 (M_spot (S.1 3) a b d v) (M_size (S.2 4 c + v))) (by omega) (InvW.mA h (show 0 ≤ _ ∧ _ ≤ 1000000 from by omega))
      exact ⟨k.1, k.2.1, fun i hi => (k.2.2 i hi).trans (mA_nin hi (by decide))⟩
theorem M_look_l17_fr {N : Int} (S : Sta) (c a b : Int) (hT : InvT S) : ∀ (fu : Nat) (v : Int) (Z : Sta), InvW N Z → (InvW N (M_look_l17 S c a b fu v Z) ∧ (M_look_l17 S c a b fu v Z).1 = Z.1 ∧ ∀ k : Nat, k ∉ [17] → (M_look_l17 S c a b fu v Z).2 k = Z.2 k) := by
  intro fu
  induction fu with
  | zero => intro v Z h; exact ⟨h, rfl, fun _ _ => rfl⟩
  | succ fu ih =>
    intro v Z h
    rw [M_look_l17_s]
    split
    · exact ⟨h, rfl, fun _ _ => rfl⟩
    · have o := M_look_l28_fr S c a b v hT 62 (-30) Z (by omega) h
      have k := ih (v + 1) _ o.1
      exact ⟨k.1, k.2.1.trans o.2.1, fun i hi => (k.2.2 i hi).trans (o.2.2 i hi)⟩
theorem M_look_l9_fr {N : Int} (S : Sta) (c a : Int) (hT : InvT S) : ∀ (fu : Nat) (v : Int) (Z : Sta), InvW N Z → (InvW N (M_look_l9 S c a fu v Z) ∧ (M_look_l9 S c a fu v Z).1 = Z.1 ∧ ∀ k : Nat, k ∉ [17] → (M_look_l9 S c a fu v Z).2 k = Z.2 k) := by
  intro fu
  induction fu with
  | zero => intro v Z h; exact ⟨h, rfl, fun _ _ => rfl⟩
  | succ fu ih =>
    intro v Z h
    rw [M_look_l9_s]
    split
    · exact ⟨h, rfl, fun _ _ => rfl⟩
    · have o := M_look_l17_fr S c a v hT 11 0 Z h
      have k := ih (v + 1) _ o.1
      exact ⟨k.1, k.2.1.trans o.2.1, fun i hi => (k.2.2 i hi).trans (o.2.2 i hi)⟩
theorem M_look_l2_fr {N : Int} (S : Sta) (c : Int) (hT : InvT S) : ∀ (fu : Nat) (v : Int) (Z : Sta), InvW N Z → (InvW N (M_look_l2 S c fu v Z) ∧ (M_look_l2 S c fu v Z).1 = Z.1 ∧ ∀ k : Nat, k ∉ [17] → (M_look_l2 S c fu v Z).2 k = Z.2 k) := by
  intro fu
  induction fu with
  | zero => intro v Z h; exact ⟨h, rfl, fun _ _ => rfl⟩
  | succ fu ih =>
    intro v Z h
    rw [M_look_l2_s]
    split
    · exact ⟨h, rfl, fun _ _ => rfl⟩
    · have o := M_look_l9_fr S c v hT 5 0 Z h
      have k := ih (v + 1) _ o.1
      exact ⟨k.1, k.2.1.trans o.2.1, fun i hi => (k.2.2 i hi).trans (o.2.2 i hi)⟩
theorem M_ls_rg {N : Int} (S : Sta) (c r t h n u : Int) (hI : InvW N S) (hc : 0 ≤ c ∧ c < 16) (hr : 0 ≤ r ∧ r < 30) (g : M_rg r t h n u) : 0 ≤ M_ls S c r t h n u ∧ M_ls S c r t h n u ≤ 1000000 := by
  obtain ⟨g1, g2, g3, g4⟩ := g
  have b0 := M_by_rg S c r t h n u 0 hI hc hr g1 g2 g3 g4 (by omega)
  have b1 := M_by_rg S c r t h n u 1 hI hc hr g1 g2 g3 g4 (by omega)
  rw [M_ls_eq]
  unfold M_mn
  by_cases hn : n = 9
  · rw [if_pos hn]
    omega
  · have b2 := M_by_rg S c r t h n u 2 hI hc hr g1 g2 g3 g4 (by omega)
    rw [if_neg hn]
    omega
theorem M_fill_inv {N c r : Int} {P : Int → Int → Int → Int → Prop} {S S' : Sta} (hr : 0 ≤ r ∧ r ≤ 29) (hc : 0 ≤ c ∧ c < 16) (h : M_fill c r P S S') (hI : InvW N S) : InvW N S' := by
  refine ⟨by rw [h.1]; exact hI.1, fun k j => ?_⟩
  by_cases hk : k = 17
  · subst hk
    by_cases e : ∃ t g n u : Int, M_rg r t g n u ∧ P t g n u ∧ j = M_spot r t g n u
    · obtain ⟨t, g, n, u, rg, p, rfl⟩ := e
      rw [h.2.2.2 t g n u rg p]
      exact M_ls_rg S c r t g n u hI hc (by omega) rg
    · rw [h.2.2.1 j (fun t g n u rg p q => e ⟨t, g, n, u, rg, p, q⟩)]
      exact hI.2 17 j
  · rw [h.2.1 k hk]
    exact hI.2 k j
theorem M_look_l96_fr {N : Int} (c : Int) (hc : 0 ≤ c ∧ c < 16) : ∀ (fu : Nat) (v : Int) (Z : Sta), v ≤ 29 → InvW N Z → (InvW N (M_look_l96 c fu v Z) ∧ (M_look_l96 c fu v Z).1 = Z.1 ∧ ∀ k : Nat, k ∉ [17] → (M_look_l96 c fu v Z).2 k = Z.2 k) := by
  intro fu
  induction fu with
  | zero => intro v Z _ h; exact ⟨h, rfl, fun _ _ => rfl⟩
  | succ fu ih =>
    intro v Z hv h
    rw [M_look_l96_s]
    split
    · exact ⟨h, rfl, fun _ _ => rfl⟩
    · have f := M_look_l102_fill c v (by omega) 5 0 Z (fun j => (InvM_a1 h j).1) (by omega) (by omega)
      have k := ih (v + -1) _ (by omega) (M_fill_inv (by omega) hc f h)
      exact ⟨k.1, k.2.1.trans f.1, fun i hi => (k.2.2 i hi).trans (f.2.1 i (fun e => hi (by rw [e]; decide)))⟩
theorem M_look_l355_sp {c : Int} {Z : Sta} {v2 v3 v4 v5 v7 : Int} {Y : Sta} {t0 : Int} (ht0 : 0 ≤ t0 ∧ t0 ≤ 2) (ht1 : t0 = 2 → v3 ≤ 8) (hv : v3 ≤ 9) (ht2 : M_by Y c v7 v4 v2 v3 v5 t0 = Z.2 17 (M_spot v7 v4 v2 v3 v5)) : ∀ (fu : Nat) (v8 : Int), 0 ≤ v8 → v8 ≤ t0 → t0 - v8 < (fu : Int) → ((0 ≤ M_look_l355 c Z v2 v3 v4 v5 v7 Y fu v8 ∧ M_look_l355 c Z v2 v3 v4 v5 v7 Y fu v8 ≤ 2) ∧ (M_look_l355 c Z v2 v3 v4 v5 v7 Y fu v8 = 2 → v3 ≤ 8) ∧ M_by Y c v7 v4 v2 v3 v5 (M_look_l355 c Z v2 v3 v4 v5 v7 Y fu v8) = Z.2 17 (M_spot v7 v4 v2 v3 v5)) ∧ v8 ≤ M_look_l355 c Z v2 v3 v4 v5 v7 Y fu v8 ∧ ∀ d : Int, v8 ≤ d → d < M_look_l355 c Z v2 v3 v4 v5 v7 Y fu v8 → ¬ M_by Y c v7 v4 v2 v3 v5 d = Z.2 17 (M_spot v7 v4 v2 v3 v5) := by
  intro fu
  induction fu with
  | zero => intro v8 h0 h1 h2; exact absurd h2 (by omega)
  | succ fu ih =>
    intro v8 h0 h1 h2
    have step : ∀ (hne : ¬ (M_by Y c v7 v4 v2 v3 v5 v8 = Z.2 17 (M_spot v7 v4 v2 v3 v5))), ((0 ≤ M_look_l355 c Z v2 v3 v4 v5 v7 Y fu (v8 + 1) ∧ M_look_l355 c Z v2 v3 v4 v5 v7 Y fu (v8 + 1) ≤ 2) ∧ (M_look_l355 c Z v2 v3 v4 v5 v7 Y fu (v8 + 1) = 2 → v3 ≤ 8) ∧ M_by Y c v7 v4 v2 v3 v5 (M_look_l355 c Z v2 v3 v4 v5 v7 Y fu (v8 + 1)) = Z.2 17 (M_spot v7 v4 v2 v3 v5)) ∧ v8 ≤ M_look_l355 c Z v2 v3 v4 v5 v7 Y fu (v8 + 1) ∧ ∀ d : Int, v8 ≤ d → d < M_look_l355 c Z v2 v3 v4 v5 v7 Y fu (v8 + 1) → ¬ M_by Y c v7 v4 v2 v3 v5 d = Z.2 17 (M_spot v7 v4 v2 v3 v5) := by
      intro hne
      have hlt : v8 ≠ t0 := fun e => hne (by rw [e]; exact ht2)
      have k := ih (v8 + 1) (by omega) (by omega) (by omega)
      refine ⟨k.1, by omega, fun d hd hd2 => ?_⟩
      by_cases e : d = v8
      · rw [e]; exact hne
      · exact k.2.2 d (by omega) hd2
    rw [M_look_l355_s]
    split
    · split
      · next e2 e9 => exact absurd (ht1 (by omega)) (by omega)
      · split
        · next e2 e9 e => exact ⟨⟨by omega, fun _ => by omega, e⟩, by omega, fun d hd hd2 => absurd hd2 (by omega)⟩
        · next e2 e9 e => exact step e
    · split
      · next e2 e => exact ⟨⟨by omega, fun q => absurd q e2, e⟩, by omega, fun d hd hd2 => absurd hd2 (by omega)⟩
      · next e2 e => exact step e
theorem M_look_l336_inv {N : Int} {S : Sta} {c : Int} {Z : Sta} {a b : Int} (hc : 0 ≤ c ∧ c < 16) (h3 : Z.1 3 = S.1 3) (h2 : Z.2 2 = S.2 2) : ∀ (fu : Nat) (v2 v3 v4 v5 v7 : Int) (Y : Sta), (0 ≤ v7) → (0 ≤ v2 ∧ v2 ≤ 3) → (0 ≤ v3 ∧ v3 ≤ 9) → (0 ≤ v4 ∧ v4 ≤ 3) → (-v7 ≤ v5 ∧ v5 ≤ v7) → InvW N Y → BTab Y c → (Z.2 17 (M_spot 0 0 a b 0) < 1000000 → Z.2 17 (M_spot v7 v4 v2 v3 v5) < 1000000) → Y.1 = Z.1 → (∀ k : Nat, k ∉ [18] → Y.2 k = Z.2 k) → InvW N (M_look_l336 S c Z a b fu v2 v3 v4 v5 v7 Y).2 ∧ (M_look_l336 S c Z a b fu v2 v3 v4 v5 v7 Y).2.1 = Z.1 ∧ (∀ k : Nat, k ∉ [18] → (M_look_l336 S c Z a b fu v2 v3 v4 v5 v7 Y).2.2 k = Z.2 k) := by
  intro fu
  induction fu with
  | zero => intro v2 v3 v4 v5 v7 Y _ _ _ _ _ hI _ _ e1 e2; exact ⟨hI, e1, e2⟩
  | succ fu ih =>
    intro v2 v3 v4 v5 v7 Y g7 g2 g3 g4 g5 hI hB hg e1 e2
    rw [M_look_l336_s]
    split
    · exact ⟨hI, e1, e2⟩
    · split
      · exact ⟨hI, e1, e2⟩
      · next n1 n2 =>
        have hka := e2 17 (by decide)
        have hk3 : Y.1 3 = S.1 3 := (congrFun e1 3).trans h3
        have hg2 := hg (by omega)
        obtain ⟨t0, ht0, ht1, ht2⟩ := BTab_ex (t := v4) (h := v2) (n := v3) (u := v5) hB (r := v7) (by omega) g4 g2 g3 g5 (by rw [hka]; exact hg2)
        rw [hka] at ht2
        have q := M_look_l355_sp ht0 ht1 g3.2 ht2 3 0 (by omega) ht0.1 (by omega)
        generalize M_look_l355 c Z v2 v3 v4 v5 v7 Y 3 0 = z at q ⊢
        obtain ⟨⟨q1, q2, q3⟩, -, -⟩ := q
        have hI' : InvW N (mA Y 18 v7 z) := InvW.mA hI (show 0 ≤ _ ∧ _ ≤ 2 from q1)
        have hli := M_lies_rg (mA Y 18 v7 z) c ((v4 + ((if z = 0 then 1 else 3) : Int)) % 4) z hI' hc (by omega)
        have e1' : (mA Y 18 v7 z).1 = Z.1 := e1
        have e2' : ∀ k : Nat, k ∉ [18] → (mA Y 18 v7 z).2 k = Z.2 k := fun k hk => (mA_nin hk (by decide)).trans (e2 k hk)
        by_cases d2 : z = 2
        · have nx := M_by_next2 (S := Y) d2 (by rw [q3]; exact hg2)
          rw [hka] at nx
          have k := ih v2 (v3 + 1) v4 v5 (v7 + 1) (mA Y 18 v7 z) (by omega) g2 (by omega) g4 (by omega) hI' hB (fun _ => nx) e1' e2'
          simp only [if_pos d2]
          exact k
        · have nx := M_by_next (S := Y) d2 (by rw [q3]; exact hg2)
          rw [hka] at nx
          rw [show Y.2 2 c = S.2 2 c from congrFun ((e2 2 (by decide)).trans h2) c] at nx
          have k := ih (M_lies (mA Y 18 v7 z) c ((v4 + ((if z = 0 then 1 else 3) : Int)) % 4) z) 0 ((v4 + ((if z = 0 then 1 else 3) : Int)) % 4) (v5 + ((if z = S.2 2 c then 1 else (-1)) : Int)) (v7 + 1) (mA Y 18 v7 z) (by omega) (hli (by omega)) (by omega) (by omega) (by omega) hI' hB (fun _ => nx) e1' e2'
          simp only [if_neg d2]
          exact k
theorem M_look_z96 {N : Int} (S : Sta) (c : Int) (hI : InvW N S) (hT : InvT S) (hc : 0 ≤ c ∧ c < 16) : InvW N (M_look_l96 c 31 (S.1 3 - 1) (M_look_l2 S c 5 0 S)) ∧ (M_look_l96 c 31 (S.1 3 - 1) (M_look_l2 S c 5 0 S)).1 = S.1 ∧ (∀ k : Nat, k ∉ [17] → (M_look_l96 c 31 (S.1 3 - 1) (M_look_l2 S c 5 0 S)).2 k = S.2 k) ∧ BTab (M_look_l96 c 31 (S.1 3 - 1) (M_look_l2 S c 5 0 S)) c := by
  have a := M_look_l2_fr S c hT 5 0 S hI
  have s3 := InvM_s3 hI
  have b := M_look_l96_fr c hc 31 (S.1 3 - 1) _ (by omega) a.1
  exact ⟨b.1, b.2.1.trans a.2.1, fun k hk => (b.2.2 k hk).trans (a.2.2 k hk), M_look_bt c (S.1 3) _ (congrFun a.2.1 3) s3 (fun j => (InvM_a1 a.1 j).1)⟩
theorem M_look_all {N : Int} (S : Sta) (c : Int) (hI : InvW N S) (hT : InvT S) (hc : 0 ≤ c ∧ c < 16) : InvW N (M_look S c).2 ∧ (∀ j : Nat, j ≠ 5 → (M_look S c).2.1 j = S.1 j) ∧ (∀ k : Nat, k ∉ [17, 18] → (M_look S c).2.2 k = S.2 k) ∧ (0 ≤ (M_look S c).1 ∧ (M_look S c).1 ≤ 1000000) := by
  have z := M_look_z96 S c hI hT hc
  have s2 := InvM_s2 hI
  have i5 := InvM_a5 hT c
  have a1 := InvM_a1 hI (4 * c)
  have a13 := InvM_a13 hI (16 * (S.1 2 - 1) + c)
  obtain ⟨zI, z1, z2, zB⟩ := z
  unfold M_look M_look_r2 M_look_r96 M_look_m288 M_look_m311 M_look_r336
  dsimp only
  generalize M_look_l96 c 31 (S.1 3 - 1) (M_look_l2 S c 5 0 S) = Z at zI z1 z2 zB ⊢
  generalize hm : (if S.1 2 = 0 then S.2 1 (4 * c) else S.2 13 (16 * (S.1 2 - 1) + c)) = m
  generalize hn : (if S.2 5 c ≤ 9 then S.2 5 c else 9) = n
  have k := M_look_l336_inv (N := N) (S := S) (c := c) (Z := Z) (a := m) (b := n) hc (congrFun z1 3) (z2 2 (by decide)) 31 m n 0 0 0 Z (by omega) (by omega) (by omega) (by omega) (by omega) zI zB (fun h => h) rfl (fun _ _ => rfl)
  refine ⟨⟨?_, fun i j => ?_⟩, fun j hj => ?_, fun i hi => ?_, ?_⟩
  · exact k.1.1
  · exact k.1.2 i j
  · exact (if_neg hj).trans ((congrFun k.2.1 j).trans (congrFun z1 j))
  · exact (k.2.2 i (fun h => hi (by simp at h ⊢; exact Or.inr h))).trans (z2 i (fun h => hi (by simp at h ⊢; exact Or.inl h)))
  · exact InvM_a17 zI _
theorem M_look_rg {N : Int} (S : Sta) (c : Int) (hI : InvW N S) (hT : InvT S) (hc : 0 ≤ c ∧ c < 16) : 0 ≤ (M_look S c).1 ∧ (M_look S c).1 ≤ 1000000 := (M_look_all S c hI hT hc).2.2.2
theorem InvT_of {S S' : Sta} (hT : InvT S) (h4 : S'.2 4 = S.2 4) (h5 : S'.2 5 = S.2 5) : InvT S' := ⟨fun j => by rw [h4]; exact hT.1 j, fun j => by rw [h5]; exact hT.2 j⟩
def M_idles_m37 (S : Sta) (c : Int) (m37 : Int) : Int × Sta := (m37, (M_look S c).2)
def M_idles (S : Sta) (c : Int) : Int × Sta := if (M_noCard S c) = 0 then M_idles_m37 S c (if 1000000 ≤ (M_look S c).1 then (-99) else (((M_look S c).1) / 1000)) else ((-1), S)
set_option maxRecDepth 100000 in
theorem c_M_idles {l : Launch} {K : KK} {N : Int} (q : Nat → Nat) (S : Sta) (c : Int) (hI : InvW N S) (hT : InvT S) (hp2 : ok32 c) : CtI l yX3_idles cX3_idles 3 .int (3, 84) K [.ref (q 0), .int (iI c)] (wM K q S) (M_idles S c).1 (wM K q ((M_idles S c).2)) := by
  refine ctI_of (by decide) (Nat.le_of_ble_eq_true rfl) rfl ?_
  intro x X hD hR
  have hD : ∀ S9 : Sta, va_D (cx_A x) (wM K q S9) := fun S9 => va_D_same hD rfl
  have hs1 := InvM_s1 hI
  have hs2 := InvM_s2 hI
  have hs3 := InvM_s3 hI
  have hs4 := InvM_s4 hI
  refine gx_aload_n X dX3_idles_0 rfl 0 rfl ?_
  refine gx_iconst (z := 0) X dX3_idles_1 rfl ?_
  refine gM_t0 X (hD _) (InvM_t hI) dX3_idles_2 ?_
  refine gx_aload_n X dX3_idles_5 rfl 0 rfl ?_
  refine gx_iload_n X dX3_idles_6 rfl 1 rfl ?_
  refine gx_callVI (As := [.int (iI c)]) (rest := []) X (hD _) lk_M_97 (ci := 3) rfl rfl 0 rfl (c_M_noCard q S c hI (by omega)) jn_all rfl ⟨by decide, by decide⟩ (Nat.le_of_ble_eq_true rfl) dX3_idles_7 ?_
  have hq7_0 := M_noCard_sp S c
  refine gx_if_eq (tgt := 15) X dX3_idles_10 (by decide) (by omega) (fun hc10 => ?_) (fun hc10 => ?_)
  · refine gx_aload_n X dX3_idles_15 rfl 0 rfl ?_
    refine gx_iload_n X dX3_idles_16 rfl 1 rfl ?_
    refine gx_callVI (As := [.int (iI c)]) (rest := []) X (hD _) lk_M_175 (ci := 3) rfl rfl 0 rfl (c_M_look q S c hI hT (by omega)) jn_all rfl ⟨by decide, by decide⟩ (Nat.le_of_ble_eq_true rfl) dX3_idles_17 ?_
    have hp17_0 := M_look_rg S c hI hT (by omega)
    refine gx_istore_n X dX3_idles_20 rfl (by decide) rfl ?_
    refine gx_iload_n X dX3_idles_21 rfl 0 rfl ?_
    refine gx_ldc (z := 1000000) X t_M_161 dX3_idles_22 (by decide) ?_
    have J37 : ∀ (m37 : Int), m37 = (if 1000000 ≤ (M_look S c).1 then (-99) else (((M_look S c).1) / 1000)) → GG l (rmK (3, 84)) K x (wM K q ((M_look S c).2)) 37 [(0, .ref (q 0)), (1, .int (iI c)), (2, .int (iI (M_look S c).1))] [.int (iI m37)] := by
      intro m37 e_m37
      exact gx_iret hR (congrArg Prod.fst ((show M_idles S c = (m37, (M_look S c).2) from (if_pos hc10).trans (congrArg (fun z0 => M_idles_m37 S c z0) e_m37.symm)))) (ret2 (fun z => (wM K q z)) ((show M_idles S c = (m37, (M_look S c).2) from (if_pos hc10).trans (congrArg (fun z0 => M_idles_m37 S c z0) e_m37.symm)))) dX3_idles_37
    refine gx_icmp_ge (tgt := 35) X dX3_idles_24 (by decide) (by omega) (fun hc24 => ?_) (fun hc24 => ?_)
    · refine gx_bipush (z := (-99)) X dX3_idles_35 (by decide) ?_
      refine gx_sub [1, 2, 0] rfl ?_
      exact J37 (-99) ((if_pos hc24).symm) 
    · refine gx_iload_n X dX3_idles_27 rfl 0 rfl ?_
      refine gx_sipush (z := 1000) X dX3_idles_28 (by decide) ?_
      refine gx_idiv X dX3_idles_31 (by omega) ?_
      refine gx_goto (tgt := 37) X dX3_idles_32 (by decide) ?_
      refine gx_sub [1, 2, 0] rfl ?_
      exact J37 (((M_look S c).1) / 1000) ((if_neg hc24).symm) 
  · refine gx_iconst (z := (-1)) X dX3_idles_13 rfl ?_
    exact gx_iret hR (congrArg Prod.fst ((show M_idles S c = ((-1), S) from if_neg hc10))) (ret2 (fun z => (wM K q z)) ((show M_idles S c = ((-1), S) from if_neg hc10))) dX3_idles_14
def M_turning_m55 (S : Sta) (c : Int) (m55 : Int) : Int × Sta := (m55, (M_look S c).2)
def M_turning (S : Sta) (c : Int) (i : Int) : Int × Sta := if (M_noCard S c) = 0 then if (M_in i 0 ((S.1 3) - 1)) = 0 then ((-2), S) else M_turning_m55 S c (if 1000000 ≤ (M_look S c).1 then (-99) else ((M_look S c).2.2 18 i)) else ((-1), S)
set_option maxRecDepth 100000 in
theorem c_M_turning {l : Launch} {K : KK} {N : Int} (q : Nat → Nat) (S : Sta) (c : Int) (i : Int) (hI : InvW N S) (hT : InvT S) (hp2 : ok32 c) (hp3 : ok32 i) : CtI l yX3_turning cX3_turning 3 .int (3, 84) K [.ref (q 0), .int (iI c), .int (iI i)] (wM K q S) (M_turning S c i).1 (wM K q ((M_turning S c i).2)) := by
  refine ctI_of (by decide) (Nat.le_of_ble_eq_true rfl) rfl ?_
  intro x X hD hR
  have hD : ∀ S9 : Sta, va_D (cx_A x) (wM K q S9) := fun S9 => va_D_same hD rfl
  have hs1 := InvM_s1 hI
  have hs2 := InvM_s2 hI
  have hs3 := InvM_s3 hI
  have hs4 := InvM_s4 hI
  refine gx_aload_n X dX3_turning_0 rfl 0 rfl ?_
  refine gx_iconst (z := 0) X dX3_turning_1 rfl ?_
  refine gM_t0 X (hD _) (InvM_t hI) dX3_turning_2 ?_
  refine gx_aload_n X dX3_turning_5 rfl 0 rfl ?_
  refine gx_iload_n X dX3_turning_6 rfl 1 rfl ?_
  refine gx_callVI (As := [.int (iI c)]) (rest := []) X (hD _) lk_M_97 (ci := 3) rfl rfl 0 rfl (c_M_noCard q S c hI (by omega)) jn_all rfl ⟨by decide, by decide⟩ (Nat.le_of_ble_eq_true rfl) dX3_turning_7 ?_
  have hq7_0 := M_noCard_sp S c
  refine gx_if_eq (tgt := 15) X dX3_turning_10 (by decide) (by omega) (fun hc10 => ?_) (fun hc10 => ?_)
  · refine gx_iload_n X dX3_turning_15 rfl 2 rfl ?_
    refine gx_i2l X dX3_turning_16 (by omega) ?_
    refine gx_lconst (v := lI 0) X dX3_turning_17 rfl ?_
    refine gx_aload_n X dX3_turning_18 rfl 0 rfl ?_
    refine gM_g3 (v := (S.1 3)) X rfl dX3_turning_19 ?_
    refine gx_iconst (z := 1) X dX3_turning_22 rfl ?_
    refine gx_isub X dX3_turning_23 ?_
    refine gx_i2l X dX3_turning_24 (by omega) ?_
    refine gx_callSI (As := [.long (lI i), .long (lI 0), .long (lI ((S.1 3) - 1))]) (rest := []) X (hD _) lk_M_88 (c_M_in i 0 ((S.1 3) - 1) (by omega) (by omega) (by omega)) jn_nil rfl ⟨by decide, by decide⟩ (Nat.le_of_ble_eq_true rfl) dX3_turning_25 ?_
    have hq25_0 := M_in_sp i 0 ((S.1 3) - 1)
    refine gx_if_ne (tgt := 34) X dX3_turning_28 (by decide) (by omega) (fun hc28 => ?_) (fun hc28 => ?_)
    · refine gx_aload_n X dX3_turning_34 rfl 0 rfl ?_
      refine gx_iload_n X dX3_turning_35 rfl 1 rfl ?_
      refine gx_callVI (As := [.int (iI c)]) (rest := []) X (hD _) lk_M_175 (ci := 3) rfl rfl 0 rfl (c_M_look q S c hI hT (by omega)) jn_all rfl ⟨by decide, by decide⟩ (Nat.le_of_ble_eq_true rfl) dX3_turning_36 ?_
      have hp36_0 := M_look_rg S c hI hT (by omega)
      refine gx_ldc (z := 1000000) X t_M_161 dX3_turning_39 (by decide) ?_
      have J55 : ∀ (m55 : Int), m55 = (if 1000000 ≤ (M_look S c).1 then (-99) else ((M_look S c).2.2 18 i)) → GG l (rmK (3, 84)) K x (wM K q ((M_look S c).2)) 55 [(0, .ref (q 0)), (1, .int (iI c)), (2, .int (iI i))] [.int (iI m55)] := by
        intro m55 e_m55
        exact gx_iret hR (congrArg Prod.fst ((show M_turning S c i = (m55, (M_look S c).2) from (if_pos hc10).trans ((if_neg hc28).trans (congrArg (fun z0 => M_turning_m55 S c z0) e_m55.symm))))) (ret2 (fun z => (wM K q z)) ((show M_turning S c i = (m55, (M_look S c).2) from (if_pos hc10).trans ((if_neg hc28).trans (congrArg (fun z0 => M_turning_m55 S c z0) e_m55.symm))))) dX3_turning_55
      refine gx_icmp_ge (tgt := 53) X dX3_turning_41 (by decide) (by omega) (fun hc41 => ?_) (fun hc41 => ?_)
      · refine gx_bipush (z := (-99)) X dX3_turning_53 (by decide) ?_
        refine gx_sub [0, 1, 2] rfl ?_
        exact J55 (-99) ((if_pos hc41).symm) 
      · refine gx_aload_n X dX3_turning_44 rfl 0 rfl ?_
        refine gM_r18 X dX3_turning_45 ?_
        refine gx_iload_n X dX3_turning_48 rfl 2 rfl ?_
        refine gM_l18 (v := ((M_look S c).2.2 18 i)) X (by omega) rfl dX3_turning_49 ?_
        refine gx_goto (tgt := 55) X dX3_turning_50 (by decide) ?_
        refine gx_sub [0, 1, 2] rfl ?_
        exact J55 ((M_look S c).2.2 18 i) ((if_neg hc41).symm) 
    · refine gx_bipush (z := (-2)) X dX3_turning_31 (by decide) ?_
      exact gx_iret hR (congrArg Prod.fst ((show M_turning S c i = ((-2), S) from (if_pos hc10).trans (if_pos hc28)))) (ret2 (fun z => (wM K q z)) ((show M_turning S c i = ((-2), S) from (if_pos hc10).trans (if_pos hc28)))) dX3_turning_33
  · refine gx_iconst (z := (-1)) X dX3_turning_13 rfl ?_
    exact gx_iret hR (congrArg Prod.fst ((show M_turning S c i = ((-1), S) from if_neg hc10))) (ret2 (fun z => (wM K q z)) ((show M_turning S c i = ((-1), S) from if_neg hc10))) dX3_turning_14
def M_behind_m37 (S : Sta) (c : Int) (m37 : Int) : Int × Sta := (m37, (M_look S c).2)
def M_behind (S : Sta) (c : Int) : Int × Sta := if (M_noCard S c) = 0 then M_behind_m37 S c (if 1000000 ≤ (M_look S c).1 then (-99) else (((M_look S c).2.1 5) + 100)) else ((-1), S)
set_option maxRecDepth 100000 in
theorem c_M_behind {l : Launch} {K : KK} {N : Int} (q : Nat → Nat) (S : Sta) (c : Int) (hI : InvW N S) (hT : InvT S) (hp2 : ok32 c) : CtI l yX3_behind cX3_behind 2 .int (3, 84) K [.ref (q 0), .int (iI c)] (wM K q S) (M_behind S c).1 (wM K q ((M_behind S c).2)) := by
  refine ctI_of (by decide) (Nat.le_of_ble_eq_true rfl) rfl ?_
  intro x X hD hR
  have hD : ∀ S9 : Sta, va_D (cx_A x) (wM K q S9) := fun S9 => va_D_same hD rfl
  have hs1 := InvM_s1 hI
  have hs2 := InvM_s2 hI
  have hs3 := InvM_s3 hI
  have hs4 := InvM_s4 hI
  refine gx_aload_n X dX3_behind_0 rfl 0 rfl ?_
  refine gx_iconst (z := 0) X dX3_behind_1 rfl ?_
  refine gM_t0 X (hD _) (InvM_t hI) dX3_behind_2 ?_
  refine gx_aload_n X dX3_behind_5 rfl 0 rfl ?_
  refine gx_iload_n X dX3_behind_6 rfl 1 rfl ?_
  refine gx_callVI (As := [.int (iI c)]) (rest := []) X (hD _) lk_M_97 (ci := 3) rfl rfl 0 rfl (c_M_noCard q S c hI (by omega)) jn_all rfl ⟨by decide, by decide⟩ (Nat.le_of_ble_eq_true rfl) dX3_behind_7 ?_
  have hq7_0 := M_noCard_sp S c
  refine gx_if_eq (tgt := 15) X dX3_behind_10 (by decide) (by omega) (fun hc10 => ?_) (fun hc10 => ?_)
  · refine gx_aload_n X dX3_behind_15 rfl 0 rfl ?_
    refine gx_iload_n X dX3_behind_16 rfl 1 rfl ?_
    refine gx_callVI (As := [.int (iI c)]) (rest := []) X (hD _) lk_M_175 (ci := 3) rfl rfl 0 rfl (c_M_look q S c hI hT (by omega)) jn_all rfl ⟨by decide, by decide⟩ (Nat.le_of_ble_eq_true rfl) dX3_behind_17 ?_
    have hp17_0 := M_look_rg S c hI hT (by omega)
    refine gx_ldc (z := 1000000) X t_M_161 dX3_behind_20 (by decide) ?_
    have J37 : ∀ (m37 : Int), m37 = (if 1000000 ≤ (M_look S c).1 then (-99) else (((M_look S c).2.1 5) + 100)) → GG l (rmK (3, 84)) K x (wM K q ((M_look S c).2)) 37 [(0, .ref (q 0)), (1, .int (iI c))] [.int (iI m37)] := by
      intro m37 e_m37
      exact gx_iret hR (congrArg Prod.fst ((show M_behind S c = (m37, (M_look S c).2) from (if_pos hc10).trans (congrArg (fun z0 => M_behind_m37 S c z0) e_m37.symm)))) (ret2 (fun z => (wM K q z)) ((show M_behind S c = (m37, (M_look S c).2) from (if_pos hc10).trans (congrArg (fun z0 => M_behind_m37 S c z0) e_m37.symm)))) dX3_behind_37
    refine gx_icmp_ge (tgt := 35) X dX3_behind_22 (by decide) (by omega) (fun hc22 => ?_) (fun hc22 => ?_)
    · refine gx_bipush (z := (-99)) X dX3_behind_35 (by decide) ?_
      refine gx_sub [0, 1] rfl ?_
      exact J37 (-99) ((if_pos hc22).symm) 
    · refine gx_aload_n X dX3_behind_25 rfl 0 rfl ?_
      refine gM_g5 (v := ((M_look S c).2.1 5)) X rfl dX3_behind_26 ?_
      refine gx_bipush (z := 100) X dX3_behind_29 (by decide) ?_
      refine gx_iadd X dX3_behind_31 ?_
      refine gx_goto (tgt := 37) X dX3_behind_32 (by decide) ?_
      refine gx_sub [0, 1] rfl ?_
      exact J37 (((M_look S c).2.1 5) + 100) ((if_neg hc22).symm) 
  · refine gx_iconst (z := (-1)) X dX3_behind_13 rfl ?_
    exact gx_iret hR (congrArg Prod.fst ((show M_behind S c = ((-1), S) from if_neg hc10))) (ret2 (fun z => (wM K q z)) ((show M_behind S c = ((-1), S) from if_neg hc10))) dX3_behind_14
