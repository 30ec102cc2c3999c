/-! THE CLAIM OUT OF ONE WALK OF THE LAW'S BODY. Your part is whole_start (and what it stands on); all else here is the same for every law, but numbers. -/
def R_law : String := "TurnedCardsLaw"
def lw_P (b : Addr) (xs : List Int32) (args : Array Value) (s : State) : Prop := args = #[.ref b] ∧ s.IntsAt b xs ∧ xs.length ≤ 2560 ∧ (Jvm.Cond.and given_1 narrow_1).before args s = true
def lw_Q (_ : Array Value) (s : State) (o : Outcome) (t : State) : Prop := o = .returned (some (.int 1)) ∧ Framed s o t [] 600000 7302249
def lw_Z (below : List Frame) (a : Array Value) (s : State) : State → Prop := fun t => ∃ o, t.status = .running ∧ Ended t below o ∧ lw_Q a s o t
/-- the law's own end, with 1 on the stack, nothing written that was there before, its room as the claim has it -/
theorem lw_ret {p : Program} {l : Launch} {e : Env} {s : State} {m : MethodId} {below : List Frame} {meth : Method} {c : Code} {b : Nat} (hx : p.tables.exec = Jvm.exec) (hb : c.code = code) (hr : meth.sig.returnType = ret) (hlocks : meth.locks = false) {pc : Nat} {H : Heap} {ls : Array Slot} (hdg : decode code pc = .ok (.ireturn, 1)) : W p l e room_1 s m #[Value.ref b] below meth c H [] 600000 7302249 (lw_Z below #[Value.ref b] s) (F0 m pc ls [.int 1]) := by
  intro T hT X
  obtain ⟨fs, hret, hrun, hended, hW, hframe⟩ := X.leave (v := some (.int 1)) (hlocks := hlocks) (fun h => by rw [hr] at h; cases h)
  have hmeth' : T.vm.method? m = some meth := X.method'
  refine ⟨T.setFrames fs, ?_, .returned (some (.int 1)), hrun, hended, rfl, ⟨_, rfl⟩, hW, hframe⟩
  jvm_step X.here [X.here.top, hx, hb, hdg, hmeth', hr, ret, narrow_b1]
  (try refine ⟨rfl, ?_⟩); (try refine ⟨rfl, ?_⟩)
  first | (intro acts; rw [hret _ acts rfl rfl rfl]) | rw [hret _ _ rfl rfl rfl]
  exact Steps.refl _
/-- what holds at the law's entry: the machine, the code, the tables' words (any of lw_tbl by 'hts w (by decide +kernel)'), the script of L ints xs at the cell b, what the Statement gives of the start (any of its parts by flat_of_before) -/
def lw_At (p : Program) (s : State) (m : MethodId) (meth : Method) (c : Code) (b L : Nat) (xs : Nat → Int32) : Prop :=
  p.tables.exec = Jvm.exec ∧ c.code = code ∧ meth.sig.returnType = ret ∧ c.maxLocals = 4 ∧ s.vm.findClass R_law = some m.cls ∧ (∀ w ∈ lw_tbl, w.before #[Value.ref b] s = true) ∧ va_X b L xs s s.heap ∧ b < s.heap.size ∧ meth.locks = false ∧ (Jvm.Cond.and given_1 narrow_1).before #[Value.ref b] s = true
set_option maxRecDepth 100000 in
set_option maxHeartbeats 4000000 in
theorem whole_start {p : Program} {e : Env} {s : State} {m : MethodId} {below : List Frame} {meth : Method} {c : Code} (l : Launch) {b L : Nat} {xs : Nat → Int32} (hL : L ≤ 2560) (C0 : lw_At p s m meth c b L xs) : W p l e room_1 s m #[Value.ref b] below meth c s.heap [] 0 0 (lw_Z below #[Value.ref b] s) (entryFrame m ([Value.ref b] : List Value).toArray 4) := by
  obtain ⟨hx, hb, hr, hml, hown, hts, hX, hbl, hlocks, hgv⟩ := id C0
  have htt : ∀ w ∈ TT, w.before #[Value.ref b] s = true := fun w hw => hts w (List.mem_filter.mp hw).1
  obtain ⟨c0, i0, k0⟩ := u_known (C := RX0) (T := TX0) (N := 15) (n := 15) htt i_C (htt _ t_inst_C)
  obtain ⟨c1, i1, k1⟩ := u_known (C := RX1) (T := TX1) (N := 8) (n := 8) htt i_P (htt _ t_inst_P)
  obtain ⟨c2, i2, k2⟩ := u_known (C := RX2) (T := TX2) (N := 7) (n := 7) htt i_T (htt _ t_inst_T)
  obtain ⟨c3, i3, k3⟩ := u_known (C := RX3) (T := TX3) (N := 26) (n := 26) htt i_M (htt _ t_inst_M)
  obtain ⟨cI, kI, pI9, fI, gI, eI⟩ := Cond.arrayClass_spec (htt _ t_int)
  obtain ⟨cL, kL, pL9, fL, gL, eL⟩ := Cond.arrayClass_spec (htt _ t_long)
  have hAO : (Cond.arrayOver (.object "TurnedCards$Card")).before #[Value.ref b] s = true := hts _ (List.mem_of_getElem? (i := 65) (by decide +kernel))
  obtain ⟨pC, cC, kC, nC, -, gC, eC, fC⟩ := Cond.arrayOver_spec hAO
  obtain ⟨K, hK⟩ : ∃ K : KK, va_K K.1 vwCl (kt K) s := by
    refine ⟨((fun k => if k = 0 then c0 else if k = 1 then c1 else if k = 2 then c2 else c3, fun k => if k = 0 then i0 else if k = 1 then i1 else if k = 2 then i2 else i3), (cI, cL, cC)), fun k q hq => ?_, fun k q hq => ?_⟩
    · match k, hq with
      | 0, hq => cases hq; exact k0
      | 1, hq => cases hq; exact k1
      | 2, hq => cases hq; exact k2
      | 3, hq => cases hq; exact k3
      | k + 4, hq => simp [vwCl] at hq
    · match k, hq with
      | 0, hq => cases hq; exact ⟨fun n z => ⟨fun k h => (by cases h), kI, gI, pI9, eI⟩, fI⟩
      | 1, hq => cases hq; exact ⟨fun n z => ⟨fun k h => (by cases h), kL, gL, pL9, eL⟩, fL⟩
      | 2, hq => cases hq; exact ⟨fun n z => ⟨fun k h => (by cases h), kC, gC, pC, eC⟩, kC, pC, gC, eC, nC, fC⟩
      | k + 3, hq => simp [kt] at hq
  have hbA : ¬ (fun q : Nat => s.heap.size ≤ q) b := Nat.not_le.mpr hbl
  have nst1 : va_Nw (.methodLinkNest RX2 15 yX0_init RX2) s := va_Nw.of rfl (hts _ (List.mem_of_getElem? (i := 67) (by decide +kernel)))
  have nst2 : va_Nw (.methodLinkNest RX2 18 yX1_init RX2) s := va_Nw.of rfl (hts _ (List.mem_of_getElem? (i := 137) (by decide +kernel)))
  rw [lg_entry_eq]
  have G : GG l room_1 K (cxw (p, e, s, m, #[Value.ref b], below, meth, c, lw_Z below #[Value.ref b] s, (fun q : Nat => s.heap.size ≤ q), 0, 0) 0 0) [] 0 [(0, .ref b)] [] := by
    have X : OK l room_1 K (cxw (p, e, s, m, #[Value.ref b], below, meth, c, lw_Z below #[Value.ref b] s, (fun q : Nat => s.heap.size ≤ q), 0, 0) 0 0) cL_law 4 RL := ⟨⟨⟨hx, hb, hml, hown, htt⟩, hK⟩, fun q h => h, Nat.zero_le _, Nat.zero_le _, rfl⟩
    have hD : va_D (fun q : Nat => s.heap.size ≤ q) [] := ⟨fun i j p q h => by simp at h, fun k q h => by simp at h⟩
    have ex : ∀ (k z : Nat) (ws : va_W) (lv : List (Nat × Value)), k ≤ 600000 → z ≤ 7302249 → GG l room_1 K (cxw (p, e, s, m, #[Value.ref b], below, meth, c, lw_Z below #[Value.ref b] s, (fun q : Nat => s.heap.size ≤ q), 0, 0) k z) ws 1211 lv [.int (iI 1)] := by
      intro k z ws lv hk hz H locs ls hP hS hl
      refine va_forget (fun q hq => hS.2.2 q hq) ?_
      refine W.widen (k := 600000) (n := 7302249) hk hz ?_
      exact lw_ret hx hb hr hlocks dL_law_1211
    generalize hx0 : (p, e, s, m, #[Value.ref b], below, meth, c, lw_Z below #[Value.ref b] s, (fun q : Nat => s.heap.size ≤ q), 0, 0) = x0 at X ex ⊢
    have xs0 : cx_s x0 = s := by rw [← hx0]; rfl
    have xA0 : cx_A x0 = (fun q : Nat => s.heap.size ≤ q) := by rw [← hx0]; rfl
    rw [← xA0] at hD
    refine gx_new (k' := 1) (z' := 7) (fs := [.null, .null, .null, .int (iI 0), .int (iI 0), .int (iI 0), .int (iI 0)]) X hD (C := RX2) (T := TX2) (N := 7) (ci := 2) i_T tyX2 tyX2_ok t_cl_L7 t_inst_T t_ini_T rfl (fun j hj => by rcases (show j = 0 ∨ j = 1 ∨ j = 2 ∨ j = 3 ∨ j = 4 ∨ j = 5 ∨ j = 6 by omega) with rfl | rfl | rfl | rfl | rfl | rfl | rfl <;> rfl) rfl rfl (by decide) (by decide) dL_law_0 (fun a X hD => ?_)
    refine gx_dup X dL_law_3 rfl ?_
    refine gx_callNI (k' := 150) (z' := 10219) X hD t_ml_L9 t_ini_T t_im_T t_code_T rfl (by decide) (c_T_init a) (fun U g mk a9 q => ⟨va_AO.moved (u := U) (U := U.calling g mk a9) (Vm.Alike.refl U.vm) q.1, va_Nw.same rfl (rfl : U.vm = (U.calling g mk a9).vm) q.2.1, va_Nw.same rfl (rfl : U.vm = (U.calling g mk a9).vm) q.2.2⟩) (fun U hW => by rw [xs0] at hW; exact ⟨va_AO.moved hW.alike (va_AO.of hAO), va_Nw.warmM hW nst1, va_Nw.warmM hW nst2⟩) ⟨by decide, by decide⟩ (Nat.le_of_ble_eq_true rfl) rfl rfl (by decide) (by decide) dL_law_4 (fun v hv X hD1 => ?_)
    obtain ⟨u, r, ca⟩ := v
    have hv : u 0 = a := hv
    subst hv
    have hD1 : va_D (cx_A x0) (wT K u r ca (T_startAgain TZ 4)) := hD1
    refine gx_eq (ws' := wT K u r ca (T_startAgain TZ 4)) ?_ rfl rfl rfl
    refine gx_astore_n (lv' := [(1, .ref (u 0)), (0, .ref b)]) X dL_law_7 rfl (by decide) rfl ?_
    refine gx_new (k' := 151) (z' := 10245) (fs := [.int (iI 0), .int (iI 0), .int (iI 0), .null, .null, .null, .null, .null, .null, .null, .null, .null, .null, .null, .null, .null, .null, .null, .null, .null, .int (iI 0), .int (iI 0), .null, .null, .null, .int (iI 0)]) X hD1 (C := RX3) (T := TX3) (N := 26) (ci := 3) i_M tyX3 tyX3_ok t_cl_L10 t_inst_M t_ini_M rfl (fun j hj => by rcases (show j = 0 ∨ j = 1 ∨ j = 2 ∨ j = 3 ∨ j = 4 ∨ j = 5 ∨ j = 6 ∨ j = 7 ∨ j = 8 ∨ j = 9 ∨ j = 10 ∨ j = 11 ∨ j = 12 ∨ j = 13 ∨ j = 14 ∨ j = 15 ∨ j = 16 ∨ j = 17 ∨ j = 18 ∨ j = 19 ∨ j = 20 ∨ j = 21 ∨ j = 22 ∨ j = 23 ∨ j = 24 ∨ j = 25 by omega) with rfl | rfl | rfl | rfl | rfl | rfl | rfl | rfl | rfl | rfl | rfl | rfl | rfl | rfl | rfl | rfl | rfl | rfl | rfl | rfl | rfl | rfl | rfl | rfl | rfl | rfl <;> rfl) rfl rfl (by decide) (by decide) dL_law_8 (fun a X hD2 => ?_)
    refine gx_dup X dL_law_11 rfl ?_
    refine gx_callNI (k' := 171) (z' := 325523) X hD2 t_ml_L12 t_ini_M t_im_M t_code_M rfl (by decide) (c_M_init a) (fun _ _ _ _ q => q) (fun _ _ => trivial) ⟨by decide, by decide⟩ (Nat.le_of_ble_eq_true rfl) rfl rfl (by decide) (by decide) dL_law_12 (fun q hq X hD3 => ?_)
    subst hq
    refine gx_astore_n (lv' := [(2, .ref (q 0)), (1, .ref (u 0)), (0, .ref b)]) X dL_law_15 rfl (by decide) rfl ?_
    refine gx_iconst (z := 0) X dL_law_16 rfl ?_
    refine gx_istore_n (lv' := [(3, .int (iI 0)), (2, .ref (q 0)), (1, .ref (u 0)), (0, .ref b)]) X dL_law_17 rfl (by decide) rfl ?_
    exact law_loop (u := u) (r := r) (q := q) (ca := ca) (xs := xs) ⟨X, by show va_X b L xs (cx_s x0) (cx_s x0).heap; rw [xs0]; exact hX, by show b < (cx_s x0).heap.size; rw [xs0]; exact hbl, by show ¬ cx_A x0 b; rw [xA0]; exact hbA, fun T S => va_D_same hD3 rfl⟩ hL (fun T S lv => ex 171 325523 _ lv (by decide) (by decide)) (L + 1) 0 0 _ _ Rel_first (by decide) (by decide) (by omega) (by omega)
  exact G s.heap [] _ (fun k q h => by simp at h) va_S.rf (by rw [show (cx_c (cxw (p, e, s, m, #[Value.ref b], below, meth, c, lw_Z below #[Value.ref b] s, (fun q : Nat => s.heap.size ≤ q), 0, 0) 0 0)).maxLocals = 4 from hml]; exact lv_entry [.ref b] (Nat.le_of_ble_eq_true rfl))
