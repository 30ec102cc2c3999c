/-! the class's constructor -/
theorem t_cl_T9 : Cond.classLink RX2 9 "TurnedCards$Card" ∈ TT := tt_mem 64 (by decide +kernel) (by decide +kernel)
theorem t_cl_T16 : Cond.classLink RX2 16 "TurnedCards$Planner" ∈ TT := tt_mem 135 (by decide +kernel) (by decide +kernel)
def PrT (U : State) : Prop := va_AO "TurnedCards$Card" U ∧ va_Nw (.methodLinkNest RX2 15 yX0_init RX2) U ∧ va_Nw (.methodLinkNest RX2 18 yX1_init RX2) U
theorem fl_congr {α : Type} {f g : Nat → List α} : ∀ n : Nat, (∀ j, j < n → f j = g j) → (List.range n).flatMap f = (List.range n).flatMap g := by
  intro n
  induction n with
  | zero => intro _; rfl
  | succ n ih =>
    intro h
    rw [List.range_succ, List.flatMap_append, List.flatMap_append, ih (fun j hj => h j (by omega))]
    congr 1
    simp [h n (by omega)]
def wZ (K : KK) (ca : Nat → Nat → Nat) (i : Nat) : va_W := (List.range i).flatMap (fun c => wC K (ca c) Z0)
theorem wZ_len (K : KK) (ca : Nat → Nat → Nat) (i : Nat) : (wZ K ca i).length = 9 * i := fl_len _ (fun _ => rfl) i
theorem wZ_succ (K : KK) (ca : Nat → Nat → Nat) (i : Nat) (q : Nat → Nat) : wZ K (fun n => if n = i then q else ca n) (i + 1) = wZ K ca i ++ wC K q Z0 := by
  unfold wZ
  rw [List.range_succ, List.flatMap_append]
  congr 1
  · exact fl_congr i (fun j hj => by show wC K (if j = i then q else ca j) Z0 = _; rw [if_neg (by omega)])
  · simp
def wU (K : KK) (h0 a1 : Nat) (ca : Nat → Nat → Nat) (i : Nat) : va_W := [(h0, .inr (2, [.ref a1, .null, .null, .int (iI 0), .int (iI 0), .int (iI 0), .int (iI 0)])), (a1, zR K 16 (fun n => if n < i then some (ca n 0) else none))] ++ wZ K ca i
theorem wU_len (K : KK) (h0 a1 : Nat) (ca : Nat → Nat → Nat) (i : Nat) : (wU K h0 a1 ca i).length = 2 + 9 * i := by
  unfold wU
  rw [List.length_append, wZ_len]
  rfl
theorem wU_step (K : KK) (h0 a1 : Nat) (ca : Nat → Nat → Nat) (i : Nat) (qq : Nat → Nat) : (wU K h0 a1 ca i ++ wC K qq Z0).set 1 (a1, zR K 16 (va_up (fun n => if n < i then some (ca n 0) else none) ((i : Int).toNat) (some (qq 0)))) = wU K h0 a1 (fun n => if n = i then qq else ca n) (i + 1) := by
  unfold wU
  rw [wZ_succ]
  have e : va_up (fun n => if n < i then some (ca n 0) else none) ((i : Int).toNat) (some (qq 0)) = (fun n => if n < i + 1 then some ((if n = i then qq else ca n) 0) else none) := by
    funext n
    rw [Int.toNat_natCast]
    by_cases h : n = i
    · subst h
      rw [va_up_self, if_pos (by omega), if_pos rfl]
    · rw [va_up_ne _ _ h, if_neg h]
      by_cases h2 : n < i
      · rw [if_pos h2, if_pos (by omega)]
      · rw [if_neg h2, if_neg (by omega)]
  rw [e]
  rfl
theorem zR_cong {cA : ClassId} {n : Nat} {f g : Nat → Option Nat} (h : ∀ j, j < n → f j = g j) : vp_cell cA (n, .inr (.inr (.inr (.inr f)))) = vp_cell cA (n, .inr (.inr (.inr (.inr g)))) := by
  show arrV cA n (fun j => va_rf (f j)) = arrV cA n (fun j => va_rf (g j))
  have e : (Array.ofFn fun j : Fin n => va_rf (f j.val)) = Array.ofFn fun j : Fin n => va_rf (g j.val) := congrArg Array.ofFn (funext fun j => by rw [h j.val j.isLt])
  unfold arrV
  rw [e]
def TZ : TS := (fun _ => 0, fun _ => 0, ZP, fun _ => Z0)
def uT (h0 a1 a2 : Nat) : Nat → Nat := fun n => match n with | 0 => h0 | 1 => a1 | _ => a2
/-- what the constructor has made, in the order in which it was made -/
def wV (K : KK) (h0 a1 a2 : Nat) (r : Nat → Nat) (ca : Nat → Nat → Nat) (f : Nat → Option Nat) : va_W := (([(h0, .inr (2, [.ref a1, .ref (r 0), .ref a2, .int (iI 0), .int (iI 0), .int (iI 0), .int (iI 0)])), (a1, zR K 16 f)] ++ wZ K ca 16) ++ wP K r ZP) ++ [(a2, zA K 60 (fun _ => 0))]
theorem wV_perm (K : KK) (h0 a1 a2 : Nat) (r : Nat → Nat) (ca : Nat → Nat → Nat) : (wV K h0 a1 a2 r ca (fun n => some (ca n 0))).Perm (wT K (uT h0 a1 a2) r ca TZ) := perm4 _ _ _ _
theorem wV_D {A : Nat → Prop} {K : KK} {h0 a1 a2 : Nat} {r : Nat → Nat} {ca : Nat → Nat → Nat} {f : Nat → Option Nat} (h : va_D A (wV K h0 a1 a2 r ca f)) : va_D A (wT K (uT h0 a1 a2) r ca TZ) := va_D_perm (va_D_same (ws' := wV K h0 a1 a2 r ca (fun n => some (ca n 0))) h rfl) (wV_perm K h0 a1 a2 r ca)
theorem wV_P {D : va_G} {K : KK} {h0 a1 a2 : Nat} {r : Nat → Nat} {ca : Nat → Nat → Nat} {H : Heap} (h : va_P D vwCl (wV K h0 a1 a2 r ca (fun n => if n < 16 then some (ca n 0) else none)) H) : va_P D vwCl (wT K (uT h0 a1 a2) r ca TZ) H := by
  refine jn_sub (ws := wV K h0 a1 a2 r ca (fun n => some (ca n 0))) (fun q hq => ((wV_perm K h0 a1 a2 r ca).mem_iff).mpr hq) ?_
  intro k q hk
  match k, hk with
  | 0, hk => exact h 0 q hk
  | 1, hk =>
    have e : q = (a1, zR K 16 (fun n => some (ca n 0))) := (Option.some.inj hk).symm
    subst e
    have h1 : H[a1]? = some (vp_cell K.2.2.2 (16, .inr (.inr (.inr (.inr (fun n => if n < 16 then some (ca n 0) else none)))))) := h 1 (a1, zR K 16 (fun n => if n < 16 then some (ca n 0) else none)) rfl
    rw [zR_cong (g := fun n => some (ca n 0)) (fun j hj => if_pos hj)] at h1
    exact h1
  | k + 2, hk => exact h (k + 2) q hk
theorem gx_toT {l : Launch} {R : Room} {K : KK} {x : Cx} {h0 a1 a2 : Nat} {r : Nat → Nat} {ca : Nat → Nat → Nat} {pc : Nat} {lv : List (Nat × Value)} {st : List Value} (kk : GG l R K x (wT K (uT h0 a1 a2) r ca TZ) pc lv st) : GG l R K x (wV K h0 a1 a2 r ca (fun n => if n < 16 then some (ca n 0) else none)) pc lv st := fun H locs ls hP hS hl => kk H locs ls (wV_P hP) hS hl
set_option maxRecDepth 100000 in
theorem c_T_init {l : Launch} {K : KK} (h0 : Nat) : CtN (α := (Nat → Nat) × (Nat → Nat) × (Nat → Nat → Nat)) l yX2_init cX2_init 2 (3, 66) 149 10212 K [.ref h0] [(h0, .inr (2, [.null, .null, .null, .int (iI 0), .int (iI 0), .int (iI 0), .int (iI 0)]))] PrT (fun v => wT K v.1 v.2.1 v.2.2 (T_startAgain TZ 4)) (fun v => v.1 0 = h0) := by
  refine ctN_of (by decide) (Nat.le_of_ble_eq_true rfl) rfl ?_
  intro x X hD hni hPr hR
  refine gx_aload_n X dX2_init_0 rfl 0 rfl ?_
  refine gx_objInit X t_obj_T t_obj_i t_obj_c (by decide) (by decide) dX2_init_1 ?_
  refine gx_aload_n X dX2_init_4 rfl 0 rfl ?_
  refine gx_bipush (z := 16) X dX2_init_5 (by decide) ?_
  refine gx_newq (k' := 1) (z' := 16) X hD t_cl_T9 hPr.1 16 rfl (by decide) rfl rfl (by decide) (by decide) dX2_init_7 (fun a1 X hD => ?_)
  have hD1 : va_D (cx_A x) (wU K h0 a1 (fun _ _ => 0) 0) := va_D_same hD rfl
  refine gx_putF (v := .ref a1) (ws' := wU K h0 a1 (fun _ _ => 0) 0) X (ci := 2) (T := TX2) (N := 7) (C := RX2) (ty := .array (.object "TurnedCards$Card")) i_T tyX2 tyX2_ok nmX2 hD 0 rfl rfl 0 (by decide) t_T_11 rfl rfl hni rfl (by decide +kernel) rfl rfl (Nat.le_of_ble_eq_true rfl) rfl dX2_init_10 ?_
  refine gx_iconst (z := 0) X dX2_init_13 rfl ?_
  refine gx_istore_n X dX2_init_14 rfl (by decide) rfl ?_
  have L : ∀ (n i : Nat) (ca : Nat → Nat → Nat), i + n = 16 → OK l (rmN (3, 66) 149 10212) K (cxw x (1 + 9 * i) (16 + 323 * i)) cX2_init 2 RX2 → va_D (cx_A x) (wU K h0 a1 ca i) → (∀ ca : Nat → Nat → Nat, OK l (rmN (3, 66) 149 10212) K (cxw x 145 5184) cX2_init 2 RX2 → va_D (cx_A x) (wU K h0 a1 ca 16) → GG l (rmN (3, 66) 149 10212) K (cxw x 145 5184) (wU K h0 a1 ca 16) 40 [(0, .ref h0)] []) → GG l (rmN (3, 66) 149 10212) K (cxw x (1 + 9 * i) (16 + 323 * i)) (wU K h0 a1 ca i) 15 [(1, .int (iI (i : Int))), (0, .ref h0)] [] := by
    intro n
    induction n with
    | zero =>
      intro i ca hi X hD Kx
      have hi2 : i = 16 := by omega
      subst hi2
      refine gx_iload_n X dX2_init_15 rfl 0 rfl ?_
      refine gx_bipush (z := 16) X dX2_init_16 (by decide) ?_
      refine gx_icmp_ge (tgt := 40) X dX2_init_18 (by decide) (by decide) (fun _ => ?_) (fun h => absurd (by decide) h)
      refine gx_sub [1] rfl ?_
      exact Kx ca X hD
    | succ n ih =>
      intro i ca hi X hD Kx
      refine gx_iload_n X dX2_init_15 rfl 0 rfl ?_
      refine gx_bipush (z := 16) X dX2_init_16 (by decide) ?_
      refine gx_icmp_ge (tgt := 40) X dX2_init_18 (by decide) (by omega) (fun h => absurd h (by omega)) (fun _ => ?_)
      refine gx_aload_n X dX2_init_21 rfl 1 rfl ?_
      refine gx_get X (ci := 2) (T := TX2) (N := 7) (C := RX2) i_T 0 rfl rfl 0 (by decide) t_T_11 rfl rfl dX2_init_22 ?_
      refine gx_iload_n X dX2_init_25 rfl 0 rfl ?_
      refine gx_new (k' := 1 + 9 * i + 1) (z' := 16 + 323 * i + 15) (fs := [.null, .null, .null, .null, .null, .null, .null, .null, .int (iI 0), .int (iI 0), .int (iI 0), .int (iI 0), .int (iI 0), .int (iI 0), .int (iI 0)]) X hD (C := RX0) (T := TX0) (N := 15) (ci := 0) i_C tyX0 tyX0_ok t_cl_T9 t_inst_C t_ini_C rfl (fun j hj => by rcases (show j = 0 ∨ j = 1 ∨ j = 2 ∨ j = 3 ∨ j = 4 ∨ j = 5 ∨ j = 6 ∨ j = 7 ∨ j = 8 ∨ j = 9 ∨ j = 10 ∨ j = 11 ∨ j = 12 ∨ j = 13 ∨ j = 14 by omega) with rfl | rfl | rfl | rfl | rfl | rfl | rfl | rfl | rfl | rfl | rfl | rfl | rfl | rfl | rfl <;> rfl) rfl rfl (by show _ ≤ 149; omega) (by show _ ≤ 10212; omega) dX2_init_26 (fun q X hD => ?_)
      refine gx_dup X dX2_init_29 rfl ?_
      refine gx_callNN (k' := 1 + 9 * (i + 1)) (z' := 16 + 323 * (i + 1)) X hD hPr.2.1 t_ini_C t_im_C t_code_C rfl (by decide) (c_C_init q) ⟨by decide, by decide⟩ (Nat.le_of_ble_eq_true rfl) (by omega) (by omega) (by show _ ≤ 149; omega) (by show _ ≤ 10212; omega) dX2_init_30 (fun qq hqq X hD9 => ?_)
      subst hqq
      have hD2 : va_D (cx_A x) (wU K h0 a1 (fun n => if n = i then qq else ca n) (i + 1)) := by
        rw [← wU_step]
        exact va_D_same hD9 rfl
      have hv9 : (wU K h0 a1 ca i ++ wC K qq Z0)[2 + 9 * i]? = some (qq 0, .inr (0, [.ref (qq 1), .ref (qq 2), .ref (qq 3), .ref (qq 4), .ref (qq 5), .ref (qq 6), .ref (qq 7), .ref (qq 8), .int (iI (Z0.1 0)), .int (iI (Z0.1 1)), .int (iI (Z0.1 2)), .int (iI (Z0.1 3)), .int (iI (Z0.1 4)), .int (iI (Z0.1 5)), .int (iI (Z0.1 6))])) := by
        rw [List.getElem?_append_right (by rw [wU_len]; exact Nat.le_refl _), wU_len, Nat.sub_self]
        rfl
      refine gx_aast (i := (i : Int)) X hD9 1 (2 + 9 * i) rfl hv9 ⟨by omega, by omega, by omega⟩ (wU_step K h0 a1 ca i qq) dX2_init_33 ?_
      refine gx_iinc X dX2_init_34 0 rfl (by decide) rfl ?_
      refine gx_goto (tgt := 15) X dX2_init_37 (by decide) ?_
      have k := ih (i + 1) _ (by omega) X hD2 Kx
      rw [show (((i + 1 : Nat)) : Int) = (i : Int) + 1 by omega] at k
      exact k
  refine L 16 0 (fun _ _ => 0) rfl X hD1 (fun ca X hD => ?_)
  refine gx_aload_n X dX2_init_40 rfl 0 rfl ?_
  refine gx_new (k' := 146) (z' := 5192) (fs := [.null, .null, .int (iI 0), .long 0, .int (iI 0), .int (iI 0), .int (iI 0), .long 0]) X hD (C := RX1) (T := TX1) (N := 8) (ci := 1) i_P tyX1 tyX1_ok t_cl_T16 t_inst_P t_ini_P rfl (fun j hj => by rcases (show j = 0 ∨ j = 1 ∨ j = 2 ∨ j = 3 ∨ j = 4 ∨ j = 5 ∨ j = 6 ∨ j = 7 by omega) with rfl | rfl | rfl | rfl | rfl | rfl | rfl | rfl <;> rfl) rfl rfl (by decide) (by decide) dX2_init_41 (fun q X hD => ?_)
  refine gx_dup X dX2_init_44 rfl ?_
  refine gx_callNN (k' := 148) (z' := 10152) X hD hPr.2.2 t_ini_P t_im_P t_code_P rfl (by decide) (c_P_init q) ⟨by decide, by decide⟩ (Nat.le_of_ble_eq_true rfl) rfl rfl (by decide) (by decide) dX2_init_45 (fun r hr X hD9 => ?_)
  subst hr
  refine gx_putF (v := .ref (r 0)) (ws' := (([(h0, .inr (2, [.ref a1, .ref (r 0), .null, .int (iI 0), .int (iI 0), .int (iI 0), .int (iI 0)])), (a1, zR K 16 (fun n => if n < 16 then some (ca n 0) else none))] ++ wZ K ca 16) ++ wP K r ZP)) X (ci := 2) (T := TX2) (N := 7) (C := RX2) (ty := .object "TurnedCards$Planner") i_T tyX2 tyX2_ok nmX2 hD9 0 rfl rfl 1 (by decide) t_T_19 rfl rfl hni rfl (by decide +kernel) rfl rfl (Nat.le_of_ble_eq_true rfl) rfl dX2_init_48 ?_
  have hD : va_D (cx_A x) (([(h0, .inr (2, [.ref a1, .ref (r 0), .null, .int (iI 0), .int (iI 0), .int (iI 0), .int (iI 0)])), (a1, zR K 16 (fun n => if n < 16 then some (ca n 0) else none))] ++ wZ K ca 16) ++ wP K r ZP) := va_D_same hD9 rfl
  refine gx_aload_n X dX2_init_51 rfl 0 rfl ?_
  refine gx_bipush (z := 60) X dX2_init_52 (by decide) ?_
  refine gx_newi (k' := 149) (z' := 10212) X hD t_int 60 rfl (by decide) rfl rfl (by decide) (by decide) dX2_init_54 (fun a2 X hD => ?_)
  refine gx_putF (v := .ref a2) (ws' := wV K h0 a1 a2 r ca (fun n => if n < 16 then some (ca n 0) else none)) X (ci := 2) (T := TX2) (N := 7) (C := RX2) (ty := .array .int) i_T tyX2 tyX2_ok nmX2 hD 0 rfl rfl 2 (by decide) t_T_23 rfl rfl hni rfl (by decide +kernel) rfl rfl (Nat.le_of_ble_eq_true rfl) rfl dX2_init_56 ?_
  have hD : va_D (cx_A x) (wV K h0 a1 a2 r ca (fun n => if n < 16 then some (ca n 0) else none)) := va_D_same hD rfl
  have hD := wV_D hD
  refine gx_toT ?_
  refine gx_aload_n X dX2_init_59 rfl 0 rfl ?_
  refine gx_iconst (z := 4) X dX2_init_60 rfl ?_
  refine gx_callVV (As := [.int (iI 4)]) (rest := []) X hD lk_T_27 (ci := 2) rfl rfl 0 rfl (c_T_startAgain (uT h0 a1 a2) r ca TZ 4 (by decide)) jn_all rfl ⟨by decide, by decide⟩ (Nat.le_of_ble_eq_true rfl) dX2_init_61 ?_
  exact gx_vret (hR (uT h0 a1 a2, r, ca) 149 10212 rfl (by decide) (by decide) (va_D_same hD rfl)) rfl dX2_init_64
