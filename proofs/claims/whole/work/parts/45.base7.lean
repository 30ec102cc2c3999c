section GC
variable {α : Type} {l : Launch} {R : Room} {K : KK} {x : Cx} {cc : ByteArray} {nL : Nat} {own : String} {pc : Nat} {lv : List (Nat × Value)} {rest : List Value} {k z k' z' : Nat}
/-- a nest mate's constructor -/
theorem gx_callNN {wr : va_W} {e0 : va_E} {a i mL mc ms : Nat} {y : MethodName} {b : ByteArray} {host : String} {kf : Nat × Nat} {W' : α → va_W} {Po : α → Prop} (X : OK l R K (cxw x k z) cc nL own) (hD : va_D (cx_A x) (wr ++ [(a, e0)])) (hNw : va_Nw (.methodLinkNest own i y host) (cx_s x)) (hini : Cond.initialized y.cls ∈ TT) (him : Cond.instanceMethod y ∈ TT) (hcode : Cond.code y b mL none ∈ TT) (hyn : y.name = "<init>") (hd : y.cls ≠ "java/lang/invoke/MethodHandle" ∧ y.cls ≠ "java/lang/invoke/VarHandle" ∧ (parseMethodDescriptor y.desc).map (fun d => d.parameters.length) = some 0) (hM : CtN (α := α) l y b mL kf mc ms K [.ref a] [(a, e0)] (fun _ => True) W' Po) (hR : kf.1 + 1 ≤ R.frames ∧ 8 + (mL + 11) + kf.2 ≤ R.locals) (hr : (rest.map fun v => v.category).sum ≤ 8) (ek : k + mc = k') (ez : z + ms = z') (hc : k' ≤ R.cells) (hs : z' ≤ R.slots) (hdg : decode cc pc = .ok (.invokespecial i, 3)) (cont : ∀ u : α, Po u → OK l R K (cxw x k' z') cc nL own → va_D (cx_A x) (wr ++ W' u) → GG l R K (cxw x k' z') (wr ++ W' u) (pc + 3) lv rest) : GG l R K (cxw x k z) (wr ++ [(a, e0)]) pc lv (.ref a :: rest) := by
  subst ek; subst ez
  intro H locs ls hP hS hl
  have hPc : va_P K.1 vwCl [(a, e0)] H := jn_sub (fun q h => List.mem_append_right _ h) hP
  have hF := jn_free (wc := [(a, e0)]) (fun q h => List.mem_append_right _ h) hD hS X.2.1
  refine va_callv (va_runIN (As := []) (rest := rest) (g := F0 (cx_m x) pc ls (.ref a :: rest)) X.1.1 (hM H.size) ⟨va_cnB 0 X.1.1.2.2.2.2 (tt_good hcode) rfl rfl rfl hNw (X.1.1.2.2.2.2 _ hini) hd hR, hyn, X.1.1.2.2.2.2 _ him⟩ ⟨pwN_blind (fun _ _ _ _ h => h), fun U hU hW => ⟨rfl, ⟨by rw [hU], by rw [hU]; exact hPc, va_K.moved hW.alike X.1.2, (jn_r (B' := []) hD).2.2 _ hD⟩, trivial⟩⟩ rfl rfl (by show ls.size = nL; rw [hl.1]; exact X.1.1.2.2.1) rfl (lv_room hr) hdg ⟨hc, hs⟩) hS (fun q _ h => hF q h) hF (fun u t H1 locs1 ht hvm hw hB hz1 hk1 hS1 => ?_)
  obtain ⟨hP1, hD1⟩ := hB
  rw [ht] at hP1
  have j := join_r hP hD hk1 hF hP1 hD1
  exact cont u hw (ok_w X hc hs) j.2 H1 locs1 ls j.1 hS1 hl
/-- a public constructor -/
theorem gx_callNI {wr : va_W} {e0 : va_E} {a i mL mc ms : Nat} {y : MethodName} {b : ByteArray} {kf : Nat × Nat} {Pr : State → Prop} {W' : α → va_W} {Po : α → Prop} (X : OK l R K (cxw x k z) cc nL own) (hD : va_D (cx_A x) (wr ++ [(a, e0)])) (hlk : Cond.methodLink own i y ∈ TT) (hini : Cond.initialized y.cls ∈ TT) (him : Cond.instanceMethod y ∈ TT) (hcode : Cond.code y b mL none ∈ TT) (hyn : y.name = "<init>") (hd : y.cls ≠ "java/lang/invoke/MethodHandle" ∧ y.cls ≠ "java/lang/invoke/VarHandle" ∧ (parseMethodDescriptor y.desc).map (fun d => d.parameters.length) = some 0) (hM : CtN (α := α) l y b mL kf mc ms K [.ref a] [(a, e0)] Pr W' Po) (hPb : ∀ (U : State) (g : JFrame) (mk : MethodId) (a : Array Value), Pr U → Pr (U.calling g mk a)) (hPm : ∀ U : State, (cx_s x).WarmedH U.vm → Pr U) (hR : kf.1 + 1 ≤ R.frames ∧ 8 + (mL + 11) + kf.2 ≤ R.locals) (hr : (rest.map fun v => v.category).sum ≤ 8) (ek : k + mc = k') (ez : z + ms = z') (hc : k' ≤ R.cells) (hs : z' ≤ R.slots) (hdg : decode cc pc = .ok (.invokespecial i, 3)) (cont : ∀ u : α, Po u → OK l R K (cxw x k' z') cc nL own → va_D (cx_A x) (wr ++ W' u) → GG l R K (cxw x k' z') (wr ++ W' u) (pc + 3) lv rest) : GG l R K (cxw x k z) (wr ++ [(a, e0)]) pc lv (.ref a :: rest) := by
  subst ek; subst ez
  intro H locs ls hP hS hl
  have hPc : va_P K.1 vwCl [(a, e0)] H := jn_sub (fun q h => List.mem_append_right _ h) hP
  have hF := jn_free (wc := [(a, e0)]) (fun q h => List.mem_append_right _ h) hD hS X.2.1
  refine va_callv (va_runI (As := []) (rest := rest) (g := F0 (cx_m x) pc ls (.ref a :: rest)) X.1.1 (hM H.size) (cwI 0 X.1.1.2.2.2.2 (tt_good hcode) rfl rfl rfl (X.1.1.2.2.2.2 _ hini) (X.1.1.2.2.2.2 _ hlk) (X.1.1.2.2.2.2 _ him) hyn hd hR) ⟨pwN_blind hPb, fun U hU hW => ⟨rfl, ⟨by rw [hU], by rw [hU]; exact hPc, va_K.moved hW.alike X.1.2, (jn_r (B' := []) hD).2.2 _ hD⟩, hPm U hW⟩⟩ rfl rfl (by show ls.size = nL; rw [hl.1]; exact X.1.1.2.2.1) rfl (lv_room hr) hdg ⟨hc, hs⟩) hS (fun q _ h => hF q h) hF (fun u t H1 locs1 ht hvm hw hB hz1 hk1 hS1 => ?_)
  obtain ⟨hP1, hD1⟩ := hB
  rw [ht] at hP1
  have j := join_r hP hD hk1 hF hP1 hD1
  exact cont u hw (ok_w X hc hs) j.2 H1 locs1 ls j.1 hS1 hl
end GC
