set_option maxRecDepth 100000 in
theorem law_0 {l : Launch} {K : KK} {x : Cx} {b L : Nat} {xs : Nat → Int32} {u r q : Nat → Nat} {ca : Nat → Nat → Nat} {N i : Int} {T : TS} {S : Sta} (Z : LwX l K x b L xs u r ca q) (h : Rel N T S) (hN : N + 1 ≤ 1000) (hi : 0 ≤ i ∧ i + 5 ≤ (L : Int) ∧ (L : Int) ≤ 2560) (next : ∀ (T' : TS) (S' : Sta), Rel (N + 1) T' S' → GG l room_1 K x (wT K u r ca T' ++ wM K q S') 1204 [(3, .int (iI i)), (2, .ref (q 0)), (1, .ref (u 0)), (0, .ref b)] []) : GG l room_1 K x (wT K u r ca T ++ wM K q S) 184 [(3, .int (iI i)), (2, .ref (q 0)), (1, .ref (u 0)), (0, .ref b)] [] := by
  obtain ⟨X, hX, hbl, hbA, hD⟩ := Z
  obtain ⟨a1, ha1, e1⟩ : ∃ a : Int, ok32 a ∧ xs (i + 1).toNat = iI a := ⟨_, ok_toInt _, iI_of _⟩
  obtain ⟨a2, ha2, e2⟩ : ∃ a : Int, ok32 a ∧ xs (i + 2).toNat = iI a := ⟨_, ok_toInt _, iI_of _⟩
  obtain ⟨a3, ha3, e3⟩ : ∃ a : Int, ok32 a ∧ xs (i + 3).toNat = iI a := ⟨_, ok_toInt _, iI_of _⟩
  obtain ⟨a4, ha4, e4⟩ : ∃ a : Int, ok32 a ∧ xs (i + 4).toNat = iI a := ⟨_, ok_toInt _, iI_of _⟩
  refine gx_aload_n X dL_law_184 rfl 2 rfl ?_
  refine gx_aload_n X dL_law_185 rfl 3 rfl ?_
  refine gx_iload_n X dL_law_186 rfl 0 rfl ?_
  refine gx_iconst (z := 1) X dL_law_187 rfl ?_
  refine gx_iadd X dL_law_188 ?_
  refine gx_sld X hX hbl hbA ⟨by omega, by omega, by omega⟩ e1 dL_law_189 ?_
  refine gx_callVI (As := [.int (iI a1)]) (rest := []) X (hD _ _) lk_L_13 (ci := 2) rfl rfl 0 rfl (c_T_cards u r ca T a1 h.it ha1) (jn_l (hD _ _)) rfl ⟨by decide, by decide⟩ (Nat.le_of_ble_eq_true rfl) dL_law_190 ?_
  refine gx_aload_n X dL_law_193 rfl 1 rfl ?_
  refine gx_aload_n X dL_law_194 rfl 3 rfl ?_
  refine gx_iload_n X dL_law_195 rfl 0 rfl ?_
  refine gx_iconst (z := 1) X dL_law_196 rfl ?_
  refine gx_iadd X dL_law_197 ?_
  refine gx_sld X hX hbl hbA ⟨by omega, by omega, by omega⟩ e1 dL_law_198 ?_
  refine gx_callVI (As := [.int (iI a1)]) (rest := [.int (iI (T_cards T a1).1)]) X (hD _ _) lk_L_17 (ci := 3) rfl rfl 0 rfl (c_M_cards q S a1 h.iw ha1) (jn_r (hD _ _)) rfl ⟨by decide, by decide⟩ (Nat.le_of_ble_eq_true rfl) dL_law_199 ?_
  have e9 := s_cards h hN a1
  exact gx_same (tgt := 1204) X dL_law_202 (by decide) e9.1 (next _ _ e9.2)
set_option maxRecDepth 100000 in
theorem law_1 {l : Launch} {K : KK} {x : Cx} {b L : Nat} {xs : Nat → Int32} {u r q : Nat → Nat} {ca : Nat → Nat → Nat} {N i : Int} {T : TS} {S : Sta} (Z : LwX l K x b L xs u r ca q) (h : Rel N T S) (hN : N + 1 ≤ 1000) (hi : 0 ≤ i ∧ i + 5 ≤ (L : Int) ∧ (L : Int) ≤ 2560) (next : ∀ (T' : TS) (S' : Sta), Rel (N + 1) T' S' → GG l room_1 K x (wT K u r ca T' ++ wM K q S') 1204 [(3, .int (iI i)), (2, .ref (q 0)), (1, .ref (u 0)), (0, .ref b)] []) : GG l room_1 K x (wT K u r ca T ++ wM K q S) 207 [(3, .int (iI i)), (2, .ref (q 0)), (1, .ref (u 0)), (0, .ref b)] [] := by
  obtain ⟨X, hX, hbl, hbA, hD⟩ := Z
  obtain ⟨a1, ha1, e1⟩ : ∃ a : Int, ok32 a ∧ xs (i + 1).toNat = iI a := ⟨_, ok_toInt _, iI_of _⟩
  obtain ⟨a2, ha2, e2⟩ : ∃ a : Int, ok32 a ∧ xs (i + 2).toNat = iI a := ⟨_, ok_toInt _, iI_of _⟩
  obtain ⟨a3, ha3, e3⟩ : ∃ a : Int, ok32 a ∧ xs (i + 3).toNat = iI a := ⟨_, ok_toInt _, iI_of _⟩
  obtain ⟨a4, ha4, e4⟩ : ∃ a : Int, ok32 a ∧ xs (i + 4).toNat = iI a := ⟨_, ok_toInt _, iI_of _⟩
  refine gx_aload_n X dL_law_207 rfl 2 rfl ?_
  refine gx_aload_n X dL_law_208 rfl 3 rfl ?_
  refine gx_iload_n X dL_law_209 rfl 0 rfl ?_
  refine gx_iconst (z := 1) X dL_law_210 rfl ?_
  refine gx_iadd X dL_law_211 ?_
  refine gx_sld X hX hbl hbA ⟨by omega, by omega, by omega⟩ e1 dL_law_212 ?_
  refine gx_aload_n X dL_law_213 rfl 3 rfl ?_
  refine gx_iload_n X dL_law_214 rfl 0 rfl ?_
  refine gx_iconst (z := 2) X dL_law_215 rfl ?_
  refine gx_iadd X dL_law_216 ?_
  refine gx_sld X hX hbl hbA ⟨by omega, by omega, by omega⟩ e2 dL_law_217 ?_
  refine gx_aload_n X dL_law_218 rfl 3 rfl ?_
  refine gx_iload_n X dL_law_219 rfl 0 rfl ?_
  refine gx_iconst (z := 3) X dL_law_220 rfl ?_
  refine gx_iadd X dL_law_221 ?_
  refine gx_sld X hX hbl hbA ⟨by omega, by omega, by omega⟩ e3 dL_law_222 ?_
  refine gx_callVI (As := [.int (iI a1), .int (iI a2), .int (iI a3)]) (rest := []) X (hD _ _) lk_L_18 (ci := 2) rfl rfl 0 rfl (c_T_thread u r ca T a1 a2 a3 h.it ha1 ha2 ha3) (jn_l (hD _ _)) rfl ⟨by decide, by decide⟩ (Nat.le_of_ble_eq_true rfl) dL_law_223 ?_
  refine gx_aload_n X dL_law_226 rfl 1 rfl ?_
  refine gx_aload_n X dL_law_227 rfl 3 rfl ?_
  refine gx_iload_n X dL_law_228 rfl 0 rfl ?_
  refine gx_iconst (z := 1) X dL_law_229 rfl ?_
  refine gx_iadd X dL_law_230 ?_
  refine gx_sld X hX hbl hbA ⟨by omega, by omega, by omega⟩ e1 dL_law_231 ?_
  refine gx_aload_n X dL_law_232 rfl 3 rfl ?_
  refine gx_iload_n X dL_law_233 rfl 0 rfl ?_
  refine gx_iconst (z := 2) X dL_law_234 rfl ?_
  refine gx_iadd X dL_law_235 ?_
  refine gx_sld X hX hbl hbA ⟨by omega, by omega, by omega⟩ e2 dL_law_236 ?_
  refine gx_aload_n X dL_law_237 rfl 3 rfl ?_
  refine gx_iload_n X dL_law_238 rfl 0 rfl ?_
  refine gx_iconst (z := 3) X dL_law_239 rfl ?_
  refine gx_iadd X dL_law_240 ?_
  refine gx_sld X hX hbl hbA ⟨by omega, by omega, by omega⟩ e3 dL_law_241 ?_
  refine gx_callVI (As := [.int (iI a1), .int (iI a2), .int (iI a3)]) (rest := [.int (iI (T_thread T a1 a2 a3).1)]) X (hD _ _) lk_L_22 (ci := 3) rfl rfl 0 rfl (c_M_thread q S a1 a2 a3 h.iw ha1 ha2 ha3) (jn_r (hD _ _)) rfl ⟨by decide, by decide⟩ (Nat.le_of_ble_eq_true rfl) dL_law_242 ?_
  have e9 := s_thread h hN a1 a2 a3
  exact gx_same (tgt := 1204) X dL_law_245 (by decide) e9.1 (next _ _ e9.2)
set_option maxRecDepth 100000 in
theorem law_2 {l : Launch} {K : KK} {x : Cx} {b L : Nat} {xs : Nat → Int32} {u r q : Nat → Nat} {ca : Nat → Nat → Nat} {N i : Int} {T : TS} {S : Sta} (Z : LwX l K x b L xs u r ca q) (h : Rel N T S) (hN : N + 1 ≤ 1000) (hi : 0 ≤ i ∧ i + 5 ≤ (L : Int) ∧ (L : Int) ≤ 2560) (next : ∀ (T' : TS) (S' : Sta), Rel (N + 1) T' S' → GG l room_1 K x (wT K u r ca T' ++ wM K q S') 1204 [(3, .int (iI i)), (2, .ref (q 0)), (1, .ref (u 0)), (0, .ref b)] []) : GG l room_1 K x (wT K u r ca T ++ wM K q S) 250 [(3, .int (iI i)), (2, .ref (q 0)), (1, .ref (u 0)), (0, .ref b)] [] := by
  obtain ⟨X, hX, hbl, hbA, hD⟩ := Z
  obtain ⟨a1, ha1, e1⟩ : ∃ a : Int, ok32 a ∧ xs (i + 1).toNat = iI a := ⟨_, ok_toInt _, iI_of _⟩
  obtain ⟨a2, ha2, e2⟩ : ∃ a : Int, ok32 a ∧ xs (i + 2).toNat = iI a := ⟨_, ok_toInt _, iI_of _⟩
  obtain ⟨a3, ha3, e3⟩ : ∃ a : Int, ok32 a ∧ xs (i + 3).toNat = iI a := ⟨_, ok_toInt _, iI_of _⟩
  obtain ⟨a4, ha4, e4⟩ : ∃ a : Int, ok32 a ∧ xs (i + 4).toNat = iI a := ⟨_, ok_toInt _, iI_of _⟩
  refine gx_aload_n X dL_law_250 rfl 2 rfl ?_
  refine gx_aload_n X dL_law_251 rfl 3 rfl ?_
  refine gx_iload_n X dL_law_252 rfl 0 rfl ?_
  refine gx_iconst (z := 1) X dL_law_253 rfl ?_
  refine gx_iadd X dL_law_254 ?_
  refine gx_sld X hX hbl hbA ⟨by omega, by omega, by omega⟩ e1 dL_law_255 ?_
  refine gx_aload_n X dL_law_256 rfl 3 rfl ?_
  refine gx_iload_n X dL_law_257 rfl 0 rfl ?_
  refine gx_iconst (z := 2) X dL_law_258 rfl ?_
  refine gx_iadd X dL_law_259 ?_
  refine gx_sld X hX hbl hbA ⟨by omega, by omega, by omega⟩ e2 dL_law_260 ?_
  refine gx_callVI (As := [.int (iI a1), .int (iI a2)]) (rest := []) X (hD _ _) lk_L_23 (ci := 2) rfl rfl 0 rfl (c_T_way u r ca T a1 a2 h.it ha1 ha2) (jn_l (hD _ _)) rfl ⟨by decide, by decide⟩ (Nat.le_of_ble_eq_true rfl) dL_law_261 ?_
  refine gx_aload_n X dL_law_264 rfl 1 rfl ?_
  refine gx_aload_n X dL_law_265 rfl 3 rfl ?_
  refine gx_iload_n X dL_law_266 rfl 0 rfl ?_
  refine gx_iconst (z := 1) X dL_law_267 rfl ?_
  refine gx_iadd X dL_law_268 ?_
  refine gx_sld X hX hbl hbA ⟨by omega, by omega, by omega⟩ e1 dL_law_269 ?_
  refine gx_aload_n X dL_law_270 rfl 3 rfl ?_
  refine gx_iload_n X dL_law_271 rfl 0 rfl ?_
  refine gx_iconst (z := 2) X dL_law_272 rfl ?_
  refine gx_iadd X dL_law_273 ?_
  refine gx_sld X hX hbl hbA ⟨by omega, by omega, by omega⟩ e2 dL_law_274 ?_
  refine gx_callVI (As := [.int (iI a1), .int (iI a2)]) (rest := [.int (iI (T_way T a1 a2).1)]) X (hD _ _) lk_L_27 (ci := 3) rfl rfl 0 rfl (c_M_way q S a1 a2 h.iw ha1 ha2) (jn_r (hD _ _)) rfl ⟨by decide, by decide⟩ (Nat.le_of_ble_eq_true rfl) dL_law_275 ?_
  have e9 := s_way h hN a1 a2
  exact gx_same (tgt := 1204) X dL_law_278 (by decide) e9.1 (next _ _ e9.2)
set_option maxRecDepth 100000 in
theorem law_3 {l : Launch} {K : KK} {x : Cx} {b L : Nat} {xs : Nat → Int32} {u r q : Nat → Nat} {ca : Nat → Nat → Nat} {N i : Int} {T : TS} {S : Sta} (Z : LwX l K x b L xs u r ca q) (h : Rel N T S) (hN : N + 1 ≤ 1000) (hi : 0 ≤ i ∧ i + 5 ≤ (L : Int) ∧ (L : Int) ≤ 2560) (next : ∀ (T' : TS) (S' : Sta), Rel (N + 1) T' S' → GG l room_1 K x (wT K u r ca T' ++ wM K q S') 1204 [(3, .int (iI i)), (2, .ref (q 0)), (1, .ref (u 0)), (0, .ref b)] []) : GG l room_1 K x (wT K u r ca T ++ wM K q S) 283 [(3, .int (iI i)), (2, .ref (q 0)), (1, .ref (u 0)), (0, .ref b)] [] := by
  obtain ⟨X, hX, hbl, hbA, hD⟩ := Z
  obtain ⟨a1, ha1, e1⟩ : ∃ a : Int, ok32 a ∧ xs (i + 1).toNat = iI a := ⟨_, ok_toInt _, iI_of _⟩
  obtain ⟨a2, ha2, e2⟩ : ∃ a : Int, ok32 a ∧ xs (i + 2).toNat = iI a := ⟨_, ok_toInt _, iI_of _⟩
  obtain ⟨a3, ha3, e3⟩ : ∃ a : Int, ok32 a ∧ xs (i + 3).toNat = iI a := ⟨_, ok_toInt _, iI_of _⟩
  obtain ⟨a4, ha4, e4⟩ : ∃ a : Int, ok32 a ∧ xs (i + 4).toNat = iI a := ⟨_, ok_toInt _, iI_of _⟩
  refine gx_aload_n X dL_law_283 rfl 2 rfl ?_
  refine gx_aload_n X dL_law_284 rfl 3 rfl ?_
  refine gx_iload_n X dL_law_285 rfl 0 rfl ?_
  refine gx_iconst (z := 1) X dL_law_286 rfl ?_
  refine gx_iadd X dL_law_287 ?_
  refine gx_sld X hX hbl hbA ⟨by omega, by omega, by omega⟩ e1 dL_law_288 ?_
  refine gx_callVI (As := [.int (iI a1)]) (rest := []) X (hD _ _) lk_L_28 (ci := 2) rfl rfl 0 rfl (c_T_flip u r ca T a1 h.it ha1) (jn_l (hD _ _)) rfl ⟨by decide, by decide⟩ (Nat.le_of_ble_eq_true rfl) dL_law_289 ?_
  refine gx_aload_n X dL_law_292 rfl 1 rfl ?_
  refine gx_aload_n X dL_law_293 rfl 3 rfl ?_
  refine gx_iload_n X dL_law_294 rfl 0 rfl ?_
  refine gx_iconst (z := 1) X dL_law_295 rfl ?_
  refine gx_iadd X dL_law_296 ?_
  refine gx_sld X hX hbl hbA ⟨by omega, by omega, by omega⟩ e1 dL_law_297 ?_
  refine gx_callVI (As := [.int (iI a1)]) (rest := [.int (iI (T_flip T a1).1)]) X (hD _ _) lk_L_31 (ci := 3) rfl rfl 0 rfl (c_M_flip q S a1 h.iw ha1) (jn_r (hD _ _)) rfl ⟨by decide, by decide⟩ (Nat.le_of_ble_eq_true rfl) dL_law_298 ?_
  have e9 := s_flip h hN a1
  exact gx_same (tgt := 1204) X dL_law_301 (by decide) e9.1 (next _ _ e9.2)
set_option maxRecDepth 100000 in
theorem law_4 {l : Launch} {K : KK} {x : Cx} {b L : Nat} {xs : Nat → Int32} {u r q : Nat → Nat} {ca : Nat → Nat → Nat} {N i : Int} {T : TS} {S : Sta} (Z : LwX l K x b L xs u r ca q) (h : Rel N T S) (hN : N + 1 ≤ 1000) (hi : 0 ≤ i ∧ i + 5 ≤ (L : Int) ∧ (L : Int) ≤ 2560) (next : ∀ (T' : TS) (S' : Sta), Rel (N + 1) T' S' → GG l room_1 K x (wT K u r ca T' ++ wM K q S') 1204 [(3, .int (iI i)), (2, .ref (q 0)), (1, .ref (u 0)), (0, .ref b)] []) : GG l room_1 K x (wT K u r ca T ++ wM K q S) 306 [(3, .int (iI i)), (2, .ref (q 0)), (1, .ref (u 0)), (0, .ref b)] [] := by
  obtain ⟨X, hX, hbl, hbA, hD⟩ := Z
  obtain ⟨a1, ha1, e1⟩ : ∃ a : Int, ok32 a ∧ xs (i + 1).toNat = iI a := ⟨_, ok_toInt _, iI_of _⟩
  obtain ⟨a2, ha2, e2⟩ : ∃ a : Int, ok32 a ∧ xs (i + 2).toNat = iI a := ⟨_, ok_toInt _, iI_of _⟩
  obtain ⟨a3, ha3, e3⟩ : ∃ a : Int, ok32 a ∧ xs (i + 3).toNat = iI a := ⟨_, ok_toInt _, iI_of _⟩
  obtain ⟨a4, ha4, e4⟩ : ∃ a : Int, ok32 a ∧ xs (i + 4).toNat = iI a := ⟨_, ok_toInt _, iI_of _⟩
  refine gx_aload_n X dL_law_306 rfl 2 rfl ?_
  refine gx_aload_n X dL_law_307 rfl 3 rfl ?_
  refine gx_iload_n X dL_law_308 rfl 0 rfl ?_
  refine gx_iconst (z := 1) X dL_law_309 rfl ?_
  refine gx_iadd X dL_law_310 ?_
  refine gx_sld X hX hbl hbA ⟨by omega, by omega, by omega⟩ e1 dL_law_311 ?_
  refine gx_aload_n X dL_law_312 rfl 3 rfl ?_
  refine gx_iload_n X dL_law_313 rfl 0 rfl ?_
  refine gx_iconst (z := 2) X dL_law_314 rfl ?_
  refine gx_iadd X dL_law_315 ?_
  refine gx_sld X hX hbl hbA ⟨by omega, by omega, by omega⟩ e2 dL_law_316 ?_
  refine gx_callVI (As := [.int (iI a1), .int (iI a2)]) (rest := []) X (hD _ _) lk_L_32 (ci := 2) rfl rfl 0 rfl (c_T_pack u r ca T a1 a2 h.it ha1 ha2) (jn_l (hD _ _)) rfl ⟨by decide, by decide⟩ (Nat.le_of_ble_eq_true rfl) dL_law_317 ?_
  refine gx_aload_n X dL_law_320 rfl 1 rfl ?_
  refine gx_aload_n X dL_law_321 rfl 3 rfl ?_
  refine gx_iload_n X dL_law_322 rfl 0 rfl ?_
  refine gx_iconst (z := 1) X dL_law_323 rfl ?_
  refine gx_iadd X dL_law_324 ?_
  refine gx_sld X hX hbl hbA ⟨by omega, by omega, by omega⟩ e1 dL_law_325 ?_
  refine gx_aload_n X dL_law_326 rfl 3 rfl ?_
  refine gx_iload_n X dL_law_327 rfl 0 rfl ?_
  refine gx_iconst (z := 2) X dL_law_328 rfl ?_
  refine gx_iadd X dL_law_329 ?_
  refine gx_sld X hX hbl hbA ⟨by omega, by omega, by omega⟩ e2 dL_law_330 ?_
  refine gx_callVI (As := [.int (iI a1), .int (iI a2)]) (rest := [.int (iI (T_pack T a1 a2).1)]) X (hD _ _) lk_L_35 (ci := 3) rfl rfl 0 rfl (c_M_pack q S a1 a2 h.iw ha1 ha2) (jn_r (hD _ _)) rfl ⟨by decide, by decide⟩ (Nat.le_of_ble_eq_true rfl) dL_law_331 ?_
  have e9 := s_pack h hN a1 a2
  exact gx_same (tgt := 1204) X dL_law_334 (by decide) e9.1 (next _ _ e9.2)
set_option maxRecDepth 100000 in
theorem law_5 {l : Launch} {K : KK} {x : Cx} {b L : Nat} {xs : Nat → Int32} {u r q : Nat → Nat} {ca : Nat → Nat → Nat} {N i : Int} {T : TS} {S : Sta} (Z : LwX l K x b L xs u r ca q) (h : Rel N T S) (hN : N + 1 ≤ 1000) (hi : 0 ≤ i ∧ i + 5 ≤ (L : Int) ∧ (L : Int) ≤ 2560) (next : ∀ (T' : TS) (S' : Sta), Rel (N + 1) T' S' → GG l room_1 K x (wT K u r ca T' ++ wM K q S') 1204 [(3, .int (iI i)), (2, .ref (q 0)), (1, .ref (u 0)), (0, .ref b)] []) : GG l room_1 K x (wT K u r ca T ++ wM K q S) 339 [(3, .int (iI i)), (2, .ref (q 0)), (1, .ref (u 0)), (0, .ref b)] [] := by
  obtain ⟨X, hX, hbl, hbA, hD⟩ := Z
  obtain ⟨a1, ha1, e1⟩ : ∃ a : Int, ok32 a ∧ xs (i + 1).toNat = iI a := ⟨_, ok_toInt _, iI_of _⟩
  obtain ⟨a2, ha2, e2⟩ : ∃ a : Int, ok32 a ∧ xs (i + 2).toNat = iI a := ⟨_, ok_toInt _, iI_of _⟩
  obtain ⟨a3, ha3, e3⟩ : ∃ a : Int, ok32 a ∧ xs (i + 3).toNat = iI a := ⟨_, ok_toInt _, iI_of _⟩
  obtain ⟨a4, ha4, e4⟩ : ∃ a : Int, ok32 a ∧ xs (i + 4).toNat = iI a := ⟨_, ok_toInt _, iI_of _⟩
  refine gx_aload_n X dL_law_339 rfl 2 rfl ?_
  refine gx_aload_n X dL_law_340 rfl 3 rfl ?_
  refine gx_iload_n X dL_law_341 rfl 0 rfl ?_
  refine gx_iconst (z := 1) X dL_law_342 rfl ?_
  refine gx_iadd X dL_law_343 ?_
  refine gx_sld X hX hbl hbA ⟨by omega, by omega, by omega⟩ e1 dL_law_344 ?_
  refine gx_aload_n X dL_law_345 rfl 3 rfl ?_
  refine gx_iload_n X dL_law_346 rfl 0 rfl ?_
  refine gx_iconst (z := 2) X dL_law_347 rfl ?_
  refine gx_iadd X dL_law_348 ?_
  refine gx_sld X hX hbl hbA ⟨by omega, by omega, by omega⟩ e2 dL_law_349 ?_
  refine gx_callVI (As := [.int (iI a1), .int (iI a2)]) (rest := []) X (hD _ _) lk_L_36 (ci := 2) rfl rfl 0 rfl (c_T_about u r ca T a1 a2 h.it ha1 ha2) (jn_l (hD _ _)) rfl ⟨by decide, by decide⟩ (Nat.le_of_ble_eq_true rfl) dL_law_350 ?_
  refine gx_aload_n X dL_law_353 rfl 1 rfl ?_
  refine gx_aload_n X dL_law_354 rfl 3 rfl ?_
  refine gx_iload_n X dL_law_355 rfl 0 rfl ?_
  refine gx_iconst (z := 1) X dL_law_356 rfl ?_
  refine gx_iadd X dL_law_357 ?_
  refine gx_sld X hX hbl hbA ⟨by omega, by omega, by omega⟩ e1 dL_law_358 ?_
  refine gx_aload_n X dL_law_359 rfl 3 rfl ?_
  refine gx_iload_n X dL_law_360 rfl 0 rfl ?_
  refine gx_iconst (z := 2) X dL_law_361 rfl ?_
  refine gx_iadd X dL_law_362 ?_
  refine gx_sld X hX hbl hbA ⟨by omega, by omega, by omega⟩ e2 dL_law_363 ?_
  refine gx_callVI (As := [.int (iI a1), .int (iI a2)]) (rest := [.int (iI (T_about T a1 a2))]) X (hD _ _) lk_L_39 (ci := 3) rfl rfl 0 rfl (c_M_about q S a1 a2 h.iw ha1 ha2) (jn_r (hD _ _)) rfl ⟨by decide, by decide⟩ (Nat.le_of_ble_eq_true rfl) dL_law_364 ?_
  exact gx_same (tgt := 1204) X dL_law_367 (by decide) (s_about h a1 a2) (next _ _ (h.mono (by omega) hN))
set_option maxRecDepth 100000 in
theorem law_6 {l : Launch} {K : KK} {x : Cx} {b L : Nat} {xs : Nat → Int32} {u r q : Nat → Nat} {ca : Nat → Nat → Nat} {N i : Int} {T : TS} {S : Sta} (Z : LwX l K x b L xs u r ca q) (h : Rel N T S) (hN : N + 1 ≤ 1000) (hi : 0 ≤ i ∧ i + 5 ≤ (L : Int) ∧ (L : Int) ≤ 2560) (next : ∀ (T' : TS) (S' : Sta), Rel (N + 1) T' S' → GG l room_1 K x (wT K u r ca T' ++ wM K q S') 1204 [(3, .int (iI i)), (2, .ref (q 0)), (1, .ref (u 0)), (0, .ref b)] []) : GG l room_1 K x (wT K u r ca T ++ wM K q S) 372 [(3, .int (iI i)), (2, .ref (q 0)), (1, .ref (u 0)), (0, .ref b)] [] := by
  obtain ⟨X, hX, hbl, hbA, hD⟩ := Z
  obtain ⟨a1, ha1, e1⟩ : ∃ a : Int, ok32 a ∧ xs (i + 1).toNat = iI a := ⟨_, ok_toInt _, iI_of _⟩
  obtain ⟨a2, ha2, e2⟩ : ∃ a : Int, ok32 a ∧ xs (i + 2).toNat = iI a := ⟨_, ok_toInt _, iI_of _⟩
  obtain ⟨a3, ha3, e3⟩ : ∃ a : Int, ok32 a ∧ xs (i + 3).toNat = iI a := ⟨_, ok_toInt _, iI_of _⟩
  obtain ⟨a4, ha4, e4⟩ : ∃ a : Int, ok32 a ∧ xs (i + 4).toNat = iI a := ⟨_, ok_toInt _, iI_of _⟩
  refine gx_aload_n X dL_law_372 rfl 2 rfl ?_
  refine gx_aload_n X dL_law_373 rfl 3 rfl ?_
  refine gx_iload_n X dL_law_374 rfl 0 rfl ?_
  refine gx_iconst (z := 1) X dL_law_375 rfl ?_
  refine gx_iadd X dL_law_376 ?_
  refine gx_sld X hX hbl hbA ⟨by omega, by omega, by omega⟩ e1 dL_law_377 ?_
  refine gx_aload_n X dL_law_378 rfl 3 rfl ?_
  refine gx_iload_n X dL_law_379 rfl 0 rfl ?_
  refine gx_iconst (z := 2) X dL_law_380 rfl ?_
  refine gx_iadd X dL_law_381 ?_
  refine gx_sld X hX hbl hbA ⟨by omega, by omega, by omega⟩ e2 dL_law_382 ?_
  refine gx_callVI (As := [.int (iI a1), .int (iI a2)]) (rest := []) X (hD _ _) lk_L_40 (ci := 2) rfl rfl 0 rfl (c_T_at u r ca T a1 a2 h.it ha1 ha2) (jn_l (hD _ _)) rfl ⟨by decide, by decide⟩ (Nat.le_of_ble_eq_true rfl) dL_law_383 ?_
  refine gx_aload_n X dL_law_386 rfl 1 rfl ?_
  refine gx_aload_n X dL_law_387 rfl 3 rfl ?_
  refine gx_iload_n X dL_law_388 rfl 0 rfl ?_
  refine gx_iconst (z := 1) X dL_law_389 rfl ?_
  refine gx_iadd X dL_law_390 ?_
  refine gx_sld X hX hbl hbA ⟨by omega, by omega, by omega⟩ e1 dL_law_391 ?_
  refine gx_aload_n X dL_law_392 rfl 3 rfl ?_
  refine gx_iload_n X dL_law_393 rfl 0 rfl ?_
  refine gx_iconst (z := 2) X dL_law_394 rfl ?_
  refine gx_iadd X dL_law_395 ?_
  refine gx_sld X hX hbl hbA ⟨by omega, by omega, by omega⟩ e2 dL_law_396 ?_
  refine gx_callVI (As := [.int (iI a1), .int (iI a2)]) (rest := [.int (iI (T_at T a1 a2))]) X (hD _ _) lk_L_43 (ci := 3) rfl rfl 0 rfl (c_M_at q S a1 a2 h.iw ha1 ha2) (jn_r (hD _ _)) rfl ⟨by decide, by decide⟩ (Nat.le_of_ble_eq_true rfl) dL_law_397 ?_
  exact gx_same (tgt := 1204) X dL_law_400 (by decide) (s_at h a1 a2) (next _ _ (h.mono (by omega) hN))
set_option maxRecDepth 100000 in
theorem law_7 {l : Launch} {K : KK} {x : Cx} {b L : Nat} {xs : Nat → Int32} {u r q : Nat → Nat} {ca : Nat → Nat → Nat} {N i : Int} {T : TS} {S : Sta} (Z : LwX l K x b L xs u r ca q) (h : Rel N T S) (hN : N + 1 ≤ 1000) (hi : 0 ≤ i ∧ i + 5 ≤ (L : Int) ∧ (L : Int) ≤ 2560) (next : ∀ (T' : TS) (S' : Sta), Rel (N + 1) T' S' → GG l room_1 K x (wT K u r ca T' ++ wM K q S') 1204 [(3, .int (iI i)), (2, .ref (q 0)), (1, .ref (u 0)), (0, .ref b)] []) : GG l room_1 K x (wT K u r ca T ++ wM K q S) 405 [(3, .int (iI i)), (2, .ref (q 0)), (1, .ref (u 0)), (0, .ref b)] [] := by
  obtain ⟨X, hX, hbl, hbA, hD⟩ := Z
  obtain ⟨a1, ha1, e1⟩ : ∃ a : Int, ok32 a ∧ xs (i + 1).toNat = iI a := ⟨_, ok_toInt _, iI_of _⟩
  obtain ⟨a2, ha2, e2⟩ : ∃ a : Int, ok32 a ∧ xs (i + 2).toNat = iI a := ⟨_, ok_toInt _, iI_of _⟩
  obtain ⟨a3, ha3, e3⟩ : ∃ a : Int, ok32 a ∧ xs (i + 3).toNat = iI a := ⟨_, ok_toInt _, iI_of _⟩
  obtain ⟨a4, ha4, e4⟩ : ∃ a : Int, ok32 a ∧ xs (i + 4).toNat = iI a := ⟨_, ok_toInt _, iI_of _⟩
  refine gx_aload_n X dL_law_405 rfl 2 rfl ?_
  refine gx_aload_n X dL_law_406 rfl 3 rfl ?_
  refine gx_iload_n X dL_law_407 rfl 0 rfl ?_
  refine gx_iconst (z := 1) X dL_law_408 rfl ?_
  refine gx_iadd X dL_law_409 ?_
  refine gx_sld X hX hbl hbA ⟨by omega, by omega, by omega⟩ e1 dL_law_410 ?_
  refine gx_aload_n X dL_law_411 rfl 3 rfl ?_
  refine gx_iload_n X dL_law_412 rfl 0 rfl ?_
  refine gx_iconst (z := 2) X dL_law_413 rfl ?_
  refine gx_iadd X dL_law_414 ?_
  refine gx_sld X hX hbl hbA ⟨by omega, by omega, by omega⟩ e2 dL_law_415 ?_
  refine gx_callVI (As := [.int (iI a1), .int (iI a2)]) (rest := []) X (hD _ _) lk_L_44 (ci := 2) rfl rfl 0 rfl (c_T_pick u r ca T a1 a2 h.it ha1 ha2) (jn_l (hD _ _)) rfl ⟨by decide, by decide⟩ (Nat.le_of_ble_eq_true rfl) dL_law_416 ?_
  refine gx_aload_n X dL_law_419 rfl 1 rfl ?_
  refine gx_aload_n X dL_law_420 rfl 3 rfl ?_
  refine gx_iload_n X dL_law_421 rfl 0 rfl ?_
  refine gx_iconst (z := 1) X dL_law_422 rfl ?_
  refine gx_iadd X dL_law_423 ?_
  refine gx_sld X hX hbl hbA ⟨by omega, by omega, by omega⟩ e1 dL_law_424 ?_
  refine gx_aload_n X dL_law_425 rfl 3 rfl ?_
  refine gx_iload_n X dL_law_426 rfl 0 rfl ?_
  refine gx_iconst (z := 2) X dL_law_427 rfl ?_
  refine gx_iadd X dL_law_428 ?_
  refine gx_sld X hX hbl hbA ⟨by omega, by omega, by omega⟩ e2 dL_law_429 ?_
  refine gx_callVI (As := [.int (iI a1), .int (iI a2)]) (rest := [.int (iI (T_pick T a1 a2).1)]) X (hD _ _) lk_L_47 (ci := 3) rfl rfl 0 rfl (c_M_pick q S a1 a2 h.iw ha1 ha2) (jn_r (hD _ _)) rfl ⟨by decide, by decide⟩ (Nat.le_of_ble_eq_true rfl) dL_law_430 ?_
  have e9 := s_pick h hN a1 a2 ha1 ha2
  exact gx_same (tgt := 1204) X dL_law_433 (by decide) e9.1 (next _ _ e9.2)
set_option maxRecDepth 100000 in
theorem law_8 {l : Launch} {K : KK} {x : Cx} {b L : Nat} {xs : Nat → Int32} {u r q : Nat → Nat} {ca : Nat → Nat → Nat} {N i : Int} {T : TS} {S : Sta} (Z : LwX l K x b L xs u r ca q) (h : Rel N T S) (hN : N + 1 ≤ 1000) (hi : 0 ≤ i ∧ i + 5 ≤ (L : Int) ∧ (L : Int) ≤ 2560) (next : ∀ (T' : TS) (S' : Sta), Rel (N + 1) T' S' → GG l room_1 K x (wT K u r ca T' ++ wM K q S') 1204 [(3, .int (iI i)), (2, .ref (q 0)), (1, .ref (u 0)), (0, .ref b)] []) : GG l room_1 K x (wT K u r ca T ++ wM K q S) 438 [(3, .int (iI i)), (2, .ref (q 0)), (1, .ref (u 0)), (0, .ref b)] [] := by
  obtain ⟨X, hX, hbl, hbA, hD⟩ := Z
  obtain ⟨a1, ha1, e1⟩ : ∃ a : Int, ok32 a ∧ xs (i + 1).toNat = iI a := ⟨_, ok_toInt _, iI_of _⟩
  obtain ⟨a2, ha2, e2⟩ : ∃ a : Int, ok32 a ∧ xs (i + 2).toNat = iI a := ⟨_, ok_toInt _, iI_of _⟩
  obtain ⟨a3, ha3, e3⟩ : ∃ a : Int, ok32 a ∧ xs (i + 3).toNat = iI a := ⟨_, ok_toInt _, iI_of _⟩
  obtain ⟨a4, ha4, e4⟩ : ∃ a : Int, ok32 a ∧ xs (i + 4).toNat = iI a := ⟨_, ok_toInt _, iI_of _⟩
  refine gx_aload_n X dL_law_438 rfl 2 rfl ?_
  refine gx_aload_n X dL_law_439 rfl 3 rfl ?_
  refine gx_iload_n X dL_law_440 rfl 0 rfl ?_
  refine gx_iconst (z := 1) X dL_law_441 rfl ?_
  refine gx_iadd X dL_law_442 ?_
  refine gx_sld X hX hbl hbA ⟨by omega, by omega, by omega⟩ e1 dL_law_443 ?_
  refine gx_aload_n X dL_law_444 rfl 3 rfl ?_
  refine gx_iload_n X dL_law_445 rfl 0 rfl ?_
  refine gx_iconst (z := 2) X dL_law_446 rfl ?_
  refine gx_iadd X dL_law_447 ?_
  refine gx_sld X hX hbl hbA ⟨by omega, by omega, by omega⟩ e2 dL_law_448 ?_
  refine gx_aload_n X dL_law_449 rfl 3 rfl ?_
  refine gx_iload_n X dL_law_450 rfl 0 rfl ?_
  refine gx_iconst (z := 3) X dL_law_451 rfl ?_
  refine gx_iadd X dL_law_452 ?_
  refine gx_sld X hX hbl hbA ⟨by omega, by omega, by omega⟩ e3 dL_law_453 ?_
  refine gx_aload_n X dL_law_454 rfl 3 rfl ?_
  refine gx_iload_n X dL_law_455 rfl 0 rfl ?_
  refine gx_iconst (z := 4) X dL_law_456 rfl ?_
  refine gx_iadd X dL_law_457 ?_
  refine gx_sld X hX hbl hbA ⟨by omega, by omega, by omega⟩ e4 dL_law_458 ?_
  refine gx_callVI (As := [.int (iI a1), .int (iI a2), .int (iI a3), .int (iI a4)]) (rest := []) X (hD _ _) lk_L_48 (ci := 2) rfl rfl 0 rfl (c_T_packs u r ca T a1 a2 a3 a4 h.it ha1 ha2 ha3 ha4) (jn_l (hD _ _)) rfl ⟨by decide, by decide⟩ (Nat.le_of_ble_eq_true rfl) dL_law_459 ?_
  refine gx_aload_n X dL_law_462 rfl 1 rfl ?_
  refine gx_aload_n X dL_law_463 rfl 3 rfl ?_
  refine gx_iload_n X dL_law_464 rfl 0 rfl ?_
  refine gx_iconst (z := 1) X dL_law_465 rfl ?_
  refine gx_iadd X dL_law_466 ?_
  refine gx_sld X hX hbl hbA ⟨by omega, by omega, by omega⟩ e1 dL_law_467 ?_
  refine gx_aload_n X dL_law_468 rfl 3 rfl ?_
  refine gx_iload_n X dL_law_469 rfl 0 rfl ?_
  refine gx_iconst (z := 2) X dL_law_470 rfl ?_
  refine gx_iadd X dL_law_471 ?_
  refine gx_sld X hX hbl hbA ⟨by omega, by omega, by omega⟩ e2 dL_law_472 ?_
  refine gx_aload_n X dL_law_473 rfl 3 rfl ?_
  refine gx_iload_n X dL_law_474 rfl 0 rfl ?_
  refine gx_iconst (z := 3) X dL_law_475 rfl ?_
  refine gx_iadd X dL_law_476 ?_
  refine gx_sld X hX hbl hbA ⟨by omega, by omega, by omega⟩ e3 dL_law_477 ?_
  refine gx_aload_n X dL_law_478 rfl 3 rfl ?_
  refine gx_iload_n X dL_law_479 rfl 0 rfl ?_
  refine gx_iconst (z := 4) X dL_law_480 rfl ?_
  refine gx_iadd X dL_law_481 ?_
  refine gx_sld X hX hbl hbA ⟨by omega, by omega, by omega⟩ e4 dL_law_482 ?_
  refine gx_callVI (As := [.int (iI a1), .int (iI a2), .int (iI a3), .int (iI a4)]) (rest := [.int (iI (T_packs T a1 a2 a3 a4).1)]) X (hD _ _) lk_L_52 (ci := 3) rfl rfl 0 rfl (c_M_packs q S a1 a2 a3 a4 h.iw ha1 ha2 ha3 ha4) (jn_r (hD _ _)) rfl ⟨by decide, by decide⟩ (Nat.le_of_ble_eq_true rfl) dL_law_483 ?_
  have e9 := s_packs h hN a1 a2 a3 a4
  exact gx_same (tgt := 1204) X dL_law_486 (by decide) e9.1 (next _ _ e9.2)
