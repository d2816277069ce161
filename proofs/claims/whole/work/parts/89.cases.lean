/-! the law's twenty-six cases -/
theorem iuMR_b (μ : mS) (p0 : Int32) : ∃ x, iuMR μ p0 = bi x := by
  unfold iuMR
  by_cases h : isCopyB p0 = true
  · rw [if_pos h]; exact ⟨_, rfl⟩
  · rw [if_neg h]; exact ⟨false, rfl⟩
theorem alMR_b (μ : mS) (p0 p1 : Int32) : ∃ x, alMR μ p0 p1 = bi x := by
  unfold alMR
  by_cases h : (isCopyB p0 && isCopyB p1) = true
  · rw [if_pos h]; exact ⟨_, rfl⟩
  · rw [if_neg h]; exact ⟨false, rfl⟩
theorem RH_0' {G : wG} {σ : cS} {μ : mS} (h : RH G σ μ) : RH G σ (thr μ 0) := RH_thr h
section LC
variable {p : Program} {l : Launch} {e : Env} {s : State} {m : MethodId} {args : Array Value} {below : List Frame} {meth : Method} {c : Code} {H : Heap} {locs : List Loc} {cells slots : Nat} {Q : State → Prop}
variable {G : wG} {σ : cS} {μ : mS} {o : Nat → Int64} {pc : Nat} {ls : Array Slot} {rest : List Value} {b L : Nat} {xs : Nat → Int32}

set_option maxHeartbeats 4000000 in
set_option maxRecDepth 100000 in
theorem lc_0 (S : CallFix p m c cL_law 7 s args wsL_law RL) (hst : l.stackTraces = false) (Z : wZ G σ μ o s H locs) (hR : RH G σ μ) (hX : va_X b L xs s s.heap) (hbl : b < s.heap.size) (hbA : ¬ gP G b) (hL : L ≤ 3584) {i : Nat} (hi : i + 7 ≤ L) (hc : cells + 4 ≤ 601024) (hs : slots + 34 ≤ 7293034) (hl : lv_has ls 7 [(0, .ref b), (1, .ref (gA G 0)), (2, .ref (gA G 39)), (3, .ref (gA G 53)), (4, .int (nI i))]) (K : ∀ (σ' : cS) (μ' : mS) (o' : Nat → Int64) (H' : Heap) (locs' : List Loc) (ls' : Array Slot), RH G σ' μ' → wZ G σ' μ' o' s H' locs' → lv_has ls' 7 [(0, .ref b), (1, .ref (gA G 0)), (2, .ref (gA G 39)), (3, .ref (gA G 53)), (4, .int (nI i))] → W p l e room_1 s m args below meth c H' locs' (cells + 4) (slots + 34) Q (F0 m 1958 ls' [])) : W p l e room_1 s m args below meth c H locs cells slots Q (F0 m 160 ls []) := by
  refine lv_aload_n S.1 S.2.1 dL_law_160 rfl (lv_at hl 1 rfl) ?_
  refine r_arg S Z hX hbl hbA hL hl (k0 := 0) (k4 := 4) (k := 1) rfl rfl (by omega) dL_law_161 dL_law_162 (by decide) dL_law_164 dL_law_165 dL_law_166 ?_
  refine r_arg S Z hX hbl hbA hL hl (k0 := 0) (k4 := 4) (k := 2) rfl rfl (by omega) dL_law_167 dL_law_168 (by decide) dL_law_170 dL_law_171 dL_law_172 ?_
  refine r_arg S Z hX hbl hbA hL hl (k0 := 0) (k4 := 4) (k := 3) rfl rfl (by omega) dL_law_173 dL_law_174 (by decide) dL_law_176 dL_law_177 dL_law_178 ?_
  refine r_arg S Z hX hbl hbA hL hl (k0 := 0) (k4 := 4) (k := 4) rfl rfl (by omega) dL_law_179 dL_law_180 (by decide) dL_law_182 dL_law_183 dL_law_184 ?_
  refine r_arg S Z hX hbl hbA hL hl (k0 := 0) (k4 := 4) (k := 5) rfl rfl (by omega) dL_law_185 dL_law_186 (by decide) dL_law_188 dL_law_189 dL_law_190 ?_
  refine r_arg6 S Z hX hbl hbA hL hl (k0 := 0) (k4 := 4) (k := 6) rfl rfl (by omega) dL_law_191 dL_law_192 (by decide) dL_law_194 dL_law_196 dL_law_197 ?_
  refine lv_aload_n S.1 S.2.1 dL_law_198 rfl (lv_at hl 3 rfl) ?_
  refine va_calli (vx_runSW (As := [.ref (gA G 0), .int (xs (i + 1)), .int (xs (i + 2)), .int (xs (i + 3)), .int (xs (i + 4)), .int (xs (i + 5)), .int (xs (i + 6)), .ref (gA G 53)]) (rest := []) S (w_write l hst G σ μ o (xs (i + 1)) (xs (i + 2)) (xs (i + 3)) (xs (i + 4)) (xs (i + 5)) (xs (i + 6)) hR) (vx_cwSW 8 S.2.2.2.2 gL_law_L_write rfl rfl rfl hy_L_write ⟨Nat.le_of_ble_eq_true rfl, Nat.le_of_ble_eq_true rfl⟩) (wPc_S Z) rfl rfl hl.1 rfl (lv_room (Nat.le_of_ble_eq_true rfl)) dL_law_199 ⟨hc, hs⟩) Z.2.2.2.2 (fun _ _ h => h) (fun _ h => h) (fun r9 u9 T9 H1 locs1 hT9 hvm hw hB hz hk9 hS => ?_)
  obtain ⟨σ1, μ1, o1⟩ := u9
  obtain ⟨q1, q2, q3, q4⟩ := hw
  have q1 : μ = μ1 := Eq.symm q1
  subst q1
  have Z : wZ G σ1 μ o1 s H1 locs1 := ⟨Z.1, Z.2.1, by rw [← hT9]; exact hB.2.2.1, hB.2.2.2, hS⟩
  have q2 : r9 = mV (wrMS μ (xs (i + 1)) (xs (i + 2)) (xs (i + 3)) (xs (i + 4)) (xs (i + 5)) (xs (i + 6))) 18 := q2
  have q3 : mV (wrMS μ (xs (i + 1)) (xs (i + 2)) (xs (i + 3)) (xs (i + 4)) (xs (i + 5)) (xs (i + 6))) 18 = nI 0 → o1 0 = (wrMR μ (xs (i + 1)) (xs (i + 2)) (xs (i + 3)) (xs (i + 4)) (xs (i + 5)) (xs (i + 6))).toInt64 := q3
  have q4 : RH G σ1 (wrMS μ (xs (i + 1)) (xs (i + 2)) (xs (i + 3)) (xs (i + 4)) (xs (i + 5)) (xs (i + 6))) := q4
  have hm : mOK μ := hR.1.2.2.2.2.2.1
  clear hB hT9 hS hk9 hz hvm T9
  refine lv_istore (lv' := [(5, .int r9), (0, .ref b), (1, .ref (gA G 0)), (2, .ref (gA G 39)), (3, .ref (gA G 53)), (4, .int (nI i))]) S.1 S.2.1 dL_law_202 hl (by decide) rfl (fun ls hl => ?_)
  refine lv_aload_n S.1 S.2.1 dL_law_204 rfl (lv_at hl 3 rfl) ?_
  refine r_arg S Z hX hbl hbA hL hl (k0 := 1) (k4 := 5) (k := 1) rfl rfl (by omega) dL_law_205 dL_law_206 (by decide) dL_law_208 dL_law_209 dL_law_210 ?_
  refine r_arg S Z hX hbl hbA hL hl (k0 := 1) (k4 := 5) (k := 2) rfl rfl (by omega) dL_law_211 dL_law_212 (by decide) dL_law_214 dL_law_215 dL_law_216 ?_
  refine r_arg S Z hX hbl hbA hL hl (k0 := 1) (k4 := 5) (k := 3) rfl rfl (by omega) dL_law_217 dL_law_218 (by decide) dL_law_220 dL_law_221 dL_law_222 ?_
  refine r_arg S Z hX hbl hbA hL hl (k0 := 1) (k4 := 5) (k := 4) rfl rfl (by omega) dL_law_223 dL_law_224 (by decide) dL_law_226 dL_law_227 dL_law_228 ?_
  refine r_arg S Z hX hbl hbA hL hl (k0 := 1) (k4 := 5) (k := 5) rfl rfl (by omega) dL_law_229 dL_law_230 (by decide) dL_law_232 dL_law_233 dL_law_234 ?_
  refine r_arg6 S Z hX hbl hbA hL hl (k0 := 1) (k4 := 5) (k := 6) rfl rfl (by omega) dL_law_235 dL_law_236 (by decide) dL_law_238 dL_law_240 dL_law_241 ?_
  refine mr_write S Z hm hl.1 hc hs gL_law_X8_write dL_law_242 (fun H1 locs1 Z => ?_)
  refine lv_istore (lv' := [(6, .int (wrMR μ (xs (i + 1)) (xs (i + 2)) (xs (i + 3)) (xs (i + 4)) (xs (i + 5)) (xs (i + 6)))), (5, .int r9), (0, .ref b), (1, .ref (gA G 0)), (2, .ref (gA G 39)), (3, .ref (gA G 53)), (4, .int (nI i))]) S.1 S.2.1 dL_law_245 hl (by decide) rfl (fun ls hl => ?_)
  refine r_endI S Z q2 q3 hc hs hl dL_law_247 dL_law_248 dL_law_251 dL_law_253 dL_law_258 dL_law_260 dL_law_263 dL_law_264 dL_law_265 dL_law_266 dL_law_268 dL_law_269 dL_law_270 dL_law_275 (by decide) ?_
  exact K _ _ _ _ _ _ q4 Z (lv_sub hl [2, 3, 4, 5, 6] rfl)
set_option maxHeartbeats 4000000 in
set_option maxRecDepth 100000 in
theorem lc_1 (S : CallFix p m c cL_law 7 s args wsL_law RL) (hst : l.stackTraces = false) (Z : wZ G σ μ o s H locs) (hR : RH G σ μ) (hX : va_X b L xs s s.heap) (hbl : b < s.heap.size) (hbA : ¬ gP G b) (hL : L ≤ 3584) {i : Nat} (hi : i + 7 ≤ L) (hc : cells + 4 ≤ 601024) (hs : slots + 34 ≤ 7293034) (hl : lv_has ls 7 [(0, .ref b), (1, .ref (gA G 0)), (2, .ref (gA G 39)), (3, .ref (gA G 53)), (4, .int (nI i))]) (K : ∀ (σ' : cS) (μ' : mS) (o' : Nat → Int64) (H' : Heap) (locs' : List Loc) (ls' : Array Slot), RH G σ' μ' → wZ G σ' μ' o' s H' locs' → lv_has ls' 7 [(0, .ref b), (1, .ref (gA G 0)), (2, .ref (gA G 39)), (3, .ref (gA G 53)), (4, .int (nI i))] → W p l e room_1 s m args below meth c H' locs' (cells + 4) (slots + 34) Q (F0 m 1958 ls' [])) : W p l e room_1 s m args below meth c H locs cells slots Q (F0 m 278 ls []) := by
  refine lv_aload_n S.1 S.2.1 dL_law_278 rfl (lv_at hl 1 rfl) ?_
  refine r_arg S Z hX hbl hbA hL hl (k0 := 0) (k4 := 4) (k := 1) rfl rfl (by omega) dL_law_279 dL_law_280 (by decide) dL_law_282 dL_law_283 dL_law_284 ?_
  refine r_arg S Z hX hbl hbA hL hl (k0 := 0) (k4 := 4) (k := 2) rfl rfl (by omega) dL_law_285 dL_law_286 (by decide) dL_law_288 dL_law_289 dL_law_290 ?_
  refine r_arg S Z hX hbl hbA hL hl (k0 := 0) (k4 := 4) (k := 3) rfl rfl (by omega) dL_law_291 dL_law_292 (by decide) dL_law_294 dL_law_295 dL_law_296 ?_
  refine r_arg S Z hX hbl hbA hL hl (k0 := 0) (k4 := 4) (k := 4) rfl rfl (by omega) dL_law_297 dL_law_298 (by decide) dL_law_300 dL_law_301 dL_law_302 ?_
  refine lv_aload_n S.1 S.2.1 dL_law_303 rfl (lv_at hl 3 rfl) ?_
  refine va_calli (vx_runSW (As := [.ref (gA G 0), .int (xs (i + 1)), .int (xs (i + 2)), .int (xs (i + 3)), .int (xs (i + 4)), .ref (gA G 53)]) (rest := []) S (w_deleteCell l hst G σ μ o (xs (i + 1)) (xs (i + 2)) (xs (i + 3)) (xs (i + 4)) hR) (vx_cwSW 6 S.2.2.2.2 gL_law_L_deleteCell rfl rfl rfl hy_L_deleteCell ⟨Nat.le_of_ble_eq_true rfl, Nat.le_of_ble_eq_true rfl⟩) (wPc_S Z) rfl rfl hl.1 rfl (lv_room (Nat.le_of_ble_eq_true rfl)) dL_law_304 ⟨hc, hs⟩) Z.2.2.2.2 (fun _ _ h => h) (fun _ h => h) (fun r9 u9 T9 H1 locs1 hT9 hvm hw hB hz hk9 hS => ?_)
  obtain ⟨σ1, μ1, o1⟩ := u9
  obtain ⟨q1, q2, q3, q4⟩ := hw
  have q1 : μ = μ1 := Eq.symm q1
  subst q1
  have Z : wZ G σ1 μ o1 s H1 locs1 := ⟨Z.1, Z.2.1, by rw [← hT9]; exact hB.2.2.1, hB.2.2.2, hS⟩
  have q2 : r9 = mV (dcMS μ (xs (i + 1)) (xs (i + 2)) (xs (i + 3)) (xs (i + 4))) 18 := q2
  have q3 : mV (dcMS μ (xs (i + 1)) (xs (i + 2)) (xs (i + 3)) (xs (i + 4))) 18 = nI 0 → o1 0 = (dcMR μ (xs (i + 1)) (xs (i + 2)) (xs (i + 3)) (xs (i + 4))).toInt64 := q3
  have q4 : RH G σ1 (dcMS μ (xs (i + 1)) (xs (i + 2)) (xs (i + 3)) (xs (i + 4))) := q4
  have hm : mOK μ := hR.1.2.2.2.2.2.1
  clear hB hT9 hS hk9 hz hvm T9
  refine lv_istore (lv' := [(5, .int r9), (0, .ref b), (1, .ref (gA G 0)), (2, .ref (gA G 39)), (3, .ref (gA G 53)), (4, .int (nI i))]) S.1 S.2.1 dL_law_307 hl (by decide) rfl (fun ls hl => ?_)
  refine lv_aload_n S.1 S.2.1 dL_law_309 rfl (lv_at hl 3 rfl) ?_
  refine r_arg S Z hX hbl hbA hL hl (k0 := 1) (k4 := 5) (k := 1) rfl rfl (by omega) dL_law_310 dL_law_311 (by decide) dL_law_313 dL_law_314 dL_law_315 ?_
  refine r_arg S Z hX hbl hbA hL hl (k0 := 1) (k4 := 5) (k := 2) rfl rfl (by omega) dL_law_316 dL_law_317 (by decide) dL_law_319 dL_law_320 dL_law_321 ?_
  refine r_arg S Z hX hbl hbA hL hl (k0 := 1) (k4 := 5) (k := 3) rfl rfl (by omega) dL_law_322 dL_law_323 (by decide) dL_law_325 dL_law_326 dL_law_327 ?_
  refine r_arg S Z hX hbl hbA hL hl (k0 := 1) (k4 := 5) (k := 4) rfl rfl (by omega) dL_law_328 dL_law_329 (by decide) dL_law_331 dL_law_332 dL_law_333 ?_
  refine mr_deleteCell S Z hm hl.1 hc hs gL_law_X8_deleteCell dL_law_334 (fun H1 locs1 Z => ?_)
  refine lv_istore (lv' := [(6, .int (dcMR μ (xs (i + 1)) (xs (i + 2)) (xs (i + 3)) (xs (i + 4)))), (5, .int r9), (0, .ref b), (1, .ref (gA G 0)), (2, .ref (gA G 39)), (3, .ref (gA G 53)), (4, .int (nI i))]) S.1 S.2.1 dL_law_337 hl (by decide) rfl (fun ls hl => ?_)
  refine r_endI S Z q2 q3 hc hs hl dL_law_339 dL_law_340 dL_law_343 dL_law_345 dL_law_350 dL_law_352 dL_law_355 dL_law_356 dL_law_357 dL_law_358 dL_law_360 dL_law_361 dL_law_362 dL_law_367 (by decide) ?_
  exact K _ _ _ _ _ _ q4 Z (lv_sub hl [2, 3, 4, 5, 6] rfl)
set_option maxHeartbeats 4000000 in
set_option maxRecDepth 100000 in
theorem lc_2 (S : CallFix p m c cL_law 7 s args wsL_law RL) (hst : l.stackTraces = false) (Z : wZ G σ μ o s H locs) (hR : RH G σ μ) (hX : va_X b L xs s s.heap) (hbl : b < s.heap.size) (hbA : ¬ gP G b) (hL : L ≤ 3584) {i : Nat} (hi : i + 7 ≤ L) (hc : cells + 4 ≤ 601024) (hs : slots + 34 ≤ 7293034) (hl : lv_has ls 7 [(0, .ref b), (1, .ref (gA G 0)), (2, .ref (gA G 39)), (3, .ref (gA G 53)), (4, .int (nI i))]) (K : ∀ (σ' : cS) (μ' : mS) (o' : Nat → Int64) (H' : Heap) (locs' : List Loc) (ls' : Array Slot), RH G σ' μ' → wZ G σ' μ' o' s H' locs' → lv_has ls' 7 [(0, .ref b), (1, .ref (gA G 0)), (2, .ref (gA G 39)), (3, .ref (gA G 53)), (4, .int (nI i))] → W p l e room_1 s m args below meth c H' locs' (cells + 4) (slots + 34) Q (F0 m 1958 ls' [])) : W p l e room_1 s m args below meth c H locs cells slots Q (F0 m 370 ls []) := by
  refine lv_aload_n S.1 S.2.1 dL_law_370 rfl (lv_at hl 1 rfl) ?_
  refine r_arg S Z hX hbl hbA hL hl (k0 := 0) (k4 := 4) (k := 1) rfl rfl (by omega) dL_law_371 dL_law_372 (by decide) dL_law_374 dL_law_375 dL_law_376 ?_
  refine r_arg S Z hX hbl hbA hL hl (k0 := 0) (k4 := 4) (k := 2) rfl rfl (by omega) dL_law_377 dL_law_378 (by decide) dL_law_380 dL_law_381 dL_law_382 ?_
  refine r_arg S Z hX hbl hbA hL hl (k0 := 0) (k4 := 4) (k := 3) rfl rfl (by omega) dL_law_383 dL_law_384 (by decide) dL_law_386 dL_law_387 dL_law_388 ?_
  refine lv_aload_n S.1 S.2.1 dL_law_389 rfl (lv_at hl 3 rfl) ?_
  refine va_calli (vx_runSW (As := [.ref (gA G 0), .int (xs (i + 1)), .int (xs (i + 2)), .int (xs (i + 3)), .ref (gA G 53)]) (rest := []) S (w_deleteColumn l hst G σ μ o (xs (i + 1)) (xs (i + 2)) (xs (i + 3)) hR) (vx_cwSW 5 S.2.2.2.2 gL_law_L_deleteColumn rfl rfl rfl hy_L_deleteColumn ⟨Nat.le_of_ble_eq_true rfl, Nat.le_of_ble_eq_true rfl⟩) (wPc_S Z) rfl rfl hl.1 rfl (lv_room (Nat.le_of_ble_eq_true rfl)) dL_law_390 ⟨hc, hs⟩) Z.2.2.2.2 (fun _ _ h => h) (fun _ h => h) (fun r9 u9 T9 H1 locs1 hT9 hvm hw hB hz hk9 hS => ?_)
  obtain ⟨σ1, μ1, o1⟩ := u9
  obtain ⟨q1, q2, q3, q4⟩ := hw
  have q1 : μ = μ1 := Eq.symm q1
  subst q1
  have Z : wZ G σ1 μ o1 s H1 locs1 := ⟨Z.1, Z.2.1, by rw [← hT9]; exact hB.2.2.1, hB.2.2.2, hS⟩
  have q2 : r9 = mV (dkMS μ (xs (i + 1)) (xs (i + 2)) (xs (i + 3))) 18 := q2
  have q3 : mV (dkMS μ (xs (i + 1)) (xs (i + 2)) (xs (i + 3))) 18 = nI 0 → o1 0 = (dkMR μ (xs (i + 1)) (xs (i + 2)) (xs (i + 3))).toInt64 := q3
  have q4 : RH G σ1 (dkMS μ (xs (i + 1)) (xs (i + 2)) (xs (i + 3))) := q4
  have hm : mOK μ := hR.1.2.2.2.2.2.1
  clear hB hT9 hS hk9 hz hvm T9
  refine lv_istore (lv' := [(5, .int r9), (0, .ref b), (1, .ref (gA G 0)), (2, .ref (gA G 39)), (3, .ref (gA G 53)), (4, .int (nI i))]) S.1 S.2.1 dL_law_393 hl (by decide) rfl (fun ls hl => ?_)
  refine lv_aload_n S.1 S.2.1 dL_law_395 rfl (lv_at hl 3 rfl) ?_
  refine r_arg S Z hX hbl hbA hL hl (k0 := 1) (k4 := 5) (k := 1) rfl rfl (by omega) dL_law_396 dL_law_397 (by decide) dL_law_399 dL_law_400 dL_law_401 ?_
  refine r_arg S Z hX hbl hbA hL hl (k0 := 1) (k4 := 5) (k := 2) rfl rfl (by omega) dL_law_402 dL_law_403 (by decide) dL_law_405 dL_law_406 dL_law_407 ?_
  refine r_arg S Z hX hbl hbA hL hl (k0 := 1) (k4 := 5) (k := 3) rfl rfl (by omega) dL_law_408 dL_law_409 (by decide) dL_law_411 dL_law_412 dL_law_413 ?_
  refine mr_deleteColumn S Z hm hl.1 hc hs gL_law_X8_deleteColumn dL_law_414 (fun H1 locs1 Z => ?_)
  refine lv_istore (lv' := [(6, .int (dkMR μ (xs (i + 1)) (xs (i + 2)) (xs (i + 3)))), (5, .int r9), (0, .ref b), (1, .ref (gA G 0)), (2, .ref (gA G 39)), (3, .ref (gA G 53)), (4, .int (nI i))]) S.1 S.2.1 dL_law_417 hl (by decide) rfl (fun ls hl => ?_)
  refine r_endI S Z q2 q3 hc hs hl dL_law_419 dL_law_420 dL_law_423 dL_law_425 dL_law_430 dL_law_432 dL_law_435 dL_law_436 dL_law_437 dL_law_438 dL_law_440 dL_law_441 dL_law_442 dL_law_447 (by decide) ?_
  exact K _ _ _ _ _ _ q4 Z (lv_sub hl [2, 3, 4, 5, 6] rfl)
set_option maxHeartbeats 4000000 in
set_option maxRecDepth 100000 in
theorem lc_3 (S : CallFix p m c cL_law 7 s args wsL_law RL) (hst : l.stackTraces = false) (Z : wZ G σ μ o s H locs) (hR : RH G σ μ) (hX : va_X b L xs s s.heap) (hbl : b < s.heap.size) (hbA : ¬ gP G b) (hL : L ≤ 3584) {i : Nat} (hi : i + 7 ≤ L) (hc : cells + 4 ≤ 601024) (hs : slots + 34 ≤ 7293034) (hl : lv_has ls 7 [(0, .ref b), (1, .ref (gA G 0)), (2, .ref (gA G 39)), (3, .ref (gA G 53)), (4, .int (nI i))]) (K : ∀ (σ' : cS) (μ' : mS) (o' : Nat → Int64) (H' : Heap) (locs' : List Loc) (ls' : Array Slot), RH G σ' μ' → wZ G σ' μ' o' s H' locs' → lv_has ls' 7 [(0, .ref b), (1, .ref (gA G 0)), (2, .ref (gA G 39)), (3, .ref (gA G 53)), (4, .int (nI i))] → W p l e room_1 s m args below meth c H' locs' (cells + 4) (slots + 34) Q (F0 m 1958 ls' [])) : W p l e room_1 s m args below meth c H locs cells slots Q (F0 m 450 ls []) := by
  refine lv_aload_n S.1 S.2.1 dL_law_450 rfl (lv_at hl 1 rfl) ?_
  refine r_arg S Z hX hbl hbA hL hl (k0 := 0) (k4 := 4) (k := 1) rfl rfl (by omega) dL_law_451 dL_law_452 (by decide) dL_law_454 dL_law_455 dL_law_456 ?_
  refine r_arg S Z hX hbl hbA hL hl (k0 := 0) (k4 := 4) (k := 2) rfl rfl (by omega) dL_law_457 dL_law_458 (by decide) dL_law_460 dL_law_461 dL_law_462 ?_
  refine r_arg S Z hX hbl hbA hL hl (k0 := 0) (k4 := 4) (k := 3) rfl rfl (by omega) dL_law_463 dL_law_464 (by decide) dL_law_466 dL_law_467 dL_law_468 ?_
  refine lv_aload_n S.1 S.2.1 dL_law_469 rfl (lv_at hl 3 rfl) ?_
  refine va_calli (vx_runSW (As := [.ref (gA G 0), .int (xs (i + 1)), .int (xs (i + 2)), .int (xs (i + 3)), .ref (gA G 53)]) (rest := []) S (w_deleteRow l hst G σ μ o (xs (i + 1)) (xs (i + 2)) (xs (i + 3)) hR) (vx_cwSW 5 S.2.2.2.2 gL_law_L_deleteRow rfl rfl rfl hy_L_deleteRow ⟨Nat.le_of_ble_eq_true rfl, Nat.le_of_ble_eq_true rfl⟩) (wPc_S Z) rfl rfl hl.1 rfl (lv_room (Nat.le_of_ble_eq_true rfl)) dL_law_470 ⟨hc, hs⟩) Z.2.2.2.2 (fun _ _ h => h) (fun _ h => h) (fun r9 u9 T9 H1 locs1 hT9 hvm hw hB hz hk9 hS => ?_)
  obtain ⟨σ1, μ1, o1⟩ := u9
  obtain ⟨q1, q2, q3, q4⟩ := hw
  have q1 : μ = μ1 := Eq.symm q1
  subst q1
  have Z : wZ G σ1 μ o1 s H1 locs1 := ⟨Z.1, Z.2.1, by rw [← hT9]; exact hB.2.2.1, hB.2.2.2, hS⟩
  have q2 : r9 = mV (dwMS μ (xs (i + 1)) (xs (i + 2)) (xs (i + 3))) 18 := q2
  have q3 : mV (dwMS μ (xs (i + 1)) (xs (i + 2)) (xs (i + 3))) 18 = nI 0 → o1 0 = (dwMR μ (xs (i + 1)) (xs (i + 2)) (xs (i + 3))).toInt64 := q3
  have q4 : RH G σ1 (dwMS μ (xs (i + 1)) (xs (i + 2)) (xs (i + 3))) := q4
  have hm : mOK μ := hR.1.2.2.2.2.2.1
  clear hB hT9 hS hk9 hz hvm T9
  refine lv_istore (lv' := [(5, .int r9), (0, .ref b), (1, .ref (gA G 0)), (2, .ref (gA G 39)), (3, .ref (gA G 53)), (4, .int (nI i))]) S.1 S.2.1 dL_law_473 hl (by decide) rfl (fun ls hl => ?_)
  refine lv_aload_n S.1 S.2.1 dL_law_475 rfl (lv_at hl 3 rfl) ?_
  refine r_arg S Z hX hbl hbA hL hl (k0 := 1) (k4 := 5) (k := 1) rfl rfl (by omega) dL_law_476 dL_law_477 (by decide) dL_law_479 dL_law_480 dL_law_481 ?_
  refine r_arg S Z hX hbl hbA hL hl (k0 := 1) (k4 := 5) (k := 2) rfl rfl (by omega) dL_law_482 dL_law_483 (by decide) dL_law_485 dL_law_486 dL_law_487 ?_
  refine r_arg S Z hX hbl hbA hL hl (k0 := 1) (k4 := 5) (k := 3) rfl rfl (by omega) dL_law_488 dL_law_489 (by decide) dL_law_491 dL_law_492 dL_law_493 ?_
  refine mr_deleteRow S Z hm hl.1 hc hs gL_law_X8_deleteRow dL_law_494 (fun H1 locs1 Z => ?_)
  refine lv_istore (lv' := [(6, .int (dwMR μ (xs (i + 1)) (xs (i + 2)) (xs (i + 3)))), (5, .int r9), (0, .ref b), (1, .ref (gA G 0)), (2, .ref (gA G 39)), (3, .ref (gA G 53)), (4, .int (nI i))]) S.1 S.2.1 dL_law_497 hl (by decide) rfl (fun ls hl => ?_)
  refine r_endI S Z q2 q3 hc hs hl dL_law_499 dL_law_500 dL_law_503 dL_law_505 dL_law_510 dL_law_512 dL_law_515 dL_law_516 dL_law_517 dL_law_518 dL_law_520 dL_law_521 dL_law_522 dL_law_527 (by decide) ?_
  exact K _ _ _ _ _ _ q4 Z (lv_sub hl [2, 3, 4, 5, 6] rfl)
set_option maxHeartbeats 4000000 in
set_option maxRecDepth 100000 in
theorem lc_4 (S : CallFix p m c cL_law 7 s args wsL_law RL) (hst : l.stackTraces = false) (Z : wZ G σ μ o s H locs) (hR : RH G σ μ) (hX : va_X b L xs s s.heap) (hbl : b < s.heap.size) (hbA : ¬ gP G b) (hL : L ≤ 3584) {i : Nat} (hi : i + 7 ≤ L) (hc : cells + 4 ≤ 601024) (hs : slots + 34 ≤ 7293034) (hl : lv_has ls 7 [(0, .ref b), (1, .ref (gA G 0)), (2, .ref (gA G 39)), (3, .ref (gA G 53)), (4, .int (nI i))]) (K : ∀ (σ' : cS) (μ' : mS) (o' : Nat → Int64) (H' : Heap) (locs' : List Loc) (ls' : Array Slot), RH G σ' μ' → wZ G σ' μ' o' s H' locs' → lv_has ls' 7 [(0, .ref b), (1, .ref (gA G 0)), (2, .ref (gA G 39)), (3, .ref (gA G 53)), (4, .int (nI i))] → W p l e room_1 s m args below meth c H' locs' (cells + 4) (slots + 34) Q (F0 m 1958 ls' [])) : W p l e room_1 s m args below meth c H locs cells slots Q (F0 m 530 ls []) := by
  refine lv_aload_n S.1 S.2.1 dL_law_530 rfl (lv_at hl 1 rfl) ?_
  refine r_arg S Z hX hbl hbA hL hl (k0 := 0) (k4 := 4) (k := 1) rfl rfl (by omega) dL_law_531 dL_law_532 (by decide) dL_law_534 dL_law_535 dL_law_536 ?_
  refine r_arg S Z hX hbl hbA hL hl (k0 := 0) (k4 := 4) (k := 2) rfl rfl (by omega) dL_law_537 dL_law_538 (by decide) dL_law_540 dL_law_541 dL_law_542 ?_
  refine r_arg S Z hX hbl hbA hL hl (k0 := 0) (k4 := 4) (k := 3) rfl rfl (by omega) dL_law_543 dL_law_544 (by decide) dL_law_546 dL_law_547 dL_law_548 ?_
  refine r_arg S Z hX hbl hbA hL hl (k0 := 0) (k4 := 4) (k := 4) rfl rfl (by omega) dL_law_549 dL_law_550 (by decide) dL_law_552 dL_law_553 dL_law_554 ?_
  refine lv_aload_n S.1 S.2.1 dL_law_555 rfl (lv_at hl 3 rfl) ?_
  refine va_calli (vx_runSW (As := [.ref (gA G 0), .int (xs (i + 1)), .int (xs (i + 2)), .int (xs (i + 3)), .int (xs (i + 4)), .ref (gA G 53)]) (rest := []) S (w_deleteRange l hst G σ μ o (xs (i + 1)) (xs (i + 2)) (xs (i + 3)) (xs (i + 4)) hR) (vx_cwSW 6 S.2.2.2.2 gL_law_L_deleteRange rfl rfl rfl hy_L_deleteRange ⟨Nat.le_of_ble_eq_true rfl, Nat.le_of_ble_eq_true rfl⟩) (wPc_S Z) rfl rfl hl.1 rfl (lv_room (Nat.le_of_ble_eq_true rfl)) dL_law_556 ⟨hc, hs⟩) Z.2.2.2.2 (fun _ _ h => h) (fun _ h => h) (fun r9 u9 T9 H1 locs1 hT9 hvm hw hB hz hk9 hS => ?_)
  obtain ⟨σ1, μ1, o1⟩ := u9
  obtain ⟨q1, q2, q3, q4⟩ := hw
  have q1 : μ = μ1 := Eq.symm q1
  subst q1
  have Z : wZ G σ1 μ o1 s H1 locs1 := ⟨Z.1, Z.2.1, by rw [← hT9]; exact hB.2.2.1, hB.2.2.2, hS⟩
  have q2 : r9 = mV (drMS μ (xs (i + 1)) (xs (i + 2)) (xs (i + 3)) (xs (i + 4))) 18 := q2
  have q3 : mV (drMS μ (xs (i + 1)) (xs (i + 2)) (xs (i + 3)) (xs (i + 4))) 18 = nI 0 → o1 0 = (drMR μ (xs (i + 1)) (xs (i + 2)) (xs (i + 3)) (xs (i + 4))).toInt64 := q3
  have q4 : RH G σ1 (drMS μ (xs (i + 1)) (xs (i + 2)) (xs (i + 3)) (xs (i + 4))) := q4
  have hm : mOK μ := hR.1.2.2.2.2.2.1
  clear hB hT9 hS hk9 hz hvm T9
  refine lv_istore (lv' := [(5, .int r9), (0, .ref b), (1, .ref (gA G 0)), (2, .ref (gA G 39)), (3, .ref (gA G 53)), (4, .int (nI i))]) S.1 S.2.1 dL_law_559 hl (by decide) rfl (fun ls hl => ?_)
  refine lv_aload_n S.1 S.2.1 dL_law_561 rfl (lv_at hl 3 rfl) ?_
  refine r_arg S Z hX hbl hbA hL hl (k0 := 1) (k4 := 5) (k := 1) rfl rfl (by omega) dL_law_562 dL_law_563 (by decide) dL_law_565 dL_law_566 dL_law_567 ?_
  refine r_arg S Z hX hbl hbA hL hl (k0 := 1) (k4 := 5) (k := 2) rfl rfl (by omega) dL_law_568 dL_law_569 (by decide) dL_law_571 dL_law_572 dL_law_573 ?_
  refine r_arg S Z hX hbl hbA hL hl (k0 := 1) (k4 := 5) (k := 3) rfl rfl (by omega) dL_law_574 dL_law_575 (by decide) dL_law_577 dL_law_578 dL_law_579 ?_
  refine r_arg S Z hX hbl hbA hL hl (k0 := 1) (k4 := 5) (k := 4) rfl rfl (by omega) dL_law_580 dL_law_581 (by decide) dL_law_583 dL_law_584 dL_law_585 ?_
  refine mr_deleteRange S Z hm hl.1 hc hs gL_law_X8_deleteRange dL_law_586 (fun H1 locs1 Z => ?_)
  refine lv_istore (lv' := [(6, .int (drMR μ (xs (i + 1)) (xs (i + 2)) (xs (i + 3)) (xs (i + 4)))), (5, .int r9), (0, .ref b), (1, .ref (gA G 0)), (2, .ref (gA G 39)), (3, .ref (gA G 53)), (4, .int (nI i))]) S.1 S.2.1 dL_law_589 hl (by decide) rfl (fun ls hl => ?_)
  refine r_endI S Z q2 q3 hc hs hl dL_law_591 dL_law_592 dL_law_595 dL_law_597 dL_law_602 dL_law_604 dL_law_607 dL_law_608 dL_law_609 dL_law_610 dL_law_612 dL_law_613 dL_law_614 dL_law_619 (by decide) ?_
  exact K _ _ _ _ _ _ q4 Z (lv_sub hl [2, 3, 4, 5, 6] rfl)
set_option maxHeartbeats 4000000 in
set_option maxRecDepth 100000 in
theorem lc_5 (S : CallFix p m c cL_law 7 s args wsL_law RL) (hst : l.stackTraces = false) (Z : wZ G σ μ o s H locs) (hR : RH G σ μ) (hX : va_X b L xs s s.heap) (hbl : b < s.heap.size) (hbA : ¬ gP G b) (hL : L ≤ 3584) {i : Nat} (hi : i + 7 ≤ L) (hc : cells + 4 ≤ 601024) (hs : slots + 34 ≤ 7293034) (hl : lv_has ls 7 [(0, .ref b), (1, .ref (gA G 0)), (2, .ref (gA G 39)), (3, .ref (gA G 53)), (4, .int (nI i))]) (K : ∀ (σ' : cS) (μ' : mS) (o' : Nat → Int64) (H' : Heap) (locs' : List Loc) (ls' : Array Slot), RH G σ' μ' → wZ G σ' μ' o' s H' locs' → lv_has ls' 7 [(0, .ref b), (1, .ref (gA G 0)), (2, .ref (gA G 39)), (3, .ref (gA G 53)), (4, .int (nI i))] → W p l e room_1 s m args below meth c H' locs' (cells + 4) (slots + 34) Q (F0 m 1958 ls' [])) : W p l e room_1 s m args below meth c H locs cells slots Q (F0 m 622 ls []) := by
  refine lv_aload_n S.1 S.2.1 dL_law_622 rfl (lv_at hl 1 rfl) ?_
  refine r_arg S Z hX hbl hbA hL hl (k0 := 0) (k4 := 4) (k := 1) rfl rfl (by omega) dL_law_623 dL_law_624 (by decide) dL_law_626 dL_law_627 dL_law_628 ?_
  refine r_arg S Z hX hbl hbA hL hl (k0 := 0) (k4 := 4) (k := 2) rfl rfl (by omega) dL_law_629 dL_law_630 (by decide) dL_law_632 dL_law_633 dL_law_634 ?_
  refine r_toB S dL_law_635 dL_law_638 dL_law_639 dL_law_642 ?_
  refine lv_aload_n S.1 S.2.1 dL_law_643 rfl (lv_at hl 3 rfl) ?_
  refine va_calli (vx_runSW (As := [.ref (gA G 0), .int (xs (i + 1)), .int (bi (decide (xs (i + 2) ≠ 0))), .ref (gA G 53)]) (rest := []) S (w_setUp l hst G σ μ o (xs (i + 1)) (decide (xs (i + 2) ≠ 0)) hR) (vx_cwSW 4 S.2.2.2.2 gL_law_L_setUp rfl rfl rfl hy_L_setUp ⟨Nat.le_of_ble_eq_true rfl, Nat.le_of_ble_eq_true rfl⟩) (wPc_S Z) rfl rfl hl.1 rfl (lv_room (Nat.le_of_ble_eq_true rfl)) dL_law_644 ⟨hc, hs⟩) Z.2.2.2.2 (fun _ _ h => h) (fun _ h => h) (fun r9 u9 T9 H1 locs1 hT9 hvm hw hB hz hk9 hS => ?_)
  obtain ⟨σ1, μ1, o1⟩ := u9
  obtain ⟨q1, q2, q3, q4⟩ := hw
  have q1 : μ = μ1 := Eq.symm q1
  subst q1
  have Z : wZ G σ1 μ o1 s H1 locs1 := ⟨Z.1, Z.2.1, by rw [← hT9]; exact hB.2.2.1, hB.2.2.2, hS⟩
  have q2 : r9 = mV (suMS μ (xs (i + 1)) (decide (xs (i + 2) ≠ 0))) 18 := q2
  have q3 : mV (suMS μ (xs (i + 1)) (decide (xs (i + 2) ≠ 0))) 18 = nI 0 → o1 0 = (suMR μ (xs (i + 1)) (decide (xs (i + 2) ≠ 0))).toInt64 := q3
  have q4 : RH G σ1 (suMS μ (xs (i + 1)) (decide (xs (i + 2) ≠ 0))) := q4
  have hm : mOK μ := hR.1.2.2.2.2.2.1
  clear hB hT9 hS hk9 hz hvm T9
  refine lv_istore (lv' := [(5, .int r9), (0, .ref b), (1, .ref (gA G 0)), (2, .ref (gA G 39)), (3, .ref (gA G 53)), (4, .int (nI i))]) S.1 S.2.1 dL_law_647 hl (by decide) rfl (fun ls hl => ?_)
  refine lv_aload_n S.1 S.2.1 dL_law_649 rfl (lv_at hl 3 rfl) ?_
  refine r_arg S Z hX hbl hbA hL hl (k0 := 1) (k4 := 5) (k := 1) rfl rfl (by omega) dL_law_650 dL_law_651 (by decide) dL_law_653 dL_law_654 dL_law_655 ?_
  refine r_arg S Z hX hbl hbA hL hl (k0 := 1) (k4 := 5) (k := 2) rfl rfl (by omega) dL_law_656 dL_law_657 (by decide) dL_law_659 dL_law_660 dL_law_661 ?_
  refine r_toB S dL_law_662 dL_law_665 dL_law_666 dL_law_669 ?_
  refine mr_setUp S Z hm hl.1 hc hs gL_law_X8_setUp dL_law_670 (fun H1 locs1 Z => ?_)
  refine lv_istore (lv' := [(6, .int (suMR μ (xs (i + 1)) (decide (xs (i + 2) ≠ 0)))), (5, .int r9), (0, .ref b), (1, .ref (gA G 0)), (2, .ref (gA G 39)), (3, .ref (gA G 53)), (4, .int (nI i))]) S.1 S.2.1 dL_law_673 hl (by decide) rfl (fun ls hl => ?_)
  refine r_endI S Z q2 q3 hc hs hl dL_law_675 dL_law_676 dL_law_679 dL_law_681 dL_law_686 dL_law_688 dL_law_691 dL_law_692 dL_law_693 dL_law_694 dL_law_696 dL_law_697 dL_law_698 dL_law_703 (by decide) ?_
  exact K _ _ _ _ _ _ q4 Z (lv_sub hl [2, 3, 4, 5, 6] rfl)
set_option maxHeartbeats 4000000 in
set_option maxRecDepth 100000 in
theorem lc_6 (S : CallFix p m c cL_law 7 s args wsL_law RL) (hst : l.stackTraces = false) (Z : wZ G σ μ o s H locs) (hR : RH G σ μ) (hX : va_X b L xs s s.heap) (hbl : b < s.heap.size) (hbA : ¬ gP G b) (hL : L ≤ 3584) {i : Nat} (hi : i + 7 ≤ L) (hc : cells + 4 ≤ 601024) (hs : slots + 34 ≤ 7293034) (hl : lv_has ls 7 [(0, .ref b), (1, .ref (gA G 0)), (2, .ref (gA G 39)), (3, .ref (gA G 53)), (4, .int (nI i))]) (K : ∀ (σ' : cS) (μ' : mS) (o' : Nat → Int64) (H' : Heap) (locs' : List Loc) (ls' : Array Slot), RH G σ' μ' → wZ G σ' μ' o' s H' locs' → lv_has ls' 7 [(0, .ref b), (1, .ref (gA G 0)), (2, .ref (gA G 39)), (3, .ref (gA G 53)), (4, .int (nI i))] → W p l e room_1 s m args below meth c H' locs' (cells + 4) (slots + 34) Q (F0 m 1958 ls' [])) : W p l e room_1 s m args below meth c H locs cells slots Q (F0 m 706 ls []) := by
  refine lv_aload_n S.1 S.2.1 dL_law_706 rfl (lv_at hl 1 rfl) ?_
  refine r_arg S Z hX hbl hbA hL hl (k0 := 0) (k4 := 4) (k := 1) rfl rfl (by omega) dL_law_707 dL_law_708 (by decide) dL_law_710 dL_law_711 dL_law_712 ?_
  refine lv_aload_n S.1 S.2.1 dL_law_713 rfl (lv_at hl 3 rfl) ?_
  refine va_calli (vx_runSW (As := [.ref (gA G 0), .int (xs (i + 1)), .ref (gA G 53)]) (rest := []) S (w_loseHints l hst G σ μ o (xs (i + 1)) hR) (vx_cwSW 3 S.2.2.2.2 gL_law_L_loseHints rfl rfl rfl hy_L_loseHints ⟨Nat.le_of_ble_eq_true rfl, Nat.le_of_ble_eq_true rfl⟩) (wPc_S Z) rfl rfl hl.1 rfl (lv_room (Nat.le_of_ble_eq_true rfl)) dL_law_714 ⟨hc, hs⟩) Z.2.2.2.2 (fun _ _ h => h) (fun _ h => h) (fun r9 u9 T9 H1 locs1 hT9 hvm hw hB hz hk9 hS => ?_)
  obtain ⟨σ1, μ1, o1⟩ := u9
  obtain ⟨q1, q2, q3, q4⟩ := hw
  have q1 : μ = μ1 := Eq.symm q1
  subst q1
  have Z : wZ G σ1 μ o1 s H1 locs1 := ⟨Z.1, Z.2.1, by rw [← hT9]; exact hB.2.2.1, hB.2.2.2, hS⟩
  have q2 : r9 = mV (lhMS μ (xs (i + 1))) 18 := q2
  have q3 : mV (lhMS μ (xs (i + 1))) 18 = nI 0 → o1 0 = (lhMR μ (xs (i + 1))).toInt64 := q3
  have q4 : RH G σ1 (lhMS μ (xs (i + 1))) := q4
  have hm : mOK μ := hR.1.2.2.2.2.2.1
  clear hB hT9 hS hk9 hz hvm T9
  refine lv_istore (lv' := [(5, .int r9), (0, .ref b), (1, .ref (gA G 0)), (2, .ref (gA G 39)), (3, .ref (gA G 53)), (4, .int (nI i))]) S.1 S.2.1 dL_law_717 hl (by decide) rfl (fun ls hl => ?_)
  refine lv_aload_n S.1 S.2.1 dL_law_719 rfl (lv_at hl 3 rfl) ?_
  refine r_arg S Z hX hbl hbA hL hl (k0 := 1) (k4 := 5) (k := 1) rfl rfl (by omega) dL_law_720 dL_law_721 (by decide) dL_law_723 dL_law_724 dL_law_725 ?_
  refine mr_loseHints S Z hm hl.1 hc hs gL_law_X8_loseHints dL_law_726 (fun H1 locs1 Z => ?_)
  refine lv_istore (lv' := [(6, .int (lhMR μ (xs (i + 1)))), (5, .int r9), (0, .ref b), (1, .ref (gA G 0)), (2, .ref (gA G 39)), (3, .ref (gA G 53)), (4, .int (nI i))]) S.1 S.2.1 dL_law_729 hl (by decide) rfl (fun ls hl => ?_)
  refine r_endI S Z q2 q3 hc hs hl dL_law_731 dL_law_732 dL_law_735 dL_law_737 dL_law_742 dL_law_744 dL_law_747 dL_law_748 dL_law_749 dL_law_750 dL_law_752 dL_law_753 dL_law_754 dL_law_759 (by decide) ?_
  exact K _ _ _ _ _ _ q4 Z (lv_sub hl [2, 3, 4, 5, 6] rfl)
set_option maxHeartbeats 4000000 in
set_option maxRecDepth 100000 in
theorem lc_7 (S : CallFix p m c cL_law 7 s args wsL_law RL) (hst : l.stackTraces = false) (Z : wZ G σ μ o s H locs) (hR : RH G σ μ) (hX : va_X b L xs s s.heap) (hbl : b < s.heap.size) (hbA : ¬ gP G b) (hL : L ≤ 3584) {i : Nat} (hi : i + 7 ≤ L) (hc : cells + 4 ≤ 601024) (hs : slots + 34 ≤ 7293034) (hl : lv_has ls 7 [(0, .ref b), (1, .ref (gA G 0)), (2, .ref (gA G 39)), (3, .ref (gA G 53)), (4, .int (nI i))]) (K : ∀ (σ' : cS) (μ' : mS) (o' : Nat → Int64) (H' : Heap) (locs' : List Loc) (ls' : Array Slot), RH G σ' μ' → wZ G σ' μ' o' s H' locs' → lv_has ls' 7 [(0, .ref b), (1, .ref (gA G 0)), (2, .ref (gA G 39)), (3, .ref (gA G 53)), (4, .int (nI i))] → W p l e room_1 s m args below meth c H' locs' (cells + 4) (slots + 34) Q (F0 m 1958 ls' [])) : W p l e room_1 s m args below meth c H locs cells slots Q (F0 m 762 ls []) := by
  refine lv_aload_n S.1 S.2.1 dL_law_762 rfl (lv_at hl 1 rfl) ?_
  refine r_arg S Z hX hbl hbA hL hl (k0 := 0) (k4 := 4) (k := 1) rfl rfl (by omega) dL_law_763 dL_law_764 (by decide) dL_law_766 dL_law_767 dL_law_768 ?_
  refine lv_aload_n S.1 S.2.1 dL_law_769 rfl (lv_at hl 3 rfl) ?_
  refine va_calli (vx_runSW (As := [.ref (gA G 0), .int (xs (i + 1)), .ref (gA G 53)]) (rest := []) S (w_pass l hst G σ μ o (xs (i + 1)) hR) (vx_cwSW 3 S.2.2.2.2 gL_law_L_pass rfl rfl rfl hy_L_pass ⟨Nat.le_of_ble_eq_true rfl, Nat.le_of_ble_eq_true rfl⟩) (wPc_S Z) rfl rfl hl.1 rfl (lv_room (Nat.le_of_ble_eq_true rfl)) dL_law_770 ⟨hc, hs⟩) Z.2.2.2.2 (fun _ _ h => h) (fun _ h => h) (fun r9 u9 T9 H1 locs1 hT9 hvm hw hB hz hk9 hS => ?_)
  obtain ⟨σ1, μ1, o1⟩ := u9
  obtain ⟨q1, q2, q3, q4⟩ := hw
  have q1 : μ = μ1 := Eq.symm q1
  subst q1
  have Z : wZ G σ1 μ o1 s H1 locs1 := ⟨Z.1, Z.2.1, by rw [← hT9]; exact hB.2.2.1, hB.2.2.2, hS⟩
  have q2 : r9 = mV (paS μ (xs (i + 1))) 18 := q2
  have q3 : mV (paS μ (xs (i + 1))) 18 = nI 0 → o1 0 = (paR μ (xs (i + 1))).toInt64 := q3
  have q4 : RH G σ1 (paS μ (xs (i + 1))) := q4
  have hm : mOK μ := hR.1.2.2.2.2.2.1
  clear hB hT9 hS hk9 hz hvm T9
  refine lv_istore (lv' := [(5, .int r9), (0, .ref b), (1, .ref (gA G 0)), (2, .ref (gA G 39)), (3, .ref (gA G 53)), (4, .int (nI i))]) S.1 S.2.1 dL_law_773 hl (by decide) rfl (fun ls hl => ?_)
  refine lv_aload_n S.1 S.2.1 dL_law_775 rfl (lv_at hl 3 rfl) ?_
  refine r_arg S Z hX hbl hbA hL hl (k0 := 1) (k4 := 5) (k := 1) rfl rfl (by omega) dL_law_776 dL_law_777 (by decide) dL_law_779 dL_law_780 dL_law_781 ?_
  refine mr_pass S Z hm hl.1 hc hs gL_law_X8_pass dL_law_782 (fun H1 locs1 Z => ?_)
  refine lv_istore (lv' := [(6, .int (paR μ (xs (i + 1)))), (5, .int r9), (0, .ref b), (1, .ref (gA G 0)), (2, .ref (gA G 39)), (3, .ref (gA G 53)), (4, .int (nI i))]) S.1 S.2.1 dL_law_785 hl (by decide) rfl (fun ls hl => ?_)
  refine r_endI S Z q2 q3 hc hs hl dL_law_787 dL_law_788 dL_law_791 dL_law_793 dL_law_798 dL_law_800 dL_law_803 dL_law_804 dL_law_805 dL_law_806 dL_law_808 dL_law_809 dL_law_810 dL_law_815 (by decide) ?_
  exact K _ _ _ _ _ _ q4 Z (lv_sub hl [2, 3, 4, 5, 6] rfl)
set_option maxHeartbeats 4000000 in
set_option maxRecDepth 100000 in
theorem lc_8 (S : CallFix p m c cL_law 7 s args wsL_law RL) (hst : l.stackTraces = false) (Z : wZ G σ μ o s H locs) (hR : RH G σ μ) (hX : va_X b L xs s s.heap) (hbl : b < s.heap.size) (hbA : ¬ gP G b) (hL : L ≤ 3584) {i : Nat} (hi : i + 7 ≤ L) (hc : cells + 4 ≤ 601024) (hs : slots + 34 ≤ 7293034) (hl : lv_has ls 7 [(0, .ref b), (1, .ref (gA G 0)), (2, .ref (gA G 39)), (3, .ref (gA G 53)), (4, .int (nI i))]) (K : ∀ (σ' : cS) (μ' : mS) (o' : Nat → Int64) (H' : Heap) (locs' : List Loc) (ls' : Array Slot), RH G σ' μ' → wZ G σ' μ' o' s H' locs' → lv_has ls' 7 [(0, .ref b), (1, .ref (gA G 0)), (2, .ref (gA G 39)), (3, .ref (gA G 53)), (4, .int (nI i))] → W p l e room_1 s m args below meth c H' locs' (cells + 4) (slots + 34) Q (F0 m 1958 ls' [])) : W p l e room_1 s m args below meth c H locs cells slots Q (F0 m 818 ls []) := by
  refine lv_aload_n S.1 S.2.1 dL_law_818 rfl (lv_at hl 1 rfl) ?_
  refine r_arg S Z hX hbl hbA hL hl (k0 := 0) (k4 := 4) (k := 1) rfl rfl (by omega) dL_law_819 dL_law_820 (by decide) dL_law_822 dL_law_823 dL_law_824 ?_
  refine lv_aload_n S.1 S.2.1 dL_law_825 rfl (lv_at hl 3 rfl) ?_
  refine va_calli (vx_runSW (As := [.ref (gA G 0), .int (xs (i + 1)), .ref (gA G 53)]) (rest := []) S (w_setGrace l hst G σ μ o (xs (i + 1)) hR) (vx_cwSW 3 S.2.2.2.2 gL_law_L_setGrace rfl rfl rfl hy_L_setGrace ⟨Nat.le_of_ble_eq_true rfl, Nat.le_of_ble_eq_true rfl⟩) (wPc_S Z) rfl rfl hl.1 rfl (lv_room (Nat.le_of_ble_eq_true rfl)) dL_law_826 ⟨hc, hs⟩) Z.2.2.2.2 (fun _ _ h => h) (fun _ h => h) (fun r9 u9 T9 H1 locs1 hT9 hvm hw hB hz hk9 hS => ?_)
  obtain ⟨σ1, μ1, o1⟩ := u9
  obtain ⟨q1, q2, q3, q4⟩ := hw
  have q1 : μ = μ1 := Eq.symm q1
  subst q1
  have Z : wZ G σ1 μ o1 s H1 locs1 := ⟨Z.1, Z.2.1, by rw [← hT9]; exact hB.2.2.1, hB.2.2.2, hS⟩
  have q2 : r9 = mV (sgS μ (xs (i + 1))) 18 := q2
  have q3 : mV (sgS μ (xs (i + 1))) 18 = nI 0 → o1 0 = (sgR μ (xs (i + 1))).toInt64 := q3
  have q4 : RH G σ1 (sgS μ (xs (i + 1))) := q4
  have hm : mOK μ := hR.1.2.2.2.2.2.1
  clear hB hT9 hS hk9 hz hvm T9
  refine lv_istore (lv' := [(5, .int r9), (0, .ref b), (1, .ref (gA G 0)), (2, .ref (gA G 39)), (3, .ref (gA G 53)), (4, .int (nI i))]) S.1 S.2.1 dL_law_829 hl (by decide) rfl (fun ls hl => ?_)
  refine lv_aload_n S.1 S.2.1 dL_law_831 rfl (lv_at hl 3 rfl) ?_
  refine r_arg S Z hX hbl hbA hL hl (k0 := 1) (k4 := 5) (k := 1) rfl rfl (by omega) dL_law_832 dL_law_833 (by decide) dL_law_835 dL_law_836 dL_law_837 ?_
  refine mr_setGrace S Z hm hl.1 hc hs gL_law_X8_setGrace dL_law_838 (fun H1 locs1 Z => ?_)
  refine lv_istore (lv' := [(6, .int (sgR μ (xs (i + 1)))), (5, .int r9), (0, .ref b), (1, .ref (gA G 0)), (2, .ref (gA G 39)), (3, .ref (gA G 53)), (4, .int (nI i))]) S.1 S.2.1 dL_law_841 hl (by decide) rfl (fun ls hl => ?_)
  refine r_endI S Z q2 q3 hc hs hl dL_law_843 dL_law_844 dL_law_847 dL_law_849 dL_law_854 dL_law_856 dL_law_859 dL_law_860 dL_law_861 dL_law_862 dL_law_864 dL_law_865 dL_law_866 dL_law_871 (by decide) ?_
  exact K _ _ _ _ _ _ q4 Z (lv_sub hl [2, 3, 4, 5, 6] rfl)
set_option maxHeartbeats 4000000 in
set_option maxRecDepth 100000 in
theorem lc_9 (S : CallFix p m c cL_law 7 s args wsL_law RL) (hst : l.stackTraces = false) (Z : wZ G σ μ o s H locs) (hR : RH G σ μ) (hX : va_X b L xs s s.heap) (hbl : b < s.heap.size) (hbA : ¬ gP G b) (hL : L ≤ 3584) {i : Nat} (hi : i + 7 ≤ L) (hc : cells + 4 ≤ 601024) (hs : slots + 34 ≤ 7293034) (hl : lv_has ls 7 [(0, .ref b), (1, .ref (gA G 0)), (2, .ref (gA G 39)), (3, .ref (gA G 53)), (4, .int (nI i))]) (K : ∀ (σ' : cS) (μ' : mS) (o' : Nat → Int64) (H' : Heap) (locs' : List Loc) (ls' : Array Slot), RH G σ' μ' → wZ G σ' μ' o' s H' locs' → lv_has ls' 7 [(0, .ref b), (1, .ref (gA G 0)), (2, .ref (gA G 39)), (3, .ref (gA G 53)), (4, .int (nI i))] → W p l e room_1 s m args below meth c H' locs' (cells + 4) (slots + 34) Q (F0 m 1958 ls' [])) : W p l e room_1 s m args below meth c H locs cells slots Q (F0 m 874 ls []) := by
  refine lv_aload_n S.1 S.2.1 dL_law_874 rfl (lv_at hl 1 rfl) ?_
  refine r_arg S Z hX hbl hbA hL hl (k0 := 0) (k4 := 4) (k := 1) rfl rfl (by omega) dL_law_875 dL_law_876 (by decide) dL_law_878 dL_law_879 dL_law_880 ?_
  refine r_arg S Z hX hbl hbA hL hl (k0 := 0) (k4 := 4) (k := 2) rfl rfl (by omega) dL_law_881 dL_law_882 (by decide) dL_law_884 dL_law_885 dL_law_886 ?_
  refine r_arg S Z hX hbl hbA hL hl (k0 := 0) (k4 := 4) (k := 3) rfl rfl (by omega) dL_law_887 dL_law_888 (by decide) dL_law_890 dL_law_891 dL_law_892 ?_
  refine r_arg S Z hX hbl hbA hL hl (k0 := 0) (k4 := 4) (k := 4) rfl rfl (by omega) dL_law_893 dL_law_894 (by decide) dL_law_896 dL_law_897 dL_law_898 ?_
  refine lv_aload_n S.1 S.2.1 dL_law_899 rfl (lv_at hl 3 rfl) ?_
  refine va_calli (vx_runSW (As := [.ref (gA G 0), .int (xs (i + 1)), .int (xs (i + 2)), .int (xs (i + 3)), .int (xs (i + 4)), .ref (gA G 53)]) (rest := []) S (w_read l hst G σ μ o (xs (i + 1)) (xs (i + 2)) (xs (i + 3)) (xs (i + 4)) hR) (vx_cwSW 6 S.2.2.2.2 gL_law_L_read rfl rfl rfl hy_L_read ⟨Nat.le_of_ble_eq_true rfl, Nat.le_of_ble_eq_true rfl⟩) (wPc_S Z) rfl rfl hl.1 rfl (lv_room (Nat.le_of_ble_eq_true rfl)) dL_law_900 ⟨hc, hs⟩) Z.2.2.2.2 (fun _ _ h => h) (fun _ h => h) (fun r9 u9 T9 H1 locs1 hT9 hvm hw hB hz hk9 hS => ?_)
  obtain ⟨σ1, μ1, o1⟩ := u9
  obtain ⟨q1, q2, q3, q4⟩ := hw
  have q1 : μ = μ1 := Eq.symm q1
  subst q1
  have Z : wZ G σ1 μ o1 s H1 locs1 := ⟨Z.1, Z.2.1, by rw [← hT9]; exact hB.2.2.1, hB.2.2.2, hS⟩
  have q2 : r9 = mV (rdMS μ (xs (i + 1)) (xs (i + 2)) (xs (i + 3)) (xs (i + 4))) 18 := q2
  have q3 : mV (rdMS μ (xs (i + 1)) (xs (i + 2)) (xs (i + 3)) (xs (i + 4))) 18 = nI 0 → o1 0 = (rdMR μ (xs (i + 1)) (xs (i + 2)) (xs (i + 3)) (xs (i + 4))).toInt64 := q3
  have q4 : RH G σ1 (rdMS μ (xs (i + 1)) (xs (i + 2)) (xs (i + 3)) (xs (i + 4))) := q4
  have hm : mOK μ := hR.1.2.2.2.2.2.1
  clear hB hT9 hS hk9 hz hvm T9
  refine lv_istore (lv' := [(5, .int r9), (0, .ref b), (1, .ref (gA G 0)), (2, .ref (gA G 39)), (3, .ref (gA G 53)), (4, .int (nI i))]) S.1 S.2.1 dL_law_903 hl (by decide) rfl (fun ls hl => ?_)
  refine lv_aload_n S.1 S.2.1 dL_law_905 rfl (lv_at hl 3 rfl) ?_
  refine r_arg S Z hX hbl hbA hL hl (k0 := 1) (k4 := 5) (k := 1) rfl rfl (by omega) dL_law_906 dL_law_907 (by decide) dL_law_909 dL_law_910 dL_law_911 ?_
  refine r_arg S Z hX hbl hbA hL hl (k0 := 1) (k4 := 5) (k := 2) rfl rfl (by omega) dL_law_912 dL_law_913 (by decide) dL_law_915 dL_law_916 dL_law_917 ?_
  refine r_arg S Z hX hbl hbA hL hl (k0 := 1) (k4 := 5) (k := 3) rfl rfl (by omega) dL_law_918 dL_law_919 (by decide) dL_law_921 dL_law_922 dL_law_923 ?_
  refine r_arg S Z hX hbl hbA hL hl (k0 := 1) (k4 := 5) (k := 4) rfl rfl (by omega) dL_law_924 dL_law_925 (by decide) dL_law_927 dL_law_928 dL_law_929 ?_
  refine mr_read S Z hm hl.1 hc hs gL_law_X8_read dL_law_930 (fun H1 locs1 Z => ?_)
  refine lv_istore (lv' := [(6, .int (rdMR μ (xs (i + 1)) (xs (i + 2)) (xs (i + 3)) (xs (i + 4)))), (5, .int r9), (0, .ref b), (1, .ref (gA G 0)), (2, .ref (gA G 39)), (3, .ref (gA G 53)), (4, .int (nI i))]) S.1 S.2.1 dL_law_933 hl (by decide) rfl (fun ls hl => ?_)
  refine r_endI S Z q2 q3 hc hs hl dL_law_935 dL_law_936 dL_law_939 dL_law_941 dL_law_946 dL_law_948 dL_law_951 dL_law_952 dL_law_953 dL_law_954 dL_law_956 dL_law_957 dL_law_958 dL_law_963 (by decide) ?_
  exact K _ _ _ _ _ _ q4 Z (lv_sub hl [2, 3, 4, 5, 6] rfl)
set_option maxHeartbeats 4000000 in
set_option maxRecDepth 100000 in
theorem lc_10 (S : CallFix p m c cL_law 7 s args wsL_law RL) (hst : l.stackTraces = false) (Z : wZ G σ μ o s H locs) (hR : RH G σ μ) (hX : va_X b L xs s s.heap) (hbl : b < s.heap.size) (hbA : ¬ gP G b) (hL : L ≤ 3584) {i : Nat} (hi : i + 7 ≤ L) (hc : cells + 4 ≤ 601024) (hs : slots + 34 ≤ 7293034) (hl : lv_has ls 7 [(0, .ref b), (1, .ref (gA G 0)), (2, .ref (gA G 39)), (3, .ref (gA G 53)), (4, .int (nI i))]) (K : ∀ (σ' : cS) (μ' : mS) (o' : Nat → Int64) (H' : Heap) (locs' : List Loc) (ls' : Array Slot), RH G σ' μ' → wZ G σ' μ' o' s H' locs' → lv_has ls' 7 [(0, .ref b), (1, .ref (gA G 0)), (2, .ref (gA G 39)), (3, .ref (gA G 53)), (4, .int (nI i))] → W p l e room_1 s m args below meth c H' locs' (cells + 4) (slots + 34) Q (F0 m 1958 ls' [])) : W p l e room_1 s m args below meth c H locs cells slots Q (F0 m 966 ls []) := by
  refine lv_aload_n S.1 S.2.1 dL_law_966 rfl (lv_at hl 1 rfl) ?_
  refine r_arg S Z hX hbl hbA hL hl (k0 := 0) (k4 := 4) (k := 1) rfl rfl (by omega) dL_law_967 dL_law_968 (by decide) dL_law_970 dL_law_971 dL_law_972 ?_
  refine r_arg S Z hX hbl hbA hL hl (k0 := 0) (k4 := 4) (k := 2) rfl rfl (by omega) dL_law_973 dL_law_974 (by decide) dL_law_976 dL_law_977 dL_law_978 ?_
  refine lv_aload_n S.1 S.2.1 dL_law_979 rfl (lv_at hl 3 rfl) ?_
  refine va_calli (vx_runSW (As := [.ref (gA G 0), .int (xs (i + 1)), .int (xs (i + 2)), .ref (gA G 53)]) (rest := []) S (w_makeAlike l hst G σ μ o (xs (i + 1)) (xs (i + 2)) hR) (vx_cwSW 4 S.2.2.2.2 gL_law_L_makeAlike rfl rfl rfl hy_L_makeAlike ⟨Nat.le_of_ble_eq_true rfl, Nat.le_of_ble_eq_true rfl⟩) (wPc_S Z) rfl rfl hl.1 rfl (lv_room (Nat.le_of_ble_eq_true rfl)) dL_law_980 ⟨hc, hs⟩) Z.2.2.2.2 (fun _ _ h => h) (fun _ h => h) (fun r9 u9 T9 H1 locs1 hT9 hvm hw hB hz hk9 hS => ?_)
  obtain ⟨σ1, μ1, o1⟩ := u9
  obtain ⟨q1, q2, q3, q4⟩ := hw
  have q1 : μ = μ1 := Eq.symm q1
  subst q1
  have Z : wZ G σ1 μ o1 s H1 locs1 := ⟨Z.1, Z.2.1, by rw [← hT9]; exact hB.2.2.1, hB.2.2.2, hS⟩
  have q2 : r9 = mV (maMS μ (xs (i + 1)) (xs (i + 2))) 18 := q2
  have q3 : mV (maMS μ (xs (i + 1)) (xs (i + 2))) 18 = nI 0 → o1 0 = (maMR μ (xs (i + 1)) (xs (i + 2))).toInt64 := q3
  have q4 : RH G σ1 (maMS μ (xs (i + 1)) (xs (i + 2))) := q4
  have hm : mOK μ := hR.1.2.2.2.2.2.1
  clear hB hT9 hS hk9 hz hvm T9
  refine lv_istore (lv' := [(5, .int r9), (0, .ref b), (1, .ref (gA G 0)), (2, .ref (gA G 39)), (3, .ref (gA G 53)), (4, .int (nI i))]) S.1 S.2.1 dL_law_983 hl (by decide) rfl (fun ls hl => ?_)
  refine lv_aload_n S.1 S.2.1 dL_law_985 rfl (lv_at hl 3 rfl) ?_
  refine r_arg S Z hX hbl hbA hL hl (k0 := 1) (k4 := 5) (k := 1) rfl rfl (by omega) dL_law_986 dL_law_987 (by decide) dL_law_989 dL_law_990 dL_law_991 ?_
  refine r_arg S Z hX hbl hbA hL hl (k0 := 1) (k4 := 5) (k := 2) rfl rfl (by omega) dL_law_992 dL_law_993 (by decide) dL_law_995 dL_law_996 dL_law_997 ?_
  refine mr_makeAlike S Z hm hl.1 hc hs gL_law_X8_makeAlike dL_law_998 (fun H1 locs1 Z => ?_)
  refine lv_istore (lv' := [(6, .int (maMR μ (xs (i + 1)) (xs (i + 2)))), (5, .int r9), (0, .ref b), (1, .ref (gA G 0)), (2, .ref (gA G 39)), (3, .ref (gA G 53)), (4, .int (nI i))]) S.1 S.2.1 dL_law_1001 hl (by decide) rfl (fun ls hl => ?_)
  refine r_endI S Z q2 q3 hc hs hl dL_law_1003 dL_law_1004 dL_law_1007 dL_law_1009 dL_law_1014 dL_law_1016 dL_law_1019 dL_law_1020 dL_law_1021 dL_law_1022 dL_law_1024 dL_law_1025 dL_law_1026 dL_law_1031 (by decide) ?_
  exact K _ _ _ _ _ _ q4 Z (lv_sub hl [2, 3, 4, 5, 6] rfl)
set_option maxHeartbeats 4000000 in
set_option maxRecDepth 100000 in
theorem lc_11 (S : CallFix p m c cL_law 7 s args wsL_law RL) (hst : l.stackTraces = false) (Z : wZ G σ μ o s H locs) (hR : RH G σ μ) (hX : va_X b L xs s s.heap) (hbl : b < s.heap.size) (hbA : ¬ gP G b) (hL : L ≤ 3584) {i : Nat} (hi : i + 7 ≤ L) (hc : cells + 4 ≤ 601024) (hs : slots + 34 ≤ 7293034) (hl : lv_has ls 7 [(0, .ref b), (1, .ref (gA G 0)), (2, .ref (gA G 39)), (3, .ref (gA G 53)), (4, .int (nI i))]) (K : ∀ (σ' : cS) (μ' : mS) (o' : Nat → Int64) (H' : Heap) (locs' : List Loc) (ls' : Array Slot), RH G σ' μ' → wZ G σ' μ' o' s H' locs' → lv_has ls' 7 [(0, .ref b), (1, .ref (gA G 0)), (2, .ref (gA G 39)), (3, .ref (gA G 53)), (4, .int (nI i))] → W p l e room_1 s m args below meth c H' locs' (cells + 4) (slots + 34) Q (F0 m 1958 ls' [])) : W p l e room_1 s m args below meth c H locs cells slots Q (F0 m 1034 ls []) := by
  refine lv_aload_n S.1 S.2.1 dL_law_1034 rfl (lv_at hl 1 rfl) ?_
  refine r_arg S Z hX hbl hbA hL hl (k0 := 0) (k4 := 4) (k := 1) rfl rfl (by omega) dL_law_1035 dL_law_1036 (by decide) dL_law_1038 dL_law_1039 dL_law_1040 ?_
  refine lv_aload_n S.1 S.2.1 dL_law_1041 rfl (lv_at hl 3 rfl) ?_
  refine va_calli (vx_runSW (As := [.ref (gA G 0), .int (xs (i + 1)), .ref (gA G 53)]) (rest := []) S (w_clean l hst G σ μ o (xs (i + 1)) hR) (vx_cwSW 3 S.2.2.2.2 gL_law_L_clean rfl rfl rfl hy_L_clean ⟨Nat.le_of_ble_eq_true rfl, Nat.le_of_ble_eq_true rfl⟩) (wPc_S Z) rfl rfl hl.1 rfl (lv_room (Nat.le_of_ble_eq_true rfl)) dL_law_1042 ⟨hc, hs⟩) Z.2.2.2.2 (fun _ _ h => h) (fun _ h => h) (fun r9 u9 T9 H1 locs1 hT9 hvm hw hB hz hk9 hS => ?_)
  obtain ⟨σ1, μ1, o1⟩ := u9
  obtain ⟨q1, q2, q3, q4⟩ := hw
  have q1 : μ = μ1 := Eq.symm q1
  subst q1
  have Z : wZ G σ1 μ o1 s H1 locs1 := ⟨Z.1, Z.2.1, by rw [← hT9]; exact hB.2.2.1, hB.2.2.2, hS⟩
  have q2 : r9 = mV (clMS μ (xs (i + 1))) 18 := q2
  have q3 : mV (clMS μ (xs (i + 1))) 18 = nI 0 → o1 0 = (clMR μ (xs (i + 1))).toInt64 := q3
  have q4 : RH G σ1 (clMS μ (xs (i + 1))) := q4
  have hm : mOK μ := hR.1.2.2.2.2.2.1
  clear hB hT9 hS hk9 hz hvm T9
  refine lv_istore (lv' := [(5, .int r9), (0, .ref b), (1, .ref (gA G 0)), (2, .ref (gA G 39)), (3, .ref (gA G 53)), (4, .int (nI i))]) S.1 S.2.1 dL_law_1045 hl (by decide) rfl (fun ls hl => ?_)
  refine lv_aload_n S.1 S.2.1 dL_law_1047 rfl (lv_at hl 3 rfl) ?_
  refine r_arg S Z hX hbl hbA hL hl (k0 := 1) (k4 := 5) (k := 1) rfl rfl (by omega) dL_law_1048 dL_law_1049 (by decide) dL_law_1051 dL_law_1052 dL_law_1053 ?_
  refine mr_clean S Z hm hl.1 hc hs gL_law_X8_clean dL_law_1054 (fun H1 locs1 Z => ?_)
  refine lv_istore (lv' := [(6, .int (clMR μ (xs (i + 1)))), (5, .int r9), (0, .ref b), (1, .ref (gA G 0)), (2, .ref (gA G 39)), (3, .ref (gA G 53)), (4, .int (nI i))]) S.1 S.2.1 dL_law_1057 hl (by decide) rfl (fun ls hl => ?_)
  refine r_endI S Z q2 q3 hc hs hl dL_law_1059 dL_law_1060 dL_law_1063 dL_law_1065 dL_law_1070 dL_law_1072 dL_law_1075 dL_law_1076 dL_law_1077 dL_law_1078 dL_law_1080 dL_law_1081 dL_law_1082 dL_law_1087 (by decide) ?_
  exact K _ _ _ _ _ _ q4 Z (lv_sub hl [2, 3, 4, 5, 6] rfl)
set_option maxHeartbeats 4000000 in
set_option maxRecDepth 100000 in
theorem lc_12 (S : CallFix p m c cL_law 7 s args wsL_law RL) (hst : l.stackTraces = false) (Z : wZ G σ μ o s H locs) (hR : RH G σ μ) (hX : va_X b L xs s s.heap) (hbl : b < s.heap.size) (hbA : ¬ gP G b) (hL : L ≤ 3584) {i : Nat} (hi : i + 7 ≤ L) (hc : cells + 4 ≤ 601024) (hs : slots + 34 ≤ 7293034) (hl : lv_has ls 7 [(0, .ref b), (1, .ref (gA G 0)), (2, .ref (gA G 39)), (3, .ref (gA G 53)), (4, .int (nI i))]) (K : ∀ (σ' : cS) (μ' : mS) (o' : Nat → Int64) (H' : Heap) (locs' : List Loc) (ls' : Array Slot), RH G σ' μ' → wZ G σ' μ' o' s H' locs' → lv_has ls' 7 [(0, .ref b), (1, .ref (gA G 0)), (2, .ref (gA G 39)), (3, .ref (gA G 53)), (4, .int (nI i))] → W p l e room_1 s m args below meth c H' locs' (cells + 4) (slots + 34) Q (F0 m 1958 ls' [])) : W p l e room_1 s m args below meth c H locs cells slots Q (F0 m 1090 ls []) := by
  refine lv_aload_n S.1 S.2.1 dL_law_1090 rfl (lv_at hl 1 rfl) ?_
  refine vp_callSi (va_runV (As := []) (rest := []) S (k_X7_time l G σ μ o) (cwV 0 S.2.2.2.2 gL_law_X7_time rfl rfl rfl ⟨rfl, hy_X7_time⟩ ⟨Nat.le_of_ble_eq_true rfl, Nat.le_of_ble_eq_true rfl⟩) (wPc_V (q := (RX7, TX7, 7)) Z (by decide) rfl rfl) rfl rfl hl.1 rfl (lv_room (Nat.le_of_ble_eq_true rfl)) dL_law_1091 ⟨(show cells ≤ 601024 by omega), (show slots ≤ 7293034 by omega)⟩).run (fun r1 h1 => ?_)
  rw [h1]
  refine lv_aload_n S.1 S.2.1 dL_law_1094 rfl (lv_at hl 2 rfl) ?_
  refine va_calli (va_runV (As := []) (rest := [.int (cV σ 4)]) S (k_X8_time l G σ μ o) (cwV 0 S.2.2.2.2 gL_law_X8_time rfl rfl rfl ⟨rfl, hy_X8_time⟩ ⟨Nat.le_of_ble_eq_true rfl, Nat.le_of_ble_eq_true rfl⟩) (wPc_V (q := (RX8, TX8, 19)) Z (by decide) rfl rfl) rfl rfl hl.1 rfl (lv_room (Nat.le_of_ble_eq_true rfl)) dL_law_1095 ⟨(show cells ≤ 601024 by omega), (show slots ≤ 7293034 by omega)⟩) Z.2.2.2.2 (fun _ _ h => h) (fun _ h => h) (fun r9 u9 T9 H1 locs1 hT9 hvm hw hB hz hk9 hS => ?_)
  obtain ⟨hr9, hu9⟩ := hw
  subst hu9
  rw [hr9]
  have Z : wZ G σ (thr μ 0) o s H1 locs1 := wZ_callP Z hB hT9 hS
  have ev : cV σ 4 = mV μ 14 := hR.1.2.2.2.1.1
  refine lv_icmp_eq (tgt := 1958) S.1 S.2.1 dL_law_1098 (by decide) (fun _ => ?_) (fun z => absurd ev z)
  refine W.widen (k := cells + 4) (n := slots + 34) (by omega) (by omega) ?_
  exact K _ _ _ _ _ _ (RH_thr hR) Z hl
set_option maxHeartbeats 4000000 in
set_option maxRecDepth 100000 in
theorem lc_13 (S : CallFix p m c cL_law 7 s args wsL_law RL) (hst : l.stackTraces = false) (Z : wZ G σ μ o s H locs) (hR : RH G σ μ) (hX : va_X b L xs s s.heap) (hbl : b < s.heap.size) (hbA : ¬ gP G b) (hL : L ≤ 3584) {i : Nat} (hi : i + 7 ≤ L) (hc : cells + 4 ≤ 601024) (hs : slots + 34 ≤ 7293034) (hl : lv_has ls 7 [(0, .ref b), (1, .ref (gA G 0)), (2, .ref (gA G 39)), (3, .ref (gA G 53)), (4, .int (nI i))]) (K : ∀ (σ' : cS) (μ' : mS) (o' : Nat → Int64) (H' : Heap) (locs' : List Loc) (ls' : Array Slot), RH G σ' μ' → wZ G σ' μ' o' s H' locs' → lv_has ls' 7 [(0, .ref b), (1, .ref (gA G 0)), (2, .ref (gA G 39)), (3, .ref (gA G 53)), (4, .int (nI i))] → W p l e room_1 s m args below meth c H' locs' (cells + 4) (slots + 34) Q (F0 m 1958 ls' [])) : W p l e room_1 s m args below meth c H locs cells slots Q (F0 m 1103 ls []) := by
  refine lv_aload_n S.1 S.2.1 dL_law_1103 rfl (lv_at hl 1 rfl) ?_
  refine r_arg S Z hX hbl hbA hL hl (k0 := 0) (k4 := 4) (k := 1) rfl rfl (by omega) dL_law_1104 dL_law_1105 (by decide) dL_law_1107 dL_law_1108 dL_law_1109 ?_
  refine lv_aload_n S.1 S.2.1 dL_law_1110 rfl (lv_at hl 3 rfl) ?_
  refine va_calli (vx_runSW (As := [.ref (gA G 0), .int (xs (i + 1)), .ref (gA G 53)]) (rest := []) S (w_isUp l hst G σ μ o (xs (i + 1)) hR) (vx_cwSW 3 S.2.2.2.2 gL_law_L_isUp rfl rfl rfl hy_L_isUp ⟨Nat.le_of_ble_eq_true rfl, Nat.le_of_ble_eq_true rfl⟩) (wPc_S Z) rfl rfl hl.1 rfl (lv_room (Nat.le_of_ble_eq_true rfl)) dL_law_1111 ⟨hc, hs⟩) Z.2.2.2.2 (fun _ _ h => h) (fun _ h => h) (fun r9 u9 T9 H1 locs1 hT9 hvm hw hB hz hk9 hS => ?_)
  obtain ⟨σ1, μ1, o1⟩ := u9
  obtain ⟨q1, q2, q3, q4⟩ := hw
  have q1 : μ = μ1 := Eq.symm q1
  subst q1
  have Z : wZ G σ1 μ o1 s H1 locs1 := ⟨Z.1, Z.2.1, by rw [← hT9]; exact hB.2.2.1, hB.2.2.2, hS⟩
  have q2 : r9 = mV (q1MS μ (xs (i + 1))) 18 := q2
  have q3 : mV (q1MS μ (xs (i + 1))) 18 = nI 0 → o1 0 = (iuMR μ (xs (i + 1))).toInt64 := q3
  have q4 : RH G σ1 (q1MS μ (xs (i + 1))) := q4
  have hm : mOK μ := hR.1.2.2.2.2.2.1
  clear hB hT9 hS hk9 hz hvm T9
  refine lv_istore (lv' := [(5, .int r9), (0, .ref b), (1, .ref (gA G 0)), (2, .ref (gA G 39)), (3, .ref (gA G 53)), (4, .int (nI i))]) S.1 S.2.1 dL_law_1114 hl (by decide) rfl (fun ls hl => ?_)
  refine lv_aload_n S.1 S.2.1 dL_law_1116 rfl (lv_at hl 3 rfl) ?_
  refine r_arg S Z hX hbl hbA hL hl (k0 := 1) (k4 := 5) (k := 1) rfl rfl (by omega) dL_law_1117 dL_law_1118 (by decide) dL_law_1120 dL_law_1121 dL_law_1122 ?_
  refine mr_isUp S Z hm hl.1 hc hs gL_law_X8_isUp dL_law_1123 (fun H1 locs1 Z => ?_)
  obtain ⟨x9, hx9⟩ := iuMR_b μ (xs (i + 1))
  rw [hx9] at q3 ⊢
  refine lv_istore (lv' := [(6, .int (bi x9)), (5, .int r9), (0, .ref b), (1, .ref (gA G 0)), (2, .ref (gA G 39)), (3, .ref (gA G 53)), (4, .int (nI i))]) S.1 S.2.1 dL_law_1126 hl (by decide) rfl (fun ls hl => ?_)
  refine r_endB S Z q2 q3 hc hs hl dL_law_1128 dL_law_1129 dL_law_1132 dL_law_1134 dL_law_1139 dL_law_1141 dL_law_1144 dL_law_1145 dL_law_1146 dL_law_1147 dL_law_1149 dL_law_1152 dL_law_1153 dL_law_1156 dL_law_1157 dL_law_1158 dL_law_1163 (by decide) ?_
  exact K _ _ _ _ _ _ q4 Z (lv_sub hl [2, 3, 4, 5, 6] rfl)
set_option maxHeartbeats 4000000 in
set_option maxRecDepth 100000 in
theorem lc_14 (S : CallFix p m c cL_law 7 s args wsL_law RL) (hst : l.stackTraces = false) (Z : wZ G σ μ o s H locs) (hR : RH G σ μ) (hX : va_X b L xs s s.heap) (hbl : b < s.heap.size) (hbA : ¬ gP G b) (hL : L ≤ 3584) {i : Nat} (hi : i + 7 ≤ L) (hc : cells + 4 ≤ 601024) (hs : slots + 34 ≤ 7293034) (hl : lv_has ls 7 [(0, .ref b), (1, .ref (gA G 0)), (2, .ref (gA G 39)), (3, .ref (gA G 53)), (4, .int (nI i))]) (K : ∀ (σ' : cS) (μ' : mS) (o' : Nat → Int64) (H' : Heap) (locs' : List Loc) (ls' : Array Slot), RH G σ' μ' → wZ G σ' μ' o' s H' locs' → lv_has ls' 7 [(0, .ref b), (1, .ref (gA G 0)), (2, .ref (gA G 39)), (3, .ref (gA G 53)), (4, .int (nI i))] → W p l e room_1 s m args below meth c H' locs' (cells + 4) (slots + 34) Q (F0 m 1958 ls' [])) : W p l e room_1 s m args below meth c H locs cells slots Q (F0 m 1166 ls []) := by
  refine lv_aload_n S.1 S.2.1 dL_law_1166 rfl (lv_at hl 1 rfl) ?_
  refine r_arg S Z hX hbl hbA hL hl (k0 := 0) (k4 := 4) (k := 1) rfl rfl (by omega) dL_law_1167 dL_law_1168 (by decide) dL_law_1170 dL_law_1171 dL_law_1172 ?_
  refine lv_aload_n S.1 S.2.1 dL_law_1173 rfl (lv_at hl 3 rfl) ?_
  refine va_calli (vx_runSW (As := [.ref (gA G 0), .int (xs (i + 1)), .ref (gA G 53)]) (rest := []) S (w_hints l hst G σ μ o (xs (i + 1)) hR) (vx_cwSW 3 S.2.2.2.2 gL_law_L_hints rfl rfl rfl hy_L_hints ⟨Nat.le_of_ble_eq_true rfl, Nat.le_of_ble_eq_true rfl⟩) (wPc_S Z) rfl rfl hl.1 rfl (lv_room (Nat.le_of_ble_eq_true rfl)) dL_law_1174 ⟨hc, hs⟩) Z.2.2.2.2 (fun _ _ h => h) (fun _ h => h) (fun r9 u9 T9 H1 locs1 hT9 hvm hw hB hz hk9 hS => ?_)
  obtain ⟨σ1, μ1, o1⟩ := u9
  obtain ⟨q1, q2, q3, q4⟩ := hw
  have q1 : μ = μ1 := Eq.symm q1
  subst q1
  have Z : wZ G σ1 μ o1 s H1 locs1 := ⟨Z.1, Z.2.1, by rw [← hT9]; exact hB.2.2.1, hB.2.2.2, hS⟩
  have q2 : r9 = mV (q1MS μ (xs (i + 1))) 18 := q2
  have q3 : mV (q1MS μ (xs (i + 1))) 18 = nI 0 → o1 0 = (htMR μ (xs (i + 1))).toInt64 := q3
  have q4 : RH G σ1 (q1MS μ (xs (i + 1))) := q4
  have hm : mOK μ := hR.1.2.2.2.2.2.1
  clear hB hT9 hS hk9 hz hvm T9
  refine lv_istore (lv' := [(5, .int r9), (0, .ref b), (1, .ref (gA G 0)), (2, .ref (gA G 39)), (3, .ref (gA G 53)), (4, .int (nI i))]) S.1 S.2.1 dL_law_1177 hl (by decide) rfl (fun ls hl => ?_)
  refine lv_aload_n S.1 S.2.1 dL_law_1179 rfl (lv_at hl 3 rfl) ?_
  refine r_arg S Z hX hbl hbA hL hl (k0 := 1) (k4 := 5) (k := 1) rfl rfl (by omega) dL_law_1180 dL_law_1181 (by decide) dL_law_1183 dL_law_1184 dL_law_1185 ?_
  refine mr_hints S Z hm hl.1 hc hs gL_law_X8_hints dL_law_1186 (fun H1 locs1 Z => ?_)
  refine lv_istore (lv' := [(6, .int (htMR μ (xs (i + 1)))), (5, .int r9), (0, .ref b), (1, .ref (gA G 0)), (2, .ref (gA G 39)), (3, .ref (gA G 53)), (4, .int (nI i))]) S.1 S.2.1 dL_law_1189 hl (by decide) rfl (fun ls hl => ?_)
  refine r_endI S Z q2 q3 hc hs hl dL_law_1191 dL_law_1192 dL_law_1195 dL_law_1197 dL_law_1202 dL_law_1204 dL_law_1207 dL_law_1208 dL_law_1209 dL_law_1210 dL_law_1212 dL_law_1213 dL_law_1214 dL_law_1219 (by decide) ?_
  exact K _ _ _ _ _ _ q4 Z (lv_sub hl [2, 3, 4, 5, 6] rfl)
set_option maxHeartbeats 4000000 in
set_option maxRecDepth 100000 in
theorem lc_15 (S : CallFix p m c cL_law 7 s args wsL_law RL) (hst : l.stackTraces = false) (Z : wZ G σ μ o s H locs) (hR : RH G σ μ) (hX : va_X b L xs s s.heap) (hbl : b < s.heap.size) (hbA : ¬ gP G b) (hL : L ≤ 3584) {i : Nat} (hi : i + 7 ≤ L) (hc : cells + 4 ≤ 601024) (hs : slots + 34 ≤ 7293034) (hl : lv_has ls 7 [(0, .ref b), (1, .ref (gA G 0)), (2, .ref (gA G 39)), (3, .ref (gA G 53)), (4, .int (nI i))]) (K : ∀ (σ' : cS) (μ' : mS) (o' : Nat → Int64) (H' : Heap) (locs' : List Loc) (ls' : Array Slot), RH G σ' μ' → wZ G σ' μ' o' s H' locs' → lv_has ls' 7 [(0, .ref b), (1, .ref (gA G 0)), (2, .ref (gA G 39)), (3, .ref (gA G 53)), (4, .int (nI i))] → W p l e room_1 s m args below meth c H' locs' (cells + 4) (slots + 34) Q (F0 m 1958 ls' [])) : W p l e room_1 s m args below meth c H locs cells slots Q (F0 m 1222 ls []) := by
  refine lv_aload_n S.1 S.2.1 dL_law_1222 rfl (lv_at hl 1 rfl) ?_
  refine vp_callSi (va_runV (As := []) (rest := []) S (k_X7_repairs l G σ μ o) (cwV 0 S.2.2.2.2 gL_law_X7_repairs rfl rfl rfl ⟨rfl, hy_X7_repairs⟩ ⟨Nat.le_of_ble_eq_true rfl, Nat.le_of_ble_eq_true rfl⟩) (wPc_V (q := (RX7, TX7, 7)) Z (by decide) rfl rfl) rfl rfl hl.1 rfl (lv_room (Nat.le_of_ble_eq_true rfl)) dL_law_1223 ⟨(show cells ≤ 601024 by omega), (show slots ≤ 7293034 by omega)⟩).run (fun r1 h1 => ?_)
  rw [h1]
  refine lv_aload_n S.1 S.2.1 dL_law_1226 rfl (lv_at hl 2 rfl) ?_
  refine va_calli (va_runV (As := []) (rest := [.int (cV σ 6)]) S (k_X8_repairs l G σ μ o) (cwV 0 S.2.2.2.2 gL_law_X8_repairs rfl rfl rfl ⟨rfl, hy_X8_repairs⟩ ⟨Nat.le_of_ble_eq_true rfl, Nat.le_of_ble_eq_true rfl⟩) (wPc_V (q := (RX8, TX8, 19)) Z (by decide) rfl rfl) rfl rfl hl.1 rfl (lv_room (Nat.le_of_ble_eq_true rfl)) dL_law_1227 ⟨(show cells ≤ 601024 by omega), (show slots ≤ 7293034 by omega)⟩) Z.2.2.2.2 (fun _ _ h => h) (fun _ h => h) (fun r9 u9 T9 H1 locs1 hT9 hvm hw hB hz hk9 hS => ?_)
  obtain ⟨hr9, hu9⟩ := hw
  subst hu9
  rw [hr9]
  have Z : wZ G σ (thr μ 0) o s H1 locs1 := wZ_callP Z hB hT9 hS
  have ev : cV σ 6 = mV μ 16 := hR.1.2.2.2.1.2.2.1
  refine lv_icmp_eq (tgt := 1958) S.1 S.2.1 dL_law_1230 (by decide) (fun _ => ?_) (fun z => absurd ev z)
  refine W.widen (k := cells + 4) (n := slots + 34) (by omega) (by omega) ?_
  exact K _ _ _ _ _ _ (RH_thr hR) Z hl
set_option maxHeartbeats 4000000 in
set_option maxRecDepth 100000 in
theorem lc_16 (S : CallFix p m c cL_law 7 s args wsL_law RL) (hst : l.stackTraces = false) (Z : wZ G σ μ o s H locs) (hR : RH G σ μ) (hX : va_X b L xs s s.heap) (hbl : b < s.heap.size) (hbA : ¬ gP G b) (hL : L ≤ 3584) {i : Nat} (hi : i + 7 ≤ L) (hc : cells + 4 ≤ 601024) (hs : slots + 34 ≤ 7293034) (hl : lv_has ls 7 [(0, .ref b), (1, .ref (gA G 0)), (2, .ref (gA G 39)), (3, .ref (gA G 53)), (4, .int (nI i))]) (K : ∀ (σ' : cS) (μ' : mS) (o' : Nat → Int64) (H' : Heap) (locs' : List Loc) (ls' : Array Slot), RH G σ' μ' → wZ G σ' μ' o' s H' locs' → lv_has ls' 7 [(0, .ref b), (1, .ref (gA G 0)), (2, .ref (gA G 39)), (3, .ref (gA G 53)), (4, .int (nI i))] → W p l e room_1 s m args below meth c H' locs' (cells + 4) (slots + 34) Q (F0 m 1958 ls' [])) : W p l e room_1 s m args below meth c H locs cells slots Q (F0 m 1235 ls []) := by
  refine lv_aload_n S.1 S.2.1 dL_law_1235 rfl (lv_at hl 1 rfl) ?_
  refine r_arg S Z hX hbl hbA hL hl (k0 := 0) (k4 := 4) (k := 1) rfl rfl (by omega) dL_law_1236 dL_law_1237 (by decide) dL_law_1239 dL_law_1240 dL_law_1241 ?_
  refine r_arg S Z hX hbl hbA hL hl (k0 := 0) (k4 := 4) (k := 2) rfl rfl (by omega) dL_law_1242 dL_law_1243 (by decide) dL_law_1245 dL_law_1246 dL_law_1247 ?_
  refine r_arg S Z hX hbl hbA hL hl (k0 := 0) (k4 := 4) (k := 3) rfl rfl (by omega) dL_law_1248 dL_law_1249 (by decide) dL_law_1251 dL_law_1252 dL_law_1253 ?_
  refine lv_aload_n S.1 S.2.1 dL_law_1254 rfl (lv_at hl 3 rfl) ?_
  refine va_calli (vx_runSW (As := [.ref (gA G 0), .int (xs (i + 1)), .int (xs (i + 2)), .int (xs (i + 3)), .ref (gA G 53)]) (rest := []) S (w_valueAt l hst G σ μ o (xs (i + 1)) (xs (i + 2)) (xs (i + 3)) hR) (vx_cwSW 5 S.2.2.2.2 gL_law_L_valueAt rfl rfl rfl hy_L_valueAt ⟨Nat.le_of_ble_eq_true rfl, Nat.le_of_ble_eq_true rfl⟩) (wPc_S Z) rfl rfl hl.1 rfl (lv_room (Nat.le_of_ble_eq_true rfl)) dL_law_1255 ⟨hc, hs⟩) Z.2.2.2.2 (fun _ _ h => h) (fun _ h => h) (fun r9 u9 T9 H1 locs1 hT9 hvm hw hB hz hk9 hS => ?_)
  obtain ⟨σ1, μ1, o1⟩ := u9
  obtain ⟨q1, q2, q3, q4⟩ := hw
  have q1 : μ = μ1 := Eq.symm q1
  subst q1
  have Z : wZ G σ1 μ o1 s H1 locs1 := ⟨Z.1, Z.2.1, by rw [← hT9]; exact hB.2.2.1, hB.2.2.2, hS⟩
  have q2 : r9 = mV (q3MS μ (xs (i + 1)) (xs (i + 2)) (xs (i + 3))) 18 := q2
  have q3 : mV (q3MS μ (xs (i + 1)) (xs (i + 2)) (xs (i + 3))) 18 = nI 0 → o1 0 = (vaMR μ (xs (i + 1)) (xs (i + 2)) (xs (i + 3))).toInt64 := q3
  have q4 : RH G σ1 (q3MS μ (xs (i + 1)) (xs (i + 2)) (xs (i + 3))) := q4
  have hm : mOK μ := hR.1.2.2.2.2.2.1
  clear hB hT9 hS hk9 hz hvm T9
  refine lv_istore (lv' := [(5, .int r9), (0, .ref b), (1, .ref (gA G 0)), (2, .ref (gA G 39)), (3, .ref (gA G 53)), (4, .int (nI i))]) S.1 S.2.1 dL_law_1258 hl (by decide) rfl (fun ls hl => ?_)
  refine lv_aload_n S.1 S.2.1 dL_law_1260 rfl (lv_at hl 3 rfl) ?_
  refine r_arg S Z hX hbl hbA hL hl (k0 := 1) (k4 := 5) (k := 1) rfl rfl (by omega) dL_law_1261 dL_law_1262 (by decide) dL_law_1264 dL_law_1265 dL_law_1266 ?_
  refine r_arg S Z hX hbl hbA hL hl (k0 := 1) (k4 := 5) (k := 2) rfl rfl (by omega) dL_law_1267 dL_law_1268 (by decide) dL_law_1270 dL_law_1271 dL_law_1272 ?_
  refine r_arg S Z hX hbl hbA hL hl (k0 := 1) (k4 := 5) (k := 3) rfl rfl (by omega) dL_law_1273 dL_law_1274 (by decide) dL_law_1276 dL_law_1277 dL_law_1278 ?_
  refine mr_valueAt S Z hm hl.1 hc hs gL_law_X8_valueAt dL_law_1279 (fun H1 locs1 Z => ?_)
  refine lv_istore (lv' := [(6, .int (vaMR μ (xs (i + 1)) (xs (i + 2)) (xs (i + 3)))), (5, .int r9), (0, .ref b), (1, .ref (gA G 0)), (2, .ref (gA G 39)), (3, .ref (gA G 53)), (4, .int (nI i))]) S.1 S.2.1 dL_law_1282 hl (by decide) rfl (fun ls hl => ?_)
  refine r_endI S Z q2 q3 hc hs hl dL_law_1284 dL_law_1285 dL_law_1288 dL_law_1290 dL_law_1295 dL_law_1297 dL_law_1300 dL_law_1301 dL_law_1302 dL_law_1303 dL_law_1305 dL_law_1306 dL_law_1307 dL_law_1312 (by decide) ?_
  exact K _ _ _ _ _ _ q4 Z (lv_sub hl [2, 3, 4, 5, 6] rfl)
set_option maxHeartbeats 4000000 in
set_option maxRecDepth 100000 in
theorem lc_17 (S : CallFix p m c cL_law 7 s args wsL_law RL) (hst : l.stackTraces = false) (Z : wZ G σ μ o s H locs) (hR : RH G σ μ) (hX : va_X b L xs s s.heap) (hbl : b < s.heap.size) (hbA : ¬ gP G b) (hL : L ≤ 3584) {i : Nat} (hi : i + 7 ≤ L) (hc : cells + 4 ≤ 601024) (hs : slots + 34 ≤ 7293034) (hl : lv_has ls 7 [(0, .ref b), (1, .ref (gA G 0)), (2, .ref (gA G 39)), (3, .ref (gA G 53)), (4, .int (nI i))]) (K : ∀ (σ' : cS) (μ' : mS) (o' : Nat → Int64) (H' : Heap) (locs' : List Loc) (ls' : Array Slot), RH G σ' μ' → wZ G σ' μ' o' s H' locs' → lv_has ls' 7 [(0, .ref b), (1, .ref (gA G 0)), (2, .ref (gA G 39)), (3, .ref (gA G 53)), (4, .int (nI i))] → W p l e room_1 s m args below meth c H' locs' (cells + 4) (slots + 34) Q (F0 m 1958 ls' [])) : W p l e room_1 s m args below meth c H locs cells slots Q (F0 m 1315 ls []) := by
  refine lv_aload_n S.1 S.2.1 dL_law_1315 rfl (lv_at hl 1 rfl) ?_
  refine r_arg S Z hX hbl hbA hL hl (k0 := 0) (k4 := 4) (k := 1) rfl rfl (by omega) dL_law_1316 dL_law_1317 (by decide) dL_law_1319 dL_law_1320 dL_law_1321 ?_
  refine r_arg S Z hX hbl hbA hL hl (k0 := 0) (k4 := 4) (k := 2) rfl rfl (by omega) dL_law_1322 dL_law_1323 (by decide) dL_law_1325 dL_law_1326 dL_law_1327 ?_
  refine r_arg S Z hX hbl hbA hL hl (k0 := 0) (k4 := 4) (k := 3) rfl rfl (by omega) dL_law_1328 dL_law_1329 (by decide) dL_law_1331 dL_law_1332 dL_law_1333 ?_
  refine lv_aload_n S.1 S.2.1 dL_law_1334 rfl (lv_at hl 3 rfl) ?_
  refine va_calli (vx_runSW (As := [.ref (gA G 0), .int (xs (i + 1)), .int (xs (i + 2)), .int (xs (i + 3)), .ref (gA G 53)]) (rest := []) S (w_stampAt l hst G σ μ o (xs (i + 1)) (xs (i + 2)) (xs (i + 3)) hR) (vx_cwSW 5 S.2.2.2.2 gL_law_L_stampAt rfl rfl rfl hy_L_stampAt ⟨Nat.le_of_ble_eq_true rfl, Nat.le_of_ble_eq_true rfl⟩) (wPc_S Z) rfl rfl hl.1 rfl (lv_room (Nat.le_of_ble_eq_true rfl)) dL_law_1335 ⟨hc, hs⟩) Z.2.2.2.2 (fun _ _ h => h) (fun _ h => h) (fun r9 u9 T9 H1 locs1 hT9 hvm hw hB hz hk9 hS => ?_)
  obtain ⟨σ1, μ1, o1⟩ := u9
  obtain ⟨q1, q2, q3, q4⟩ := hw
  have q1 : μ = μ1 := Eq.symm q1
  subst q1
  have Z : wZ G σ1 μ o1 s H1 locs1 := ⟨Z.1, Z.2.1, by rw [← hT9]; exact hB.2.2.1, hB.2.2.2, hS⟩
  have q2 : r9 = mV (q3MS μ (xs (i + 1)) (xs (i + 2)) (xs (i + 3))) 18 := q2
  have q3 : mV (q3MS μ (xs (i + 1)) (xs (i + 2)) (xs (i + 3))) 18 = nI 0 → o1 0 = (saMR μ (xs (i + 1)) (xs (i + 2)) (xs (i + 3))).toInt64 := q3
  have q4 : RH G σ1 (q3MS μ (xs (i + 1)) (xs (i + 2)) (xs (i + 3))) := q4
  have hm : mOK μ := hR.1.2.2.2.2.2.1
  clear hB hT9 hS hk9 hz hvm T9
  refine lv_istore (lv' := [(5, .int r9), (0, .ref b), (1, .ref (gA G 0)), (2, .ref (gA G 39)), (3, .ref (gA G 53)), (4, .int (nI i))]) S.1 S.2.1 dL_law_1338 hl (by decide) rfl (fun ls hl => ?_)
  refine lv_aload_n S.1 S.2.1 dL_law_1340 rfl (lv_at hl 3 rfl) ?_
  refine r_arg S Z hX hbl hbA hL hl (k0 := 1) (k4 := 5) (k := 1) rfl rfl (by omega) dL_law_1341 dL_law_1342 (by decide) dL_law_1344 dL_law_1345 dL_law_1346 ?_
  refine r_arg S Z hX hbl hbA hL hl (k0 := 1) (k4 := 5) (k := 2) rfl rfl (by omega) dL_law_1347 dL_law_1348 (by decide) dL_law_1350 dL_law_1351 dL_law_1352 ?_
  refine r_arg S Z hX hbl hbA hL hl (k0 := 1) (k4 := 5) (k := 3) rfl rfl (by omega) dL_law_1353 dL_law_1354 (by decide) dL_law_1356 dL_law_1357 dL_law_1358 ?_
  refine mr_stampAt S Z hm hl.1 hc hs gL_law_X8_stampAt dL_law_1359 (fun H1 locs1 Z => ?_)
  refine lv_istore (lv' := [(6, .int (saMR μ (xs (i + 1)) (xs (i + 2)) (xs (i + 3)))), (5, .int r9), (0, .ref b), (1, .ref (gA G 0)), (2, .ref (gA G 39)), (3, .ref (gA G 53)), (4, .int (nI i))]) S.1 S.2.1 dL_law_1362 hl (by decide) rfl (fun ls hl => ?_)
  refine r_endI S Z q2 q3 hc hs hl dL_law_1364 dL_law_1365 dL_law_1368 dL_law_1370 dL_law_1375 dL_law_1377 dL_law_1380 dL_law_1381 dL_law_1382 dL_law_1383 dL_law_1385 dL_law_1386 dL_law_1387 dL_law_1392 (by decide) ?_
  exact K _ _ _ _ _ _ q4 Z (lv_sub hl [2, 3, 4, 5, 6] rfl)
set_option maxHeartbeats 4000000 in
set_option maxRecDepth 100000 in
theorem lc_18 (S : CallFix p m c cL_law 7 s args wsL_law RL) (hst : l.stackTraces = false) (Z : wZ G σ μ o s H locs) (hR : RH G σ μ) (hX : va_X b L xs s s.heap) (hbl : b < s.heap.size) (hbA : ¬ gP G b) (hL : L ≤ 3584) {i : Nat} (hi : i + 7 ≤ L) (hc : cells + 4 ≤ 601024) (hs : slots + 34 ≤ 7293034) (hl : lv_has ls 7 [(0, .ref b), (1, .ref (gA G 0)), (2, .ref (gA G 39)), (3, .ref (gA G 53)), (4, .int (nI i))]) (K : ∀ (σ' : cS) (μ' : mS) (o' : Nat → Int64) (H' : Heap) (locs' : List Loc) (ls' : Array Slot), RH G σ' μ' → wZ G σ' μ' o' s H' locs' → lv_has ls' 7 [(0, .ref b), (1, .ref (gA G 0)), (2, .ref (gA G 39)), (3, .ref (gA G 53)), (4, .int (nI i))] → W p l e room_1 s m args below meth c H' locs' (cells + 4) (slots + 34) Q (F0 m 1958 ls' [])) : W p l e room_1 s m args below meth c H locs cells slots Q (F0 m 1395 ls []) := by
  refine lv_aload_n S.1 S.2.1 dL_law_1395 rfl (lv_at hl 1 rfl) ?_
  refine r_arg S Z hX hbl hbA hL hl (k0 := 0) (k4 := 4) (k := 1) rfl rfl (by omega) dL_law_1396 dL_law_1397 (by decide) dL_law_1399 dL_law_1400 dL_law_1401 ?_
  refine r_arg S Z hX hbl hbA hL hl (k0 := 0) (k4 := 4) (k := 2) rfl rfl (by omega) dL_law_1402 dL_law_1403 (by decide) dL_law_1405 dL_law_1406 dL_law_1407 ?_
  refine r_arg S Z hX hbl hbA hL hl (k0 := 0) (k4 := 4) (k := 3) rfl rfl (by omega) dL_law_1408 dL_law_1409 (by decide) dL_law_1411 dL_law_1412 dL_law_1413 ?_
  refine lv_aload_n S.1 S.2.1 dL_law_1414 rfl (lv_at hl 3 rfl) ?_
  refine va_calli (vx_runSW (As := [.ref (gA G 0), .int (xs (i + 1)), .int (xs (i + 2)), .int (xs (i + 3)), .ref (gA G 53)]) (rest := []) S (w_buriedBy l hst G σ μ o (xs (i + 1)) (xs (i + 2)) (xs (i + 3)) hR) (vx_cwSW 5 S.2.2.2.2 gL_law_L_buriedBy rfl rfl rfl hy_L_buriedBy ⟨Nat.le_of_ble_eq_true rfl, Nat.le_of_ble_eq_true rfl⟩) (wPc_S Z) rfl rfl hl.1 rfl (lv_room (Nat.le_of_ble_eq_true rfl)) dL_law_1415 ⟨hc, hs⟩) Z.2.2.2.2 (fun _ _ h => h) (fun _ h => h) (fun r9 u9 T9 H1 locs1 hT9 hvm hw hB hz hk9 hS => ?_)
  obtain ⟨σ1, μ1, o1⟩ := u9
  obtain ⟨q1, q2, q3, q4⟩ := hw
  have q1 : μ = μ1 := Eq.symm q1
  subst q1
  have Z : wZ G σ1 μ o1 s H1 locs1 := ⟨Z.1, Z.2.1, by rw [← hT9]; exact hB.2.2.1, hB.2.2.2, hS⟩
  have q2 : r9 = mV (q3MS μ (xs (i + 1)) (xs (i + 2)) (xs (i + 3))) 18 := q2
  have q3 : mV (q3MS μ (xs (i + 1)) (xs (i + 2)) (xs (i + 3))) 18 = nI 0 → o1 0 = (bbMR μ (xs (i + 1)) (xs (i + 2)) (xs (i + 3))).toInt64 := q3
  have q4 : RH G σ1 (q3MS μ (xs (i + 1)) (xs (i + 2)) (xs (i + 3))) := q4
  have hm : mOK μ := hR.1.2.2.2.2.2.1
  clear hB hT9 hS hk9 hz hvm T9
  refine lv_istore (lv' := [(5, .int r9), (0, .ref b), (1, .ref (gA G 0)), (2, .ref (gA G 39)), (3, .ref (gA G 53)), (4, .int (nI i))]) S.1 S.2.1 dL_law_1418 hl (by decide) rfl (fun ls hl => ?_)
  refine lv_aload_n S.1 S.2.1 dL_law_1420 rfl (lv_at hl 3 rfl) ?_
  refine r_arg S Z hX hbl hbA hL hl (k0 := 1) (k4 := 5) (k := 1) rfl rfl (by omega) dL_law_1421 dL_law_1422 (by decide) dL_law_1424 dL_law_1425 dL_law_1426 ?_
  refine r_arg S Z hX hbl hbA hL hl (k0 := 1) (k4 := 5) (k := 2) rfl rfl (by omega) dL_law_1427 dL_law_1428 (by decide) dL_law_1430 dL_law_1431 dL_law_1432 ?_
  refine r_arg S Z hX hbl hbA hL hl (k0 := 1) (k4 := 5) (k := 3) rfl rfl (by omega) dL_law_1433 dL_law_1434 (by decide) dL_law_1436 dL_law_1437 dL_law_1438 ?_
  refine mr_buriedBy S Z hm hl.1 hc hs gL_law_X8_buriedBy dL_law_1439 (fun H1 locs1 Z => ?_)
  refine lv_istore (lv' := [(6, .int (bbMR μ (xs (i + 1)) (xs (i + 2)) (xs (i + 3)))), (5, .int r9), (0, .ref b), (1, .ref (gA G 0)), (2, .ref (gA G 39)), (3, .ref (gA G 53)), (4, .int (nI i))]) S.1 S.2.1 dL_law_1442 hl (by decide) rfl (fun ls hl => ?_)
  refine r_endI S Z q2 q3 hc hs hl dL_law_1444 dL_law_1445 dL_law_1448 dL_law_1450 dL_law_1455 dL_law_1457 dL_law_1460 dL_law_1461 dL_law_1462 dL_law_1463 dL_law_1465 dL_law_1466 dL_law_1467 dL_law_1472 (by decide) ?_
  exact K _ _ _ _ _ _ q4 Z (lv_sub hl [2, 3, 4, 5, 6] rfl)
set_option maxHeartbeats 4000000 in
set_option maxRecDepth 100000 in
theorem lc_19 (S : CallFix p m c cL_law 7 s args wsL_law RL) (hst : l.stackTraces = false) (Z : wZ G σ μ o s H locs) (hR : RH G σ μ) (hX : va_X b L xs s s.heap) (hbl : b < s.heap.size) (hbA : ¬ gP G b) (hL : L ≤ 3584) {i : Nat} (hi : i + 7 ≤ L) (hc : cells + 4 ≤ 601024) (hs : slots + 34 ≤ 7293034) (hl : lv_has ls 7 [(0, .ref b), (1, .ref (gA G 0)), (2, .ref (gA G 39)), (3, .ref (gA G 53)), (4, .int (nI i))]) (K : ∀ (σ' : cS) (μ' : mS) (o' : Nat → Int64) (H' : Heap) (locs' : List Loc) (ls' : Array Slot), RH G σ' μ' → wZ G σ' μ' o' s H' locs' → lv_has ls' 7 [(0, .ref b), (1, .ref (gA G 0)), (2, .ref (gA G 39)), (3, .ref (gA G 53)), (4, .int (nI i))] → W p l e room_1 s m args below meth c H' locs' (cells + 4) (slots + 34) Q (F0 m 1958 ls' [])) : W p l e room_1 s m args below meth c H locs cells slots Q (F0 m 1475 ls []) := by
  refine lv_aload_n S.1 S.2.1 dL_law_1475 rfl (lv_at hl 1 rfl) ?_
  refine r_arg S Z hX hbl hbA hL hl (k0 := 0) (k4 := 4) (k := 1) rfl rfl (by omega) dL_law_1476 dL_law_1477 (by decide) dL_law_1479 dL_law_1480 dL_law_1481 ?_
  refine r_arg S Z hX hbl hbA hL hl (k0 := 0) (k4 := 4) (k := 2) rfl rfl (by omega) dL_law_1482 dL_law_1483 (by decide) dL_law_1485 dL_law_1486 dL_law_1487 ?_
  refine lv_aload_n S.1 S.2.1 dL_law_1488 rfl (lv_at hl 3 rfl) ?_
  refine va_calli (vx_runSW (As := [.ref (gA G 0), .int (xs (i + 1)), .int (xs (i + 2)), .ref (gA G 53)]) (rest := []) S (w_tombstones l hst G σ μ o (xs (i + 1)) (xs (i + 2)) hR) (vx_cwSW 4 S.2.2.2.2 gL_law_L_tombstones rfl rfl rfl hy_L_tombstones ⟨Nat.le_of_ble_eq_true rfl, Nat.le_of_ble_eq_true rfl⟩) (wPc_S Z) rfl rfl hl.1 rfl (lv_room (Nat.le_of_ble_eq_true rfl)) dL_law_1489 ⟨hc, hs⟩) Z.2.2.2.2 (fun _ _ h => h) (fun _ h => h) (fun r9 u9 T9 H1 locs1 hT9 hvm hw hB hz hk9 hS => ?_)
  obtain ⟨σ1, μ1, o1⟩ := u9
  obtain ⟨q1, q2, q3, q4⟩ := hw
  have q1 : μ = μ1 := Eq.symm q1
  subst q1
  have Z : wZ G σ1 μ o1 s H1 locs1 := ⟨Z.1, Z.2.1, by rw [← hT9]; exact hB.2.2.1, hB.2.2.2, hS⟩
  have q2 : r9 = mV (toMS μ (xs (i + 1)) (xs (i + 2))) 18 := q2
  have q3 : mV (toMS μ (xs (i + 1)) (xs (i + 2))) 18 = nI 0 → o1 0 = (toMR μ (xs (i + 1)) (xs (i + 2))).toInt64 := q3
  have q4 : RH G σ1 (toMS μ (xs (i + 1)) (xs (i + 2))) := q4
  have hm : mOK μ := hR.1.2.2.2.2.2.1
  clear hB hT9 hS hk9 hz hvm T9
  refine lv_istore (lv' := [(5, .int r9), (0, .ref b), (1, .ref (gA G 0)), (2, .ref (gA G 39)), (3, .ref (gA G 53)), (4, .int (nI i))]) S.1 S.2.1 dL_law_1492 hl (by decide) rfl (fun ls hl => ?_)
  refine lv_aload_n S.1 S.2.1 dL_law_1494 rfl (lv_at hl 3 rfl) ?_
  refine r_arg S Z hX hbl hbA hL hl (k0 := 1) (k4 := 5) (k := 1) rfl rfl (by omega) dL_law_1495 dL_law_1496 (by decide) dL_law_1498 dL_law_1499 dL_law_1500 ?_
  refine r_arg S Z hX hbl hbA hL hl (k0 := 1) (k4 := 5) (k := 2) rfl rfl (by omega) dL_law_1501 dL_law_1502 (by decide) dL_law_1504 dL_law_1505 dL_law_1506 ?_
  refine mr_tombstones S Z hm hl.1 hc hs gL_law_X8_tombstones dL_law_1507 (fun H1 locs1 Z => ?_)
  refine lv_istore (lv' := [(6, .int (toMR μ (xs (i + 1)) (xs (i + 2)))), (5, .int r9), (0, .ref b), (1, .ref (gA G 0)), (2, .ref (gA G 39)), (3, .ref (gA G 53)), (4, .int (nI i))]) S.1 S.2.1 dL_law_1510 hl (by decide) rfl (fun ls hl => ?_)
  refine r_endI S Z q2 q3 hc hs hl dL_law_1512 dL_law_1513 dL_law_1516 dL_law_1518 dL_law_1523 dL_law_1525 dL_law_1528 dL_law_1529 dL_law_1530 dL_law_1531 dL_law_1533 dL_law_1534 dL_law_1535 dL_law_1540 (by decide) ?_
  exact K _ _ _ _ _ _ q4 Z (lv_sub hl [2, 3, 4, 5, 6] rfl)
set_option maxHeartbeats 4000000 in
set_option maxRecDepth 100000 in
theorem lc_20 (S : CallFix p m c cL_law 7 s args wsL_law RL) (hst : l.stackTraces = false) (Z : wZ G σ μ o s H locs) (hR : RH G σ μ) (hX : va_X b L xs s s.heap) (hbl : b < s.heap.size) (hbA : ¬ gP G b) (hL : L ≤ 3584) {i : Nat} (hi : i + 7 ≤ L) (hc : cells + 4 ≤ 601024) (hs : slots + 34 ≤ 7293034) (hl : lv_has ls 7 [(0, .ref b), (1, .ref (gA G 0)), (2, .ref (gA G 39)), (3, .ref (gA G 53)), (4, .int (nI i))]) (K : ∀ (σ' : cS) (μ' : mS) (o' : Nat → Int64) (H' : Heap) (locs' : List Loc) (ls' : Array Slot), RH G σ' μ' → wZ G σ' μ' o' s H' locs' → lv_has ls' 7 [(0, .ref b), (1, .ref (gA G 0)), (2, .ref (gA G 39)), (3, .ref (gA G 53)), (4, .int (nI i))] → W p l e room_1 s m args below meth c H' locs' (cells + 4) (slots + 34) Q (F0 m 1958 ls' [])) : W p l e room_1 s m args below meth c H locs cells slots Q (F0 m 1543 ls []) := by
  refine lv_aload_n S.1 S.2.1 dL_law_1543 rfl (lv_at hl 1 rfl) ?_
  refine r_arg S Z hX hbl hbA hL hl (k0 := 0) (k4 := 4) (k := 1) rfl rfl (by omega) dL_law_1544 dL_law_1545 (by decide) dL_law_1547 dL_law_1548 dL_law_1549 ?_
  refine lv_aload_n S.1 S.2.1 dL_law_1550 rfl (lv_at hl 3 rfl) ?_
  refine va_calli (vx_runSW (As := [.ref (gA G 0), .int (xs (i + 1)), .ref (gA G 53)]) (rest := []) S (w_entries l hst G σ μ o (xs (i + 1)) hR) (vx_cwSW 3 S.2.2.2.2 gL_law_L_entries rfl rfl rfl hy_L_entries ⟨Nat.le_of_ble_eq_true rfl, Nat.le_of_ble_eq_true rfl⟩) (wPc_S Z) rfl rfl hl.1 rfl (lv_room (Nat.le_of_ble_eq_true rfl)) dL_law_1551 ⟨hc, hs⟩) Z.2.2.2.2 (fun _ _ h => h) (fun _ h => h) (fun r9 u9 T9 H1 locs1 hT9 hvm hw hB hz hk9 hS => ?_)
  obtain ⟨σ1, μ1, o1⟩ := u9
  obtain ⟨q1, q2, q3, q4⟩ := hw
  have q1 : μ = μ1 := Eq.symm q1
  subst q1
  have Z : wZ G σ1 μ o1 s H1 locs1 := ⟨Z.1, Z.2.1, by rw [← hT9]; exact hB.2.2.1, hB.2.2.2, hS⟩
  have q2 : r9 = mV (q1MS μ (xs (i + 1))) 18 := q2
  have q3 : mV (q1MS μ (xs (i + 1))) 18 = nI 0 → o1 0 = (enMR μ (xs (i + 1))).toInt64 := q3
  have q4 : RH G σ1 (q1MS μ (xs (i + 1))) := q4
  have hm : mOK μ := hR.1.2.2.2.2.2.1
  clear hB hT9 hS hk9 hz hvm T9
  refine lv_istore (lv' := [(5, .int r9), (0, .ref b), (1, .ref (gA G 0)), (2, .ref (gA G 39)), (3, .ref (gA G 53)), (4, .int (nI i))]) S.1 S.2.1 dL_law_1554 hl (by decide) rfl (fun ls hl => ?_)
  refine lv_aload_n S.1 S.2.1 dL_law_1556 rfl (lv_at hl 3 rfl) ?_
  refine r_arg S Z hX hbl hbA hL hl (k0 := 1) (k4 := 5) (k := 1) rfl rfl (by omega) dL_law_1557 dL_law_1558 (by decide) dL_law_1560 dL_law_1561 dL_law_1562 ?_
  refine mr_entries S Z hm hl.1 hc hs gL_law_X8_entries dL_law_1563 (fun H1 locs1 Z => ?_)
  refine lv_istore (lv' := [(6, .int (enMR μ (xs (i + 1)))), (5, .int r9), (0, .ref b), (1, .ref (gA G 0)), (2, .ref (gA G 39)), (3, .ref (gA G 53)), (4, .int (nI i))]) S.1 S.2.1 dL_law_1566 hl (by decide) rfl (fun ls hl => ?_)
  refine r_endI S Z q2 q3 hc hs hl dL_law_1568 dL_law_1569 dL_law_1572 dL_law_1574 dL_law_1579 dL_law_1581 dL_law_1584 dL_law_1585 dL_law_1586 dL_law_1587 dL_law_1589 dL_law_1590 dL_law_1591 dL_law_1596 (by decide) ?_
  exact K _ _ _ _ _ _ q4 Z (lv_sub hl [2, 3, 4, 5, 6] rfl)
set_option maxHeartbeats 4000000 in
set_option maxRecDepth 100000 in
theorem lc_21 (S : CallFix p m c cL_law 7 s args wsL_law RL) (hst : l.stackTraces = false) (Z : wZ G σ μ o s H locs) (hR : RH G σ μ) (hX : va_X b L xs s s.heap) (hbl : b < s.heap.size) (hbA : ¬ gP G b) (hL : L ≤ 3584) {i : Nat} (hi : i + 7 ≤ L) (hc : cells + 4 ≤ 601024) (hs : slots + 34 ≤ 7293034) (hl : lv_has ls 7 [(0, .ref b), (1, .ref (gA G 0)), (2, .ref (gA G 39)), (3, .ref (gA G 53)), (4, .int (nI i))]) (K : ∀ (σ' : cS) (μ' : mS) (o' : Nat → Int64) (H' : Heap) (locs' : List Loc) (ls' : Array Slot), RH G σ' μ' → wZ G σ' μ' o' s H' locs' → lv_has ls' 7 [(0, .ref b), (1, .ref (gA G 0)), (2, .ref (gA G 39)), (3, .ref (gA G 53)), (4, .int (nI i))] → W p l e room_1 s m args below meth c H' locs' (cells + 4) (slots + 34) Q (F0 m 1958 ls' [])) : W p l e room_1 s m args below meth c H locs cells slots Q (F0 m 1599 ls []) := by
  refine lv_aload_n S.1 S.2.1 dL_law_1599 rfl (lv_at hl 1 rfl) ?_
  refine r_arg S Z hX hbl hbA hL hl (k0 := 0) (k4 := 4) (k := 1) rfl rfl (by omega) dL_law_1600 dL_law_1601 (by decide) dL_law_1603 dL_law_1604 dL_law_1605 ?_
  refine r_arg S Z hX hbl hbA hL hl (k0 := 0) (k4 := 4) (k := 2) rfl rfl (by omega) dL_law_1606 dL_law_1607 (by decide) dL_law_1609 dL_law_1610 dL_law_1611 ?_
  refine lv_aload_n S.1 S.2.1 dL_law_1612 rfl (lv_at hl 3 rfl) ?_
  refine va_calli (vx_runSW (As := [.ref (gA G 0), .int (xs (i + 1)), .int (xs (i + 2)), .ref (gA G 53)]) (rest := []) S (w_ideal l hst G σ μ o (xs (i + 1)) (xs (i + 2)) hR) (vx_cwSW 4 S.2.2.2.2 gL_law_L_ideal rfl rfl rfl hy_L_ideal ⟨Nat.le_of_ble_eq_true rfl, Nat.le_of_ble_eq_true rfl⟩) (wPc_S Z) rfl rfl hl.1 rfl (lv_room (Nat.le_of_ble_eq_true rfl)) dL_law_1613 ⟨hc, hs⟩) Z.2.2.2.2 (fun _ _ h => h) (fun _ h => h) (fun r9 u9 T9 H1 locs1 hT9 hvm hw hB hz hk9 hS => ?_)
  obtain ⟨σ1, μ1, o1⟩ := u9
  obtain ⟨q1, q2, q3, q4⟩ := hw
  have q1 : μ = μ1 := Eq.symm q1
  subst q1
  have Z : wZ G σ1 μ o1 s H1 locs1 := ⟨Z.1, Z.2.1, by rw [← hT9]; exact hB.2.2.1, hB.2.2.2, hS⟩
  have q2 : r9 = mV (idMS μ (xs (i + 1)) (xs (i + 2))) 18 := q2
  have q3 : mV (idMS μ (xs (i + 1)) (xs (i + 2))) 18 = nI 0 → o1 0 = (idMR μ (xs (i + 1)) (xs (i + 2))).toInt64 := q3
  have q4 : RH G σ1 (idMS μ (xs (i + 1)) (xs (i + 2))) := q4
  have hm : mOK μ := hR.1.2.2.2.2.2.1
  clear hB hT9 hS hk9 hz hvm T9
  refine lv_istore (lv' := [(5, .int r9), (0, .ref b), (1, .ref (gA G 0)), (2, .ref (gA G 39)), (3, .ref (gA G 53)), (4, .int (nI i))]) S.1 S.2.1 dL_law_1616 hl (by decide) rfl (fun ls hl => ?_)
  refine lv_aload_n S.1 S.2.1 dL_law_1618 rfl (lv_at hl 3 rfl) ?_
  refine r_arg S Z hX hbl hbA hL hl (k0 := 1) (k4 := 5) (k := 1) rfl rfl (by omega) dL_law_1619 dL_law_1620 (by decide) dL_law_1622 dL_law_1623 dL_law_1624 ?_
  refine r_arg S Z hX hbl hbA hL hl (k0 := 1) (k4 := 5) (k := 2) rfl rfl (by omega) dL_law_1625 dL_law_1626 (by decide) dL_law_1628 dL_law_1629 dL_law_1630 ?_
  refine mr_ideal S Z hm hl.1 hc hs gL_law_X8_ideal dL_law_1631 (fun H1 locs1 Z => ?_)
  refine lv_istore (lv' := [(6, .int (idMR μ (xs (i + 1)) (xs (i + 2)))), (5, .int r9), (0, .ref b), (1, .ref (gA G 0)), (2, .ref (gA G 39)), (3, .ref (gA G 53)), (4, .int (nI i))]) S.1 S.2.1 dL_law_1634 hl (by decide) rfl (fun ls hl => ?_)
  refine r_endI S Z q2 q3 hc hs hl dL_law_1636 dL_law_1637 dL_law_1640 dL_law_1642 dL_law_1647 dL_law_1649 dL_law_1652 dL_law_1653 dL_law_1654 dL_law_1655 dL_law_1657 dL_law_1658 dL_law_1659 dL_law_1664 (by decide) ?_
  exact K _ _ _ _ _ _ q4 Z (lv_sub hl [2, 3, 4, 5, 6] rfl)
set_option maxHeartbeats 4000000 in
set_option maxRecDepth 100000 in
theorem lc_22 (S : CallFix p m c cL_law 7 s args wsL_law RL) (hst : l.stackTraces = false) (Z : wZ G σ μ o s H locs) (hR : RH G σ μ) (hX : va_X b L xs s s.heap) (hbl : b < s.heap.size) (hbA : ¬ gP G b) (hL : L ≤ 3584) {i : Nat} (hi : i + 7 ≤ L) (hc : cells + 4 ≤ 601024) (hs : slots + 34 ≤ 7293034) (hl : lv_has ls 7 [(0, .ref b), (1, .ref (gA G 0)), (2, .ref (gA G 39)), (3, .ref (gA G 53)), (4, .int (nI i))]) (K : ∀ (σ' : cS) (μ' : mS) (o' : Nat → Int64) (H' : Heap) (locs' : List Loc) (ls' : Array Slot), RH G σ' μ' → wZ G σ' μ' o' s H' locs' → lv_has ls' 7 [(0, .ref b), (1, .ref (gA G 0)), (2, .ref (gA G 39)), (3, .ref (gA G 53)), (4, .int (nI i))] → W p l e room_1 s m args below meth c H' locs' (cells + 4) (slots + 34) Q (F0 m 1958 ls' [])) : W p l e room_1 s m args below meth c H locs cells slots Q (F0 m 1667 ls []) := by
  refine lv_aload_n S.1 S.2.1 dL_law_1667 rfl (lv_at hl 1 rfl) ?_
  refine r_arg S Z hX hbl hbA hL hl (k0 := 0) (k4 := 4) (k := 1) rfl rfl (by omega) dL_law_1668 dL_law_1669 (by decide) dL_law_1671 dL_law_1672 dL_law_1673 ?_
  refine r_arg S Z hX hbl hbA hL hl (k0 := 0) (k4 := 4) (k := 2) rfl rfl (by omega) dL_law_1674 dL_law_1675 (by decide) dL_law_1677 dL_law_1678 dL_law_1679 ?_
  refine r_arg S Z hX hbl hbA hL hl (k0 := 0) (k4 := 4) (k := 3) rfl rfl (by omega) dL_law_1680 dL_law_1681 (by decide) dL_law_1683 dL_law_1684 dL_law_1685 ?_
  refine lv_aload_n S.1 S.2.1 dL_law_1686 rfl (lv_at hl 3 rfl) ?_
  refine va_calli (vx_runSW (As := [.ref (gA G 0), .int (xs (i + 1)), .int (xs (i + 2)), .int (xs (i + 3)), .ref (gA G 53)]) (rest := []) S (w_sumOf l hst G σ μ o (xs (i + 1)) (xs (i + 2)) (xs (i + 3)) hR) (vx_cwSW 5 S.2.2.2.2 gL_law_L_sumOf rfl rfl rfl hy_L_sumOf ⟨Nat.le_of_ble_eq_true rfl, Nat.le_of_ble_eq_true rfl⟩) (wPc_S Z) rfl rfl hl.1 rfl (lv_room (Nat.le_of_ble_eq_true rfl)) dL_law_1687 ⟨hc, hs⟩) Z.2.2.2.2 (fun _ _ h => h) (fun _ h => h) (fun r9 u9 T9 H1 locs1 hT9 hvm hw hB hz hk9 hS => ?_)
  obtain ⟨σ1, μ1, o1⟩ := u9
  obtain ⟨q1, q2, q3, q4⟩ := hw
  have q1 : μ = μ1 := Eq.symm q1
  subst q1
  have Z : wZ G σ1 μ o1 s H1 locs1 := ⟨Z.1, Z.2.1, by rw [← hT9]; exact hB.2.2.1, hB.2.2.2, hS⟩
  have q2 : r9 = mV (smMS μ (xs (i + 1)) (xs (i + 2)) (xs (i + 3))) 18 := q2
  have q3 : mV (smMS μ (xs (i + 1)) (xs (i + 2)) (xs (i + 3))) 18 = nI 0 → o1 0 = (smMR μ (xs (i + 1)) (xs (i + 2)) (xs (i + 3))).toInt64 := q3
  have q4 : RH G σ1 (smMS μ (xs (i + 1)) (xs (i + 2)) (xs (i + 3))) := q4
  have hm : mOK μ := hR.1.2.2.2.2.2.1
  clear hB hT9 hS hk9 hz hvm T9
  refine lv_istore (lv' := [(5, .int r9), (0, .ref b), (1, .ref (gA G 0)), (2, .ref (gA G 39)), (3, .ref (gA G 53)), (4, .int (nI i))]) S.1 S.2.1 dL_law_1690 hl (by decide) rfl (fun ls hl => ?_)
  refine lv_aload_n S.1 S.2.1 dL_law_1692 rfl (lv_at hl 3 rfl) ?_
  refine r_arg S Z hX hbl hbA hL hl (k0 := 1) (k4 := 5) (k := 1) rfl rfl (by omega) dL_law_1693 dL_law_1694 (by decide) dL_law_1696 dL_law_1697 dL_law_1698 ?_
  refine r_arg S Z hX hbl hbA hL hl (k0 := 1) (k4 := 5) (k := 2) rfl rfl (by omega) dL_law_1699 dL_law_1700 (by decide) dL_law_1702 dL_law_1703 dL_law_1704 ?_
  refine r_arg S Z hX hbl hbA hL hl (k0 := 1) (k4 := 5) (k := 3) rfl rfl (by omega) dL_law_1705 dL_law_1706 (by decide) dL_law_1708 dL_law_1709 dL_law_1710 ?_
  refine mr_sumOf S Z hm hl.1 hc hs gL_law_X8_sumOf dL_law_1711 (fun H1 locs1 Z => ?_)
  refine lv_istore (lv' := [(6, .int (smMR μ (xs (i + 1)) (xs (i + 2)) (xs (i + 3)))), (5, .int r9), (0, .ref b), (1, .ref (gA G 0)), (2, .ref (gA G 39)), (3, .ref (gA G 53)), (4, .int (nI i))]) S.1 S.2.1 dL_law_1714 hl (by decide) rfl (fun ls hl => ?_)
  refine r_endI S Z q2 q3 hc hs hl dL_law_1716 dL_law_1717 dL_law_1720 dL_law_1722 dL_law_1727 dL_law_1729 dL_law_1732 dL_law_1733 dL_law_1734 dL_law_1735 dL_law_1737 dL_law_1738 dL_law_1739 dL_law_1744 (by decide) ?_
  exact K _ _ _ _ _ _ q4 Z (lv_sub hl [2, 3, 4, 5, 6] rfl)
set_option maxHeartbeats 4000000 in
set_option maxRecDepth 100000 in
theorem lc_23 (S : CallFix p m c cL_law 7 s args wsL_law RL) (hst : l.stackTraces = false) (Z : wZ G σ μ o s H locs) (hR : RH G σ μ) (hX : va_X b L xs s s.heap) (hbl : b < s.heap.size) (hbA : ¬ gP G b) (hL : L ≤ 3584) {i : Nat} (hi : i + 7 ≤ L) (hc : cells + 4 ≤ 601024) (hs : slots + 34 ≤ 7293034) (hl : lv_has ls 7 [(0, .ref b), (1, .ref (gA G 0)), (2, .ref (gA G 39)), (3, .ref (gA G 53)), (4, .int (nI i))]) (K : ∀ (σ' : cS) (μ' : mS) (o' : Nat → Int64) (H' : Heap) (locs' : List Loc) (ls' : Array Slot), RH G σ' μ' → wZ G σ' μ' o' s H' locs' → lv_has ls' 7 [(0, .ref b), (1, .ref (gA G 0)), (2, .ref (gA G 39)), (3, .ref (gA G 53)), (4, .int (nI i))] → W p l e room_1 s m args below meth c H' locs' (cells + 4) (slots + 34) Q (F0 m 1958 ls' [])) : W p l e room_1 s m args below meth c H locs cells slots Q (F0 m 1747 ls []) := by
  refine lv_aload_n S.1 S.2.1 dL_law_1747 rfl (lv_at hl 1 rfl) ?_
  refine r_arg S Z hX hbl hbA hL hl (k0 := 0) (k4 := 4) (k := 1) rfl rfl (by omega) dL_law_1748 dL_law_1749 (by decide) dL_law_1751 dL_law_1752 dL_law_1753 ?_
  refine r_arg S Z hX hbl hbA hL hl (k0 := 0) (k4 := 4) (k := 2) rfl rfl (by omega) dL_law_1754 dL_law_1755 (by decide) dL_law_1757 dL_law_1758 dL_law_1759 ?_
  refine lv_aload_n S.1 S.2.1 dL_law_1760 rfl (lv_at hl 3 rfl) ?_
  refine va_calli (vx_runSW (As := [.ref (gA G 0), .int (xs (i + 1)), .int (xs (i + 2)), .ref (gA G 53)]) (rest := []) S (w_compared l hst G σ μ o (xs (i + 1)) (xs (i + 2)) hR) (vx_cwSW 4 S.2.2.2.2 gL_law_L_compared rfl rfl rfl hy_L_compared ⟨Nat.le_of_ble_eq_true rfl, Nat.le_of_ble_eq_true rfl⟩) (wPc_S Z) rfl rfl hl.1 rfl (lv_room (Nat.le_of_ble_eq_true rfl)) dL_law_1761 ⟨hc, hs⟩) Z.2.2.2.2 (fun _ _ h => h) (fun _ h => h) (fun r9 u9 T9 H1 locs1 hT9 hvm hw hB hz hk9 hS => ?_)
  obtain ⟨σ1, μ1, o1⟩ := u9
  obtain ⟨q1, q2, q3, q4⟩ := hw
  have q1 : μ = μ1 := Eq.symm q1
  subst q1
  have Z : wZ G σ1 μ o1 s H1 locs1 := ⟨Z.1, Z.2.1, by rw [← hT9]; exact hB.2.2.1, hB.2.2.2, hS⟩
  have q2 : r9 = mV (cmMS μ (xs (i + 1)) (xs (i + 2))) 18 := q2
  have q3 : mV (cmMS μ (xs (i + 1)) (xs (i + 2))) 18 = nI 0 → o1 0 = (cmMR μ (xs (i + 1)) (xs (i + 2))).toInt64 := q3
  have q4 : RH G σ1 (cmMS μ (xs (i + 1)) (xs (i + 2))) := q4
  have hm : mOK μ := hR.1.2.2.2.2.2.1
  clear hB hT9 hS hk9 hz hvm T9
  refine lv_istore (lv' := [(5, .int r9), (0, .ref b), (1, .ref (gA G 0)), (2, .ref (gA G 39)), (3, .ref (gA G 53)), (4, .int (nI i))]) S.1 S.2.1 dL_law_1764 hl (by decide) rfl (fun ls hl => ?_)
  refine lv_aload_n S.1 S.2.1 dL_law_1766 rfl (lv_at hl 3 rfl) ?_
  refine r_arg S Z hX hbl hbA hL hl (k0 := 1) (k4 := 5) (k := 1) rfl rfl (by omega) dL_law_1767 dL_law_1768 (by decide) dL_law_1770 dL_law_1771 dL_law_1772 ?_
  refine r_arg S Z hX hbl hbA hL hl (k0 := 1) (k4 := 5) (k := 2) rfl rfl (by omega) dL_law_1773 dL_law_1774 (by decide) dL_law_1776 dL_law_1777 dL_law_1778 ?_
  refine mr_compared S Z hm hl.1 hc hs gL_law_X8_compared dL_law_1779 (fun H1 locs1 Z => ?_)
  refine lv_istore (lv' := [(6, .int (cmMR μ (xs (i + 1)) (xs (i + 2)))), (5, .int r9), (0, .ref b), (1, .ref (gA G 0)), (2, .ref (gA G 39)), (3, .ref (gA G 53)), (4, .int (nI i))]) S.1 S.2.1 dL_law_1782 hl (by decide) rfl (fun ls hl => ?_)
  refine r_endI S Z q2 q3 hc hs hl dL_law_1784 dL_law_1785 dL_law_1788 dL_law_1790 dL_law_1795 dL_law_1797 dL_law_1800 dL_law_1801 dL_law_1802 dL_law_1803 dL_law_1805 dL_law_1806 dL_law_1807 dL_law_1812 (by decide) ?_
  exact K _ _ _ _ _ _ q4 Z (lv_sub hl [2, 3, 4, 5, 6] rfl)
set_option maxHeartbeats 4000000 in
set_option maxRecDepth 100000 in
theorem lc_24 (S : CallFix p m c cL_law 7 s args wsL_law RL) (hst : l.stackTraces = false) (Z : wZ G σ μ o s H locs) (hR : RH G σ μ) (hX : va_X b L xs s s.heap) (hbl : b < s.heap.size) (hbA : ¬ gP G b) (hL : L ≤ 3584) {i : Nat} (hi : i + 7 ≤ L) (hc : cells + 4 ≤ 601024) (hs : slots + 34 ≤ 7293034) (hl : lv_has ls 7 [(0, .ref b), (1, .ref (gA G 0)), (2, .ref (gA G 39)), (3, .ref (gA G 53)), (4, .int (nI i))]) (K : ∀ (σ' : cS) (μ' : mS) (o' : Nat → Int64) (H' : Heap) (locs' : List Loc) (ls' : Array Slot), RH G σ' μ' → wZ G σ' μ' o' s H' locs' → lv_has ls' 7 [(0, .ref b), (1, .ref (gA G 0)), (2, .ref (gA G 39)), (3, .ref (gA G 53)), (4, .int (nI i))] → W p l e room_1 s m args below meth c H' locs' (cells + 4) (slots + 34) Q (F0 m 1958 ls' [])) : W p l e room_1 s m args below meth c H locs cells slots Q (F0 m 1815 ls []) := by
  refine lv_aload_n S.1 S.2.1 dL_law_1815 rfl (lv_at hl 1 rfl) ?_
  refine r_arg S Z hX hbl hbA hL hl (k0 := 0) (k4 := 4) (k := 1) rfl rfl (by omega) dL_law_1816 dL_law_1817 (by decide) dL_law_1819 dL_law_1820 dL_law_1821 ?_
  refine r_arg S Z hX hbl hbA hL hl (k0 := 0) (k4 := 4) (k := 2) rfl rfl (by omega) dL_law_1822 dL_law_1823 (by decide) dL_law_1825 dL_law_1826 dL_law_1827 ?_
  refine lv_aload_n S.1 S.2.1 dL_law_1828 rfl (lv_at hl 3 rfl) ?_
  refine va_calli (vx_runSW (As := [.ref (gA G 0), .int (xs (i + 1)), .int (xs (i + 2)), .ref (gA G 53)]) (rest := []) S (w_unlike l hst G σ μ o (xs (i + 1)) (xs (i + 2)) hR) (vx_cwSW 4 S.2.2.2.2 gL_law_L_unlike rfl rfl rfl hy_L_unlike ⟨Nat.le_of_ble_eq_true rfl, Nat.le_of_ble_eq_true rfl⟩) (wPc_S Z) rfl rfl hl.1 rfl (lv_room (Nat.le_of_ble_eq_true rfl)) dL_law_1829 ⟨hc, hs⟩) Z.2.2.2.2 (fun _ _ h => h) (fun _ h => h) (fun r9 u9 T9 H1 locs1 hT9 hvm hw hB hz hk9 hS => ?_)
  obtain ⟨σ1, μ1, o1⟩ := u9
  obtain ⟨q1, q2, q3, q4⟩ := hw
  have q1 : μ = μ1 := Eq.symm q1
  subst q1
  have Z : wZ G σ1 μ o1 s H1 locs1 := ⟨Z.1, Z.2.1, by rw [← hT9]; exact hB.2.2.1, hB.2.2.2, hS⟩
  have q2 : r9 = mV (cmMS μ (xs (i + 1)) (xs (i + 2))) 18 := q2
  have q3 : mV (cmMS μ (xs (i + 1)) (xs (i + 2))) 18 = nI 0 → o1 0 = (ulMR μ (xs (i + 1)) (xs (i + 2))).toInt64 := q3
  have q4 : RH G σ1 (cmMS μ (xs (i + 1)) (xs (i + 2))) := q4
  have hm : mOK μ := hR.1.2.2.2.2.2.1
  clear hB hT9 hS hk9 hz hvm T9
  refine lv_istore (lv' := [(5, .int r9), (0, .ref b), (1, .ref (gA G 0)), (2, .ref (gA G 39)), (3, .ref (gA G 53)), (4, .int (nI i))]) S.1 S.2.1 dL_law_1832 hl (by decide) rfl (fun ls hl => ?_)
  refine lv_aload_n S.1 S.2.1 dL_law_1834 rfl (lv_at hl 3 rfl) ?_
  refine r_arg S Z hX hbl hbA hL hl (k0 := 1) (k4 := 5) (k := 1) rfl rfl (by omega) dL_law_1835 dL_law_1836 (by decide) dL_law_1838 dL_law_1839 dL_law_1840 ?_
  refine r_arg S Z hX hbl hbA hL hl (k0 := 1) (k4 := 5) (k := 2) rfl rfl (by omega) dL_law_1841 dL_law_1842 (by decide) dL_law_1844 dL_law_1845 dL_law_1846 ?_
  refine mr_unlike S Z hm hl.1 hc hs gL_law_X8_unlike dL_law_1847 (fun H1 locs1 Z => ?_)
  refine lv_istore (lv' := [(6, .int (ulMR μ (xs (i + 1)) (xs (i + 2)))), (5, .int r9), (0, .ref b), (1, .ref (gA G 0)), (2, .ref (gA G 39)), (3, .ref (gA G 53)), (4, .int (nI i))]) S.1 S.2.1 dL_law_1850 hl (by decide) rfl (fun ls hl => ?_)
  refine r_endI S Z q2 q3 hc hs hl dL_law_1852 dL_law_1853 dL_law_1856 dL_law_1858 dL_law_1863 dL_law_1865 dL_law_1868 dL_law_1869 dL_law_1870 dL_law_1871 dL_law_1873 dL_law_1874 dL_law_1875 dL_law_1880 (by decide) ?_
  exact K _ _ _ _ _ _ q4 Z (lv_sub hl [2, 3, 4, 5, 6] rfl)
set_option maxHeartbeats 4000000 in
set_option maxRecDepth 100000 in
theorem lc_25 (S : CallFix p m c cL_law 7 s args wsL_law RL) (hst : l.stackTraces = false) (Z : wZ G σ μ o s H locs) (hR : RH G σ μ) (hX : va_X b L xs s s.heap) (hbl : b < s.heap.size) (hbA : ¬ gP G b) (hL : L ≤ 3584) {i : Nat} (hi : i + 7 ≤ L) (hc : cells + 4 ≤ 601024) (hs : slots + 34 ≤ 7293034) (hl : lv_has ls 7 [(0, .ref b), (1, .ref (gA G 0)), (2, .ref (gA G 39)), (3, .ref (gA G 53)), (4, .int (nI i))]) (K : ∀ (σ' : cS) (μ' : mS) (o' : Nat → Int64) (H' : Heap) (locs' : List Loc) (ls' : Array Slot), RH G σ' μ' → wZ G σ' μ' o' s H' locs' → lv_has ls' 7 [(0, .ref b), (1, .ref (gA G 0)), (2, .ref (gA G 39)), (3, .ref (gA G 53)), (4, .int (nI i))] → W p l e room_1 s m args below meth c H' locs' (cells + 4) (slots + 34) Q (F0 m 1958 ls' [])) : W p l e room_1 s m args below meth c H locs cells slots Q (F0 m 1883 ls []) := by
  refine lv_aload_n S.1 S.2.1 dL_law_1883 rfl (lv_at hl 1 rfl) ?_
  refine r_arg S Z hX hbl hbA hL hl (k0 := 0) (k4 := 4) (k := 1) rfl rfl (by omega) dL_law_1884 dL_law_1885 (by decide) dL_law_1887 dL_law_1888 dL_law_1889 ?_
  refine r_arg S Z hX hbl hbA hL hl (k0 := 0) (k4 := 4) (k := 2) rfl rfl (by omega) dL_law_1890 dL_law_1891 (by decide) dL_law_1893 dL_law_1894 dL_law_1895 ?_
  refine lv_aload_n S.1 S.2.1 dL_law_1896 rfl (lv_at hl 3 rfl) ?_
  refine va_calli (vx_runSW (As := [.ref (gA G 0), .int (xs (i + 1)), .int (xs (i + 2)), .ref (gA G 53)]) (rest := []) S (w_areAlike l hst G σ μ o (xs (i + 1)) (xs (i + 2)) hR) (vx_cwSW 4 S.2.2.2.2 gL_law_L_areAlike rfl rfl rfl hy_L_areAlike ⟨Nat.le_of_ble_eq_true rfl, Nat.le_of_ble_eq_true rfl⟩) (wPc_S Z) rfl rfl hl.1 rfl (lv_room (Nat.le_of_ble_eq_true rfl)) dL_law_1897 ⟨hc, hs⟩) Z.2.2.2.2 (fun _ _ h => h) (fun _ h => h) (fun r9 u9 T9 H1 locs1 hT9 hvm hw hB hz hk9 hS => ?_)
  obtain ⟨σ1, μ1, o1⟩ := u9
  obtain ⟨q1, q2, q3, q4⟩ := hw
  have q1 : μ = μ1 := Eq.symm q1
  subst q1
  have Z : wZ G σ1 μ o1 s H1 locs1 := ⟨Z.1, Z.2.1, by rw [← hT9]; exact hB.2.2.1, hB.2.2.2, hS⟩
  have q2 : r9 = mV (q2MS μ (xs (i + 1)) (xs (i + 2))) 18 := q2
  have q3 : mV (q2MS μ (xs (i + 1)) (xs (i + 2))) 18 = nI 0 → o1 0 = (alMR μ (xs (i + 1)) (xs (i + 2))).toInt64 := q3
  have q4 : RH G σ1 (q2MS μ (xs (i + 1)) (xs (i + 2))) := q4
  have hm : mOK μ := hR.1.2.2.2.2.2.1
  clear hB hT9 hS hk9 hz hvm T9
  refine lv_istore (lv' := [(5, .int r9), (0, .ref b), (1, .ref (gA G 0)), (2, .ref (gA G 39)), (3, .ref (gA G 53)), (4, .int (nI i))]) S.1 S.2.1 dL_law_1900 hl (by decide) rfl (fun ls hl => ?_)
  refine lv_aload_n S.1 S.2.1 dL_law_1902 rfl (lv_at hl 3 rfl) ?_
  refine r_arg S Z hX hbl hbA hL hl (k0 := 1) (k4 := 5) (k := 1) rfl rfl (by omega) dL_law_1903 dL_law_1904 (by decide) dL_law_1906 dL_law_1907 dL_law_1908 ?_
  refine r_arg S Z hX hbl hbA hL hl (k0 := 1) (k4 := 5) (k := 2) rfl rfl (by omega) dL_law_1909 dL_law_1910 (by decide) dL_law_1912 dL_law_1913 dL_law_1914 ?_
  refine mr_areAlike S Z hm hl.1 hc hs gL_law_X8_areAlike dL_law_1915 (fun H1 locs1 Z => ?_)
  obtain ⟨x9, hx9⟩ := alMR_b μ (xs (i + 1)) (xs (i + 2))
  rw [hx9] at q3 ⊢
  refine lv_istore (lv' := [(6, .int (bi x9)), (5, .int r9), (0, .ref b), (1, .ref (gA G 0)), (2, .ref (gA G 39)), (3, .ref (gA G 53)), (4, .int (nI i))]) S.1 S.2.1 dL_law_1918 hl (by decide) rfl (fun ls hl => ?_)
  refine r_endB S Z q2 q3 hc hs hl dL_law_1920 dL_law_1921 dL_law_1924 dL_law_1926 dL_law_1931 dL_law_1933 dL_law_1936 dL_law_1937 dL_law_1938 dL_law_1939 dL_law_1941 dL_law_1944 dL_law_1945 dL_law_1948 dL_law_1949 dL_law_1950 dL_law_1955 (by decide) ?_
  exact K _ _ _ _ _ _ q4 Z (lv_sub hl [2, 3, 4, 5, 6] rfl)
end LC
