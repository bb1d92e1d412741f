/-! ===== the law's calls, 1 ===== -/
section
variable {p : Program} {l : Launch} {e : Env} {s : State} {m : MethodId} {below : List Frame} {meth : Method} {c : Code} {H : Heap} {locs : List Loc} {Q : State → Prop} {ls : Array Slot} {D : va_G} {G : Nat → ClassId} {b L t : Nat} {xs : Nat → Int32}
set_option maxHeartbeats 4000000 in
set_option maxRecDepth 100000 in
theorem lc_add (S : LH p s m meth c D G b L t xs) {I J : St} (hI : LI D G s I J H locs) {i : Nat} (hl : lv_has ls 4 [(3, .int (nI i)), (2, .ref (aoM (s.heap.size + 236) 0 0)), (1, .ref (adC s.heap.size 0 0)), (0, .ref b)]) (hi : i + 7 ≤ L)
    (kk : ∀ (I J : St) (H : Heap) (locs : List Loc), LI D G s I J H locs → W p l e room_1 s m #[Value.ref b] below meth c H locs 600000 7302250 Q (F0 m 1299 ls [])) : W p l e room_1 s m #[Value.ref b] below meth c H locs 600000 7302250 Q (F0 m 160 ls []) := by
  obtain ⟨hx, hb, hml, hown, hts, hX, hbl, hK, hU, hL⟩ := id S
  obtain ⟨hR, hC, hM, hS⟩ := hI
  refine lv_aload_n hx hb dL_law_160 rfl (lv_at hl 2 rfl) ?_
  refine w_sc S hS hl hi 1 (by decide) (by decide) dL_law_161 dL_law_162 dL_law_163 dL_law_164 dL_law_165 ?_
  refine w_sc S hS hl hi 2 (by decide) (by decide) dL_law_166 dL_law_167 dL_law_168 dL_law_169 dL_law_170 ?_
  refine w_sc S hS hl hi 3 (by decide) (by decide) dL_law_171 dL_law_172 dL_law_173 dL_law_174 dL_law_175 ?_
  refine w_sc S hS hl hi 4 (by decide) (by decide) dL_law_176 dL_law_177 dL_law_178 dL_law_179 dL_law_180 ?_
  refine w_c5i (va_runV (As := [.int (xs (i + 1)), .int (xs (i + 2)), .int (xs (i + 3)), .int (xs (i + 4))]) (rest := []) ⟨hx, hb, hml, hown, hts⟩ (c_X5_add l D G (adC s.heap.size) (wI_of ndC oC _) I (xs (i + 1)) (xs (i + 2)) (xs (i + 3)) (xs (i + 4)) (hR.okM) (hR.okK)) (cwV 4 hts gL_law_X5_add rfl rfl rfl (by decide +kernel) ⟨Nat.le_of_ble_eq_true rfl, Nat.le_of_ble_eq_true rfl⟩) (g_preV hK hC 0 0 (mC (by decide) (by decide)) rfl rfl) rfl rfl hl.1 rfl (lv_room (Nat.le_of_ble_eq_true rfl)) dL_law_181 ⟨Nat.le_refl _, Nat.le_refl _⟩) hM hS (fun x5 u5 H locs h5 hC hM hS => ?_)
  refine lv_aload_n hx hb dL_law_184 rfl (lv_at hl 1 rfl) ?_
  refine w_sc S hS hl hi 1 (by decide) (by decide) dL_law_185 dL_law_186 dL_law_187 dL_law_188 dL_law_189 ?_
  refine w_sc S hS hl hi 2 (by decide) (by decide) dL_law_190 dL_law_191 dL_law_192 dL_law_193 dL_law_194 ?_
  refine w_sc S hS hl hi 3 (by decide) (by decide) dL_law_195 dL_law_196 dL_law_197 dL_law_198 dL_law_199 ?_
  refine w_sc S hS hl hi 4 (by decide) (by decide) dL_law_200 dL_law_201 dL_law_202 dL_law_203 dL_law_204 ?_
  refine w_c6i (va_runV (As := [.int (xs (i + 1)), .int (xs (i + 2)), .int (xs (i + 3)), .int (xs (i + 4))]) (rest := [.int x5]) ⟨hx, hb, hml, hown, hts⟩ (c_X6_add l D G (aoM (s.heap.size + 236)) (wI_of ndM' oM _) J (xs (i + 1)) (xs (i + 2)) (xs (i + 3)) (xs (i + 4)) (hR.okMJ) (hR.okKJ)) (cwV 4 hts gL_law_X6_add rfl rfl rfl (by decide +kernel) ⟨Nat.le_of_ble_eq_true rfl, Nat.le_of_ble_eq_true rfl⟩) (g_preV hK hM 0 0 (mM (by decide) (by decide)) rfl rfl) rfl rfl hl.1 rfl (lv_room (Nat.le_of_ble_eq_true rfl)) dL_law_205 ⟨Nat.le_refl _, Nat.le_refl _⟩) hC hS (fun x6 u6 H locs h6 hM hC hS => ?_)
  obtain ⟨hq, hR⟩ := q_add hR _ _ _ _ h5 h6
  exact lv_icmp_eq (tgt := 1299) hx hb dL_law_208 (by decide) (fun _ => kk _ _ _ _ ⟨hR, hC, hM, hS⟩) (fun h => absurd hq h)
set_option maxHeartbeats 4000000 in
set_option maxRecDepth 100000 in
theorem lc_take (S : LH p s m meth c D G b L t xs) {I J : St} (hI : LI D G s I J H locs) {i : Nat} (hl : lv_has ls 4 [(3, .int (nI i)), (2, .ref (aoM (s.heap.size + 236) 0 0)), (1, .ref (adC s.heap.size 0 0)), (0, .ref b)]) (hi : i + 7 ≤ L)
    (kk : ∀ (I J : St) (H : Heap) (locs : List Loc), LI D G s I J H locs → W p l e room_1 s m #[Value.ref b] below meth c H locs 600000 7302250 Q (F0 m 1299 ls [])) : W p l e room_1 s m #[Value.ref b] below meth c H locs 600000 7302250 Q (F0 m 213 ls []) := by
  obtain ⟨hx, hb, hml, hown, hts, hX, hbl, hK, hU, hL⟩ := id S
  obtain ⟨hR, hC, hM, hS⟩ := hI
  refine lv_aload_n hx hb dL_law_213 rfl (lv_at hl 2 rfl) ?_
  refine w_sc S hS hl hi 1 (by decide) (by decide) dL_law_214 dL_law_215 dL_law_216 dL_law_217 dL_law_218 ?_
  refine w_sc S hS hl hi 2 (by decide) (by decide) dL_law_219 dL_law_220 dL_law_221 dL_law_222 dL_law_223 ?_
  refine w_sc S hS hl hi 3 (by decide) (by decide) dL_law_224 dL_law_225 dL_law_226 dL_law_227 dL_law_228 ?_
  refine w_sc S hS hl hi 4 (by decide) (by decide) dL_law_229 dL_law_230 dL_law_231 dL_law_232 dL_law_233 ?_
  refine w_c5i (va_runV (As := [.int (xs (i + 1)), .int (xs (i + 2)), .int (xs (i + 3)), .int (xs (i + 4))]) (rest := []) ⟨hx, hb, hml, hown, hts⟩ (c_X5_take l D G (adC s.heap.size) (wI_of ndC oC _) I (xs (i + 1)) (xs (i + 2)) (xs (i + 3)) (xs (i + 4)) (hR.okM)) (cwV 4 hts gL_law_X5_take rfl rfl rfl (by decide +kernel) ⟨Nat.le_of_ble_eq_true rfl, Nat.le_of_ble_eq_true rfl⟩) (g_preV hK hC 0 0 (mC (by decide) (by decide)) rfl rfl) rfl rfl hl.1 rfl (lv_room (Nat.le_of_ble_eq_true rfl)) dL_law_234 ⟨Nat.le_refl _, Nat.le_refl _⟩) hM hS (fun x5 u5 H locs h5 hC hM hS => ?_)
  refine lv_aload_n hx hb dL_law_237 rfl (lv_at hl 1 rfl) ?_
  refine w_sc S hS hl hi 1 (by decide) (by decide) dL_law_238 dL_law_239 dL_law_240 dL_law_241 dL_law_242 ?_
  refine w_sc S hS hl hi 2 (by decide) (by decide) dL_law_243 dL_law_244 dL_law_245 dL_law_246 dL_law_247 ?_
  refine w_sc S hS hl hi 3 (by decide) (by decide) dL_law_248 dL_law_249 dL_law_250 dL_law_251 dL_law_252 ?_
  refine w_sc S hS hl hi 4 (by decide) (by decide) dL_law_253 dL_law_254 dL_law_255 dL_law_256 dL_law_257 ?_
  refine w_c6i (va_runV (As := [.int (xs (i + 1)), .int (xs (i + 2)), .int (xs (i + 3)), .int (xs (i + 4))]) (rest := [.int x5]) ⟨hx, hb, hml, hown, hts⟩ (c_X6_take l D G (aoM (s.heap.size + 236)) (wI_of ndM' oM _) J (xs (i + 1)) (xs (i + 2)) (xs (i + 3)) (xs (i + 4)) (hR.okMJ)) (cwV 4 hts gL_law_X6_take rfl rfl rfl (by decide +kernel) ⟨Nat.le_of_ble_eq_true rfl, Nat.le_of_ble_eq_true rfl⟩) (g_preV hK hM 0 0 (mM (by decide) (by decide)) rfl rfl) rfl rfl hl.1 rfl (lv_room (Nat.le_of_ble_eq_true rfl)) dL_law_258 ⟨Nat.le_refl _, Nat.le_refl _⟩) hC hS (fun x6 u6 H locs h6 hM hC hS => ?_)
  obtain ⟨hq, hR⟩ := q_take hR _ _ _ _ h5 h6
  exact lv_icmp_eq (tgt := 1299) hx hb dL_law_261 (by decide) (fun _ => kk _ _ _ _ ⟨hR, hC, hM, hS⟩) (fun h => absurd hq h)
set_option maxHeartbeats 4000000 in
set_option maxRecDepth 100000 in
theorem lc_reset (S : LH p s m meth c D G b L t xs) {I J : St} (hI : LI D G s I J H locs) {i : Nat} (hl : lv_has ls 4 [(3, .int (nI i)), (2, .ref (aoM (s.heap.size + 236) 0 0)), (1, .ref (adC s.heap.size 0 0)), (0, .ref b)]) (hi : i + 7 ≤ L)
    (kk : ∀ (I J : St) (H : Heap) (locs : List Loc), LI D G s I J H locs → W p l e room_1 s m #[Value.ref b] below meth c H locs 600000 7302250 Q (F0 m 1299 ls [])) : W p l e room_1 s m #[Value.ref b] below meth c H locs 600000 7302250 Q (F0 m 266 ls []) := by
  obtain ⟨hx, hb, hml, hown, hts, hX, hbl, hK, hU, hL⟩ := id S
  obtain ⟨hR, hC, hM, hS⟩ := hI
  refine lv_aload_n hx hb dL_law_266 rfl (lv_at hl 2 rfl) ?_
  refine w_sc S hS hl hi 1 (by decide) (by decide) dL_law_267 dL_law_268 dL_law_269 dL_law_270 dL_law_271 ?_
  refine w_sc S hS hl hi 2 (by decide) (by decide) dL_law_272 dL_law_273 dL_law_274 dL_law_275 dL_law_276 ?_
  refine w_c5i (va_runV (As := [.int (xs (i + 1)), .int (xs (i + 2))]) (rest := []) ⟨hx, hb, hml, hown, hts⟩ (c_X5_reset l D G (adC s.heap.size) (wI_of ndC oC _) I (xs (i + 1)) (xs (i + 2)) (hR.okM)) (cwV 2 hts gL_law_X5_reset rfl rfl rfl (by decide +kernel) ⟨Nat.le_of_ble_eq_true rfl, Nat.le_of_ble_eq_true rfl⟩) (g_preV hK hC 0 0 (mC (by decide) (by decide)) rfl rfl) rfl rfl hl.1 rfl (lv_room (Nat.le_of_ble_eq_true rfl)) dL_law_277 ⟨Nat.le_refl _, Nat.le_refl _⟩) hM hS (fun x5 u5 H locs h5 hC hM hS => ?_)
  refine lv_aload_n hx hb dL_law_280 rfl (lv_at hl 1 rfl) ?_
  refine w_sc S hS hl hi 1 (by decide) (by decide) dL_law_281 dL_law_282 dL_law_283 dL_law_284 dL_law_285 ?_
  refine w_sc S hS hl hi 2 (by decide) (by decide) dL_law_286 dL_law_287 dL_law_288 dL_law_289 dL_law_290 ?_
  refine w_c6i (va_runV (As := [.int (xs (i + 1)), .int (xs (i + 2))]) (rest := [.int x5]) ⟨hx, hb, hml, hown, hts⟩ (c_X6_reset l D G (aoM (s.heap.size + 236)) (wI_of ndM' oM _) J (xs (i + 1)) (xs (i + 2)) (hR.okMJ)) (cwV 2 hts gL_law_X6_reset rfl rfl rfl (by decide +kernel) ⟨Nat.le_of_ble_eq_true rfl, Nat.le_of_ble_eq_true rfl⟩) (g_preV hK hM 0 0 (mM (by decide) (by decide)) rfl rfl) rfl rfl hl.1 rfl (lv_room (Nat.le_of_ble_eq_true rfl)) dL_law_291 ⟨Nat.le_refl _, Nat.le_refl _⟩) hC hS (fun x6 u6 H locs h6 hM hC hS => ?_)
  obtain ⟨hq, hR⟩ := q_reset hR _ _ h5 h6
  exact lv_icmp_eq (tgt := 1299) hx hb dL_law_294 (by decide) (fun _ => kk _ _ _ _ ⟨hR, hC, hM, hS⟩) (fun h => absurd hq h)
set_option maxHeartbeats 4000000 in
set_option maxRecDepth 100000 in
theorem lc_kind (S : LH p s m meth c D G b L t xs) {I J : St} (hI : LI D G s I J H locs) {i : Nat} (hl : lv_has ls 4 [(3, .int (nI i)), (2, .ref (aoM (s.heap.size + 236) 0 0)), (1, .ref (adC s.heap.size 0 0)), (0, .ref b)]) (hi : i + 7 ≤ L)
    (kk : ∀ (I J : St) (H : Heap) (locs : List Loc), LI D G s I J H locs → W p l e room_1 s m #[Value.ref b] below meth c H locs 600000 7302250 Q (F0 m 1299 ls [])) : W p l e room_1 s m #[Value.ref b] below meth c H locs 600000 7302250 Q (F0 m 299 ls []) := by
  obtain ⟨hx, hb, hml, hown, hts, hX, hbl, hK, hU, hL⟩ := id S
  obtain ⟨hR, hC, hM, hS⟩ := hI
  refine lv_aload_n hx hb dL_law_299 rfl (lv_at hl 2 rfl) ?_
  refine w_sc S hS hl hi 1 (by decide) (by decide) dL_law_300 dL_law_301 dL_law_302 dL_law_303 dL_law_304 ?_
  refine w_sc S hS hl hi 2 (by decide) (by decide) dL_law_305 dL_law_306 dL_law_307 dL_law_308 dL_law_309 ?_
  refine w_sc S hS hl hi 3 (by decide) (by decide) dL_law_310 dL_law_311 dL_law_312 dL_law_313 dL_law_314 ?_
  refine w_c5i (va_runV (As := [.int (xs (i + 1)), .int (xs (i + 2)), .int (xs (i + 3))]) (rest := []) ⟨hx, hb, hml, hown, hts⟩ (c_X5_kind l D G (adC s.heap.size) (wI_of ndC oC _) I (xs (i + 1)) (xs (i + 2)) (xs (i + 3))) (cwV 3 hts gL_law_X5_kind rfl rfl rfl (by decide +kernel) ⟨Nat.le_of_ble_eq_true rfl, Nat.le_of_ble_eq_true rfl⟩) (g_preV hK hC 0 0 (mC (by decide) (by decide)) rfl rfl) rfl rfl hl.1 rfl (lv_room (Nat.le_of_ble_eq_true rfl)) dL_law_315 ⟨Nat.le_refl _, Nat.le_refl _⟩) hM hS (fun x5 u5 H locs h5 hC hM hS => ?_)
  refine lv_aload_n hx hb dL_law_318 rfl (lv_at hl 1 rfl) ?_
  refine w_sc S hS hl hi 1 (by decide) (by decide) dL_law_319 dL_law_320 dL_law_321 dL_law_322 dL_law_323 ?_
  refine w_sc S hS hl hi 2 (by decide) (by decide) dL_law_324 dL_law_325 dL_law_326 dL_law_327 dL_law_328 ?_
  refine w_sc S hS hl hi 3 (by decide) (by decide) dL_law_329 dL_law_330 dL_law_331 dL_law_332 dL_law_333 ?_
  refine w_c6i (va_runV (As := [.int (xs (i + 1)), .int (xs (i + 2)), .int (xs (i + 3))]) (rest := [.int x5]) ⟨hx, hb, hml, hown, hts⟩ (c_X6_kind l D G (aoM (s.heap.size + 236)) (wI_of ndM' oM _) J (xs (i + 1)) (xs (i + 2)) (xs (i + 3))) (cwV 3 hts gL_law_X6_kind rfl rfl rfl (by decide +kernel) ⟨Nat.le_of_ble_eq_true rfl, Nat.le_of_ble_eq_true rfl⟩) (g_preV hK hM 0 0 (mM (by decide) (by decide)) rfl rfl) rfl rfl hl.1 rfl (lv_room (Nat.le_of_ble_eq_true rfl)) dL_law_334 ⟨Nat.le_refl _, Nat.le_refl _⟩) hC hS (fun x6 u6 H locs h6 hM hC hS => ?_)
  obtain ⟨hq, hR⟩ := q_kind hR _ _ _ h5 h6
  exact lv_icmp_eq (tgt := 1299) hx hb dL_law_337 (by decide) (fun _ => kk _ _ _ _ ⟨hR, hC, hM, hS⟩) (fun h => absurd hq h)
set_option maxHeartbeats 4000000 in
set_option maxRecDepth 100000 in
theorem lc_taken (S : LH p s m meth c D G b L t xs) {I J : St} (hI : LI D G s I J H locs) {i : Nat} (hl : lv_has ls 4 [(3, .int (nI i)), (2, .ref (aoM (s.heap.size + 236) 0 0)), (1, .ref (adC s.heap.size 0 0)), (0, .ref b)]) (hi : i + 7 ≤ L)
    (kk : ∀ (I J : St) (H : Heap) (locs : List Loc), LI D G s I J H locs → W p l e room_1 s m #[Value.ref b] below meth c H locs 600000 7302250 Q (F0 m 1299 ls [])) : W p l e room_1 s m #[Value.ref b] below meth c H locs 600000 7302250 Q (F0 m 342 ls []) := by
  obtain ⟨hx, hb, hml, hown, hts, hX, hbl, hK, hU, hL⟩ := id S
  obtain ⟨hR, hC, hM, hS⟩ := hI
  refine lv_aload_n hx hb dL_law_342 rfl (lv_at hl 2 rfl) ?_
  refine w_sc S hS hl hi 1 (by decide) (by decide) dL_law_343 dL_law_344 dL_law_345 dL_law_346 dL_law_347 ?_
  refine w_sc S hS hl hi 2 (by decide) (by decide) dL_law_348 dL_law_349 dL_law_350 dL_law_351 dL_law_352 ?_
  refine w_sc S hS hl hi 3 (by decide) (by decide) dL_law_353 dL_law_354 dL_law_355 dL_law_356 dL_law_357 ?_
  refine w_c5i (va_runV (As := [.int (xs (i + 1)), .int (xs (i + 2)), .int (xs (i + 3))]) (rest := []) ⟨hx, hb, hml, hown, hts⟩ (c_X5_taken l D G (adC s.heap.size) (wI_of ndC oC _) t I (xs (i + 1)) (xs (i + 2)) (xs (i + 3)) (hR.okK)) (cwV 3 hts gL_law_X5_taken rfl rfl rfl (by decide +kernel) ⟨Nat.le_of_ble_eq_true rfl, Nat.le_of_ble_eq_true rfl⟩) (g2_preV (B := UDA (wA LC (adC s.heap.size)) t) hK hC 0 0 (mC (by decide) (by decide)) rfl rfl (fun U hU2 hW => UDA.nar (UDA.at hU hS hU2 hW) (fun q hq => wC_ge hq)) (fun U g mk a q => q.calling)) rfl rfl hl.1 rfl (lv_room (Nat.le_of_ble_eq_true rfl)) dL_law_358 ⟨Nat.le_refl _, Nat.le_refl _⟩) hM hS (fun x5 u5 H locs h5 hC hM hS => ?_)
  refine lv_aload_n hx hb dL_law_361 rfl (lv_at hl 1 rfl) ?_
  refine w_sc S hS hl hi 1 (by decide) (by decide) dL_law_362 dL_law_363 dL_law_364 dL_law_365 dL_law_366 ?_
  refine w_sc S hS hl hi 2 (by decide) (by decide) dL_law_367 dL_law_368 dL_law_369 dL_law_370 dL_law_371 ?_
  refine w_sc S hS hl hi 3 (by decide) (by decide) dL_law_372 dL_law_373 dL_law_374 dL_law_375 dL_law_376 ?_
  refine w_c6i (va_runV (As := [.int (xs (i + 1)), .int (xs (i + 2)), .int (xs (i + 3))]) (rest := [.int x5]) ⟨hx, hb, hml, hown, hts⟩ (c_X6_taken l D G (aoM (s.heap.size + 236)) (wI_of ndM' oM _) J (xs (i + 1)) (xs (i + 2)) (xs (i + 3)) (hR.okKJ)) (cwV 3 hts gL_law_X6_taken rfl rfl rfl (by decide +kernel) ⟨Nat.le_of_ble_eq_true rfl, Nat.le_of_ble_eq_true rfl⟩) (g_preV hK hM 0 0 (mM (by decide) (by decide)) rfl rfl) rfl rfl hl.1 rfl (lv_room (Nat.le_of_ble_eq_true rfl)) dL_law_377 ⟨Nat.le_refl _, Nat.le_refl _⟩) hC hS (fun x6 u6 H locs h6 hM hC hS => ?_)
  obtain ⟨hq, hR⟩ := q_taken hR _ _ _ h5 h6
  exact lv_icmp_eq (tgt := 1299) hx hb dL_law_380 (by decide) (fun _ => kk _ _ _ _ ⟨hR, hC, hM, hS⟩) (fun h => absurd hq h)
set_option maxHeartbeats 4000000 in
set_option maxRecDepth 100000 in
theorem lc_worth (S : LH p s m meth c D G b L t xs) {I J : St} (hI : LI D G s I J H locs) {i : Nat} (hl : lv_has ls 4 [(3, .int (nI i)), (2, .ref (aoM (s.heap.size + 236) 0 0)), (1, .ref (adC s.heap.size 0 0)), (0, .ref b)]) (hi : i + 7 ≤ L)
    (kk : ∀ (I J : St) (H : Heap) (locs : List Loc), LI D G s I J H locs → W p l e room_1 s m #[Value.ref b] below meth c H locs 600000 7302250 Q (F0 m 1299 ls [])) : W p l e room_1 s m #[Value.ref b] below meth c H locs 600000 7302250 Q (F0 m 385 ls []) := by
  obtain ⟨hx, hb, hml, hown, hts, hX, hbl, hK, hU, hL⟩ := id S
  obtain ⟨hR, hC, hM, hS⟩ := hI
  refine lv_aload_n hx hb dL_law_385 rfl (lv_at hl 2 rfl) ?_
  refine w_sc S hS hl hi 1 (by decide) (by decide) dL_law_386 dL_law_387 dL_law_388 dL_law_389 dL_law_390 ?_
  refine w_sc S hS hl hi 2 (by decide) (by decide) dL_law_391 dL_law_392 dL_law_393 dL_law_394 dL_law_395 ?_
  refine w_sc S hS hl hi 3 (by decide) (by decide) dL_law_396 dL_law_397 dL_law_398 dL_law_399 dL_law_400 ?_
  refine w_c5l (va_runV (As := [.int (xs (i + 1)), .int (xs (i + 2)), .int (xs (i + 3))]) (rest := []) ⟨hx, hb, hml, hown, hts⟩ (c_X5_worth l D G (adC s.heap.size) (wI_of ndC oC _) I (xs (i + 1)) (xs (i + 2)) (xs (i + 3)) (hR.okM) (hR.okK)) (cwV 3 hts gL_law_X5_worth rfl rfl rfl (by decide +kernel) ⟨Nat.le_of_ble_eq_true rfl, Nat.le_of_ble_eq_true rfl⟩) (g_preV hK hC 0 0 (mC (by decide) (by decide)) rfl rfl) rfl rfl hl.1 rfl (lv_room (Nat.le_of_ble_eq_true rfl)) dL_law_401 ⟨Nat.le_refl _, Nat.le_refl _⟩) hM hS (fun x5 u5 H locs h5 hC hM hS => ?_)
  refine lv_aload_n hx hb dL_law_404 rfl (lv_at hl 1 rfl) ?_
  refine w_sc S hS hl hi 1 (by decide) (by decide) dL_law_405 dL_law_406 dL_law_407 dL_law_408 dL_law_409 ?_
  refine w_sc S hS hl hi 2 (by decide) (by decide) dL_law_410 dL_law_411 dL_law_412 dL_law_413 dL_law_414 ?_
  refine w_sc S hS hl hi 3 (by decide) (by decide) dL_law_415 dL_law_416 dL_law_417 dL_law_418 dL_law_419 ?_
  refine w_c6l (va_runV (As := [.int (xs (i + 1)), .int (xs (i + 2)), .int (xs (i + 3))]) (rest := [.long x5]) ⟨hx, hb, hml, hown, hts⟩ (c_X6_worth l D G (aoM (s.heap.size + 236)) (wI_of ndM' oM _) J (xs (i + 1)) (xs (i + 2)) (xs (i + 3)) (hR.okMJ) (hR.okKJ)) (cwV 3 hts gL_law_X6_worth rfl rfl rfl (by decide +kernel) ⟨Nat.le_of_ble_eq_true rfl, Nat.le_of_ble_eq_true rfl⟩) (g_preV hK hM 0 0 (mM (by decide) (by decide)) rfl rfl) rfl rfl hl.1 rfl (lv_room (Nat.le_of_ble_eq_true rfl)) dL_law_420 ⟨Nat.le_refl _, Nat.le_refl _⟩) hC hS (fun x6 u6 H locs h6 hM hC hS => ?_)
  obtain ⟨hq, hR⟩ := q_worth hR _ _ _ h5 h6
  refine W.lcmp hx hb dL_law_423 ?_
  exact lv_if_eq (tgt := 1299) hx hb dL_law_424 (by decide) (fun _ => kk _ _ _ _ ⟨hR, hC, hM, hS⟩) (fun h => absurd (lg_cmp_0.mpr hq) h)
set_option maxHeartbeats 4000000 in
set_option maxRecDepth 100000 in
theorem lc_told (S : LH p s m meth c D G b L t xs) {I J : St} (hI : LI D G s I J H locs) {i : Nat} (hl : lv_has ls 4 [(3, .int (nI i)), (2, .ref (aoM (s.heap.size + 236) 0 0)), (1, .ref (adC s.heap.size 0 0)), (0, .ref b)]) (hi : i + 7 ≤ L)
    (kk : ∀ (I J : St) (H : Heap) (locs : List Loc), LI D G s I J H locs → W p l e room_1 s m #[Value.ref b] below meth c H locs 600000 7302250 Q (F0 m 1299 ls [])) : W p l e room_1 s m #[Value.ref b] below meth c H locs 600000 7302250 Q (F0 m 429 ls []) := by
  obtain ⟨hx, hb, hml, hown, hts, hX, hbl, hK, hU, hL⟩ := id S
  obtain ⟨hR, hC, hM, hS⟩ := hI
  refine lv_aload_n hx hb dL_law_429 rfl (lv_at hl 2 rfl) ?_
  refine w_sc S hS hl hi 1 (by decide) (by decide) dL_law_430 dL_law_431 dL_law_432 dL_law_433 dL_law_434 ?_
  refine w_sc S hS hl hi 2 (by decide) (by decide) dL_law_435 dL_law_436 dL_law_437 dL_law_438 dL_law_439 ?_
  refine w_sc S hS hl hi 3 (by decide) (by decide) dL_law_440 dL_law_441 dL_law_442 dL_law_443 dL_law_444 ?_
  refine w_c5i (va_runV (As := [.int (xs (i + 1)), .int (xs (i + 2)), .int (xs (i + 3))]) (rest := []) ⟨hx, hb, hml, hown, hts⟩ (c_X5_told l D G (adC s.heap.size) (wI_of ndC oC _) I (xs (i + 1)) (xs (i + 2)) (xs (i + 3))) (cwV 3 hts gL_law_X5_told rfl rfl rfl (by decide +kernel) ⟨Nat.le_of_ble_eq_true rfl, Nat.le_of_ble_eq_true rfl⟩) (g_preV hK hC 0 0 (mC (by decide) (by decide)) rfl rfl) rfl rfl hl.1 rfl (lv_room (Nat.le_of_ble_eq_true rfl)) dL_law_445 ⟨Nat.le_refl _, Nat.le_refl _⟩) hM hS (fun x5 u5 H locs h5 hC hM hS => ?_)
  refine lv_aload_n hx hb dL_law_448 rfl (lv_at hl 1 rfl) ?_
  refine w_sc S hS hl hi 1 (by decide) (by decide) dL_law_449 dL_law_450 dL_law_451 dL_law_452 dL_law_453 ?_
  refine w_sc S hS hl hi 2 (by decide) (by decide) dL_law_454 dL_law_455 dL_law_456 dL_law_457 dL_law_458 ?_
  refine w_sc S hS hl hi 3 (by decide) (by decide) dL_law_459 dL_law_460 dL_law_461 dL_law_462 dL_law_463 ?_
  refine w_c6i (va_runV (As := [.int (xs (i + 1)), .int (xs (i + 2)), .int (xs (i + 3))]) (rest := [.int x5]) ⟨hx, hb, hml, hown, hts⟩ (c_X6_told l D G (aoM (s.heap.size + 236)) (wI_of ndM' oM _) J (xs (i + 1)) (xs (i + 2)) (xs (i + 3))) (cwV 3 hts gL_law_X6_told rfl rfl rfl (by decide +kernel) ⟨Nat.le_of_ble_eq_true rfl, Nat.le_of_ble_eq_true rfl⟩) (g_preV hK hM 0 0 (mM (by decide) (by decide)) rfl rfl) rfl rfl hl.1 rfl (lv_room (Nat.le_of_ble_eq_true rfl)) dL_law_464 ⟨Nat.le_refl _, Nat.le_refl _⟩) hC hS (fun x6 u6 H locs h6 hM hC hS => ?_)
  obtain ⟨hq, hR⟩ := q_told hR _ _ _ h5 h6
  exact lv_icmp_eq (tgt := 1299) hx hb dL_law_467 (by decide) (fun _ => kk _ _ _ _ ⟨hR, hC, hM, hS⟩) (fun h => absurd hq h)
end
