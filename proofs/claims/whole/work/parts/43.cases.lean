/-! ===== the law's cases ===== -/
/-- a call of both: they answer alike, and the stores go on as they should -/
def pv_goI (Inv : pv_S → Prop) (S : pv_S) (mx mm : pv_Y) (args : List Value) : Prop := ∃ (v : Int32) (S' S'' : pv_S), pv_R mx 0 (pv_ent (.ref 0 :: args) (pv_ml mx)) [] (pv_em S) = some (some (.int v), pv_em S') ∧ pv_R mm 0 (pv_ent (.ref 37 :: args) (pv_ml mm)) [] (pv_em S') = some (some (.int v), pv_em S'') ∧ Inv S''
def pv_goJ (Inv : pv_S → Prop) (S : pv_S) (mx mm : pv_Y) (args : List Value) : Prop := ∃ (v : Int64) (S' S'' : pv_S), pv_R mx 0 (pv_ent (.ref 0 :: args) (pv_ml mx)) [] (pv_em S) = some (some (.long v), pv_em S') ∧ pv_R mm 0 (pv_ent (.ref 37 :: args) (pv_ml mm)) [] (pv_em S') = some (some (.long v), pv_em S'') ∧ Inv S''
theorem lw_cmp0 (v : Int64) : lg_cmp v v = 0 := by simp [lg_cmp]
section LX
variable {p : Program} {l : Launch} {e : Env} {s : State} {m : MethodId} {below : List Frame} {meth : Method} {c : Code} {b L : Nat} {xs : Nat → Int32} {D : va_G} {ca : Nat → ClassId} {H : Heap} {locs : List Loc} {ls : Array Slot} {Q : State → Prop} {Inv : pv_S → Prop} {S : pv_S} {iv : Int32}
set_option maxHeartbeats 1000000 in
theorem lw_case_0 (C0 : lw_At p s m meth c b L xs) (hK : pv_K D ca s) (hI : ∀ a1 a2 : Int32, pv_goI Inv S mX6_row mX7_row [.int a1, .int a2]) (hP : pv_P s.heap.size D ca (pv_em S) H) (hS : va_S (pv_A s.heap.size) s.heap H locs) (hl : lv_has ls 4 [(0, .ref b), (1, .ref (s.heap.size + 0)), (2, .ref (s.heap.size + 37)), (3, .int iv)]) (hin : ∀ w : Int32, 1 ≤ w → w ≤ 5 → vp_in (iv + w) L)
    (kk : ∀ (S2 : pv_S) (H1 : Heap) (locs1 : List Loc), Inv S2 → pv_P s.heap.size D ca (pv_em S2) H1 → va_S (pv_A s.heap.size) s.heap H1 locs1 → W p l e room_1 s m #[Value.ref b] below meth c H1 locs1 57 3072 Q (F0 m 1476 ls [])) : W p l e room_1 s m #[Value.ref b] below meth c H locs 57 3072 Q (F0 m 228 ls []) := by
  have hx := C0.1
  have hb := C0.2.1
  obtain ⟨v, S1, S2, h1, h2, h3⟩ := hI (xs (iv + 1).toNatClampNeg) (xs (iv + 2).toNatClampNeg)
  refine lv_aload_n hx hb dL_law_228 rfl (lv_at hl 1 rfl) ?_
  refine lw_arg (w := 1) C0 hS hl dL_law_229 dL_law_230 dL_law_231 dL_law_232 dL_law_233 (by decide +kernel) (hin 1 (by decide) (by decide)) ?_
  refine lw_arg (w := 2) C0 hS hl dL_law_234 dL_law_235 dL_law_236 dL_law_237 dL_law_238 (by decide +kernel) (hin 2 (by decide) (by decide)) ?_
  refine lw_call C0 hK lw_e_13 lw_z_13 rfl rfl (As := [.int (xs (iv + 1).toNatClampNeg), .int (xs (iv + 2).toNatClampNeg)]) (rest := []) (A := pv_em S) rfl rfl (Nat.le_of_ble_eq_true rfl) h1 (Nat.le_of_ble_eq_true rfl) hP hS hl.1 dL_law_239 (by decide) (by decide) rfl (fun H locs hP hS => ?_)
  refine lv_aload_n hx hb dL_law_242 rfl (lv_at hl 2 rfl) ?_
  refine lw_arg (w := 1) C0 hS hl dL_law_243 dL_law_244 dL_law_245 dL_law_246 dL_law_247 (by decide +kernel) (hin 1 (by decide) (by decide)) ?_
  refine lw_arg (w := 2) C0 hS hl dL_law_248 dL_law_249 dL_law_250 dL_law_251 dL_law_252 (by decide +kernel) (hin 2 (by decide) (by decide)) ?_
  refine lw_call C0 hK lw_e_17 lw_z_17 rfl rfl (As := [.int (xs (iv + 1).toNatClampNeg), .int (xs (iv + 2).toNatClampNeg)]) (rest := [.int v]) (A := pv_em S1) rfl rfl (Nat.le_of_ble_eq_true rfl) h2 (Nat.le_of_ble_eq_true rfl) hP hS hl.1 dL_law_253 (by decide) (by decide) rfl (fun H locs hP hS => ?_)
  exact lv_icmp_eq (tgt := 1476) hx hb dL_law_256 (by decide) (fun _ => kk S2 H locs h3 hP hS) (fun q => absurd rfl q)
set_option maxHeartbeats 1000000 in
theorem lw_case_1 (C0 : lw_At p s m meth c b L xs) (hK : pv_K D ca s) (hI : ∀ a1 a2 a3 : Int32, pv_goI Inv S mX6_lay mX7_lay [.int a1, .int a2, .int a3]) (hP : pv_P s.heap.size D ca (pv_em S) H) (hS : va_S (pv_A s.heap.size) s.heap H locs) (hl : lv_has ls 4 [(0, .ref b), (1, .ref (s.heap.size + 0)), (2, .ref (s.heap.size + 37)), (3, .int iv)]) (hin : ∀ w : Int32, 1 ≤ w → w ≤ 5 → vp_in (iv + w) L)
    (kk : ∀ (S2 : pv_S) (H1 : Heap) (locs1 : List Loc), Inv S2 → pv_P s.heap.size D ca (pv_em S2) H1 → va_S (pv_A s.heap.size) s.heap H1 locs1 → W p l e room_1 s m #[Value.ref b] below meth c H1 locs1 57 3072 Q (F0 m 1476 ls [])) : W p l e room_1 s m #[Value.ref b] below meth c H locs 57 3072 Q (F0 m 261 ls []) := by
  have hx := C0.1
  have hb := C0.2.1
  obtain ⟨v, S1, S2, h1, h2, h3⟩ := hI (xs (iv + 1).toNatClampNeg) (xs (iv + 2).toNatClampNeg) (xs (iv + 3).toNatClampNeg)
  refine lv_aload_n hx hb dL_law_261 rfl (lv_at hl 1 rfl) ?_
  refine lw_arg (w := 1) C0 hS hl dL_law_262 dL_law_263 dL_law_264 dL_law_265 dL_law_266 (by decide +kernel) (hin 1 (by decide) (by decide)) ?_
  refine lw_arg (w := 2) C0 hS hl dL_law_267 dL_law_268 dL_law_269 dL_law_270 dL_law_271 (by decide +kernel) (hin 2 (by decide) (by decide)) ?_
  refine lw_arg (w := 3) C0 hS hl dL_law_272 dL_law_273 dL_law_274 dL_law_275 dL_law_276 (by decide +kernel) (hin 3 (by decide) (by decide)) ?_
  refine lw_call C0 hK lw_e_18 lw_z_18 rfl rfl (As := [.int (xs (iv + 1).toNatClampNeg), .int (xs (iv + 2).toNatClampNeg), .int (xs (iv + 3).toNatClampNeg)]) (rest := []) (A := pv_em S) rfl rfl (Nat.le_of_ble_eq_true rfl) h1 (Nat.le_of_ble_eq_true rfl) hP hS hl.1 dL_law_277 (by decide) (by decide) rfl (fun H locs hP hS => ?_)
  refine lv_aload_n hx hb dL_law_280 rfl (lv_at hl 2 rfl) ?_
  refine lw_arg (w := 1) C0 hS hl dL_law_281 dL_law_282 dL_law_283 dL_law_284 dL_law_285 (by decide +kernel) (hin 1 (by decide) (by decide)) ?_
  refine lw_arg (w := 2) C0 hS hl dL_law_286 dL_law_287 dL_law_288 dL_law_289 dL_law_290 (by decide +kernel) (hin 2 (by decide) (by decide)) ?_
  refine lw_arg (w := 3) C0 hS hl dL_law_291 dL_law_292 dL_law_293 dL_law_294 dL_law_295 (by decide +kernel) (hin 3 (by decide) (by decide)) ?_
  refine lw_call C0 hK lw_e_22 lw_z_22 rfl rfl (As := [.int (xs (iv + 1).toNatClampNeg), .int (xs (iv + 2).toNatClampNeg), .int (xs (iv + 3).toNatClampNeg)]) (rest := [.int v]) (A := pv_em S1) rfl rfl (Nat.le_of_ble_eq_true rfl) h2 (Nat.le_of_ble_eq_true rfl) hP hS hl.1 dL_law_296 (by decide) (by decide) rfl (fun H locs hP hS => ?_)
  exact lv_icmp_eq (tgt := 1476) hx hb dL_law_299 (by decide) (fun _ => kk S2 H locs h3 hP hS) (fun q => absurd rfl q)
set_option maxHeartbeats 1000000 in
theorem lw_case_2 (C0 : lw_At p s m meth c b L xs) (hK : pv_K D ca s) (hI : ∀ a1 a2 : Int32, pv_goI Inv S mX6_at mX7_at [.int a1, .int a2]) (hP : pv_P s.heap.size D ca (pv_em S) H) (hS : va_S (pv_A s.heap.size) s.heap H locs) (hl : lv_has ls 4 [(0, .ref b), (1, .ref (s.heap.size + 0)), (2, .ref (s.heap.size + 37)), (3, .int iv)]) (hin : ∀ w : Int32, 1 ≤ w → w ≤ 5 → vp_in (iv + w) L)
    (kk : ∀ (S2 : pv_S) (H1 : Heap) (locs1 : List Loc), Inv S2 → pv_P s.heap.size D ca (pv_em S2) H1 → va_S (pv_A s.heap.size) s.heap H1 locs1 → W p l e room_1 s m #[Value.ref b] below meth c H1 locs1 57 3072 Q (F0 m 1476 ls [])) : W p l e room_1 s m #[Value.ref b] below meth c H locs 57 3072 Q (F0 m 304 ls []) := by
  have hx := C0.1
  have hb := C0.2.1
  obtain ⟨v, S1, S2, h1, h2, h3⟩ := hI (xs (iv + 1).toNatClampNeg) (xs (iv + 2).toNatClampNeg)
  refine lv_aload_n hx hb dL_law_304 rfl (lv_at hl 1 rfl) ?_
  refine lw_arg (w := 1) C0 hS hl dL_law_305 dL_law_306 dL_law_307 dL_law_308 dL_law_309 (by decide +kernel) (hin 1 (by decide) (by decide)) ?_
  refine lw_arg (w := 2) C0 hS hl dL_law_310 dL_law_311 dL_law_312 dL_law_313 dL_law_314 (by decide +kernel) (hin 2 (by decide) (by decide)) ?_
  refine lw_call C0 hK lw_e_23 lw_z_23 rfl rfl (As := [.int (xs (iv + 1).toNatClampNeg), .int (xs (iv + 2).toNatClampNeg)]) (rest := []) (A := pv_em S) rfl rfl (Nat.le_of_ble_eq_true rfl) h1 (Nat.le_of_ble_eq_true rfl) hP hS hl.1 dL_law_315 (by decide) (by decide) rfl (fun H locs hP hS => ?_)
  refine lv_aload_n hx hb dL_law_318 rfl (lv_at hl 2 rfl) ?_
  refine lw_arg (w := 1) C0 hS hl dL_law_319 dL_law_320 dL_law_321 dL_law_322 dL_law_323 (by decide +kernel) (hin 1 (by decide) (by decide)) ?_
  refine lw_arg (w := 2) C0 hS hl dL_law_324 dL_law_325 dL_law_326 dL_law_327 dL_law_328 (by decide +kernel) (hin 2 (by decide) (by decide)) ?_
  refine lw_call C0 hK lw_e_26 lw_z_26 rfl rfl (As := [.int (xs (iv + 1).toNatClampNeg), .int (xs (iv + 2).toNatClampNeg)]) (rest := [.int v]) (A := pv_em S1) rfl rfl (Nat.le_of_ble_eq_true rfl) h2 (Nat.le_of_ble_eq_true rfl) hP hS hl.1 dL_law_329 (by decide) (by decide) rfl (fun H locs hP hS => ?_)
  exact lv_icmp_eq (tgt := 1476) hx hb dL_law_332 (by decide) (fun _ => kk S2 H locs h3 hP hS) (fun q => absurd rfl q)
set_option maxHeartbeats 1000000 in
theorem lw_case_3 (C0 : lw_At p s m meth c b L xs) (hK : pv_K D ca s) (hI : ∀ a1 : Int32, pv_goI Inv S mX6_tear mX7_tear [.int a1]) (hP : pv_P s.heap.size D ca (pv_em S) H) (hS : va_S (pv_A s.heap.size) s.heap H locs) (hl : lv_has ls 4 [(0, .ref b), (1, .ref (s.heap.size + 0)), (2, .ref (s.heap.size + 37)), (3, .int iv)]) (hin : ∀ w : Int32, 1 ≤ w → w ≤ 5 → vp_in (iv + w) L)
    (kk : ∀ (S2 : pv_S) (H1 : Heap) (locs1 : List Loc), Inv S2 → pv_P s.heap.size D ca (pv_em S2) H1 → va_S (pv_A s.heap.size) s.heap H1 locs1 → W p l e room_1 s m #[Value.ref b] below meth c H1 locs1 57 3072 Q (F0 m 1476 ls [])) : W p l e room_1 s m #[Value.ref b] below meth c H locs 57 3072 Q (F0 m 337 ls []) := by
  have hx := C0.1
  have hb := C0.2.1
  obtain ⟨v, S1, S2, h1, h2, h3⟩ := hI (xs (iv + 1).toNatClampNeg)
  refine lv_aload_n hx hb dL_law_337 rfl (lv_at hl 1 rfl) ?_
  refine lw_arg (w := 1) C0 hS hl dL_law_338 dL_law_339 dL_law_340 dL_law_341 dL_law_342 (by decide +kernel) (hin 1 (by decide) (by decide)) ?_
  refine lw_call C0 hK lw_e_27 lw_z_27 rfl rfl (As := [.int (xs (iv + 1).toNatClampNeg)]) (rest := []) (A := pv_em S) rfl rfl (Nat.le_of_ble_eq_true rfl) h1 (Nat.le_of_ble_eq_true rfl) hP hS hl.1 dL_law_343 (by decide) (by decide) rfl (fun H locs hP hS => ?_)
  refine lv_aload_n hx hb dL_law_346 rfl (lv_at hl 2 rfl) ?_
  refine lw_arg (w := 1) C0 hS hl dL_law_347 dL_law_348 dL_law_349 dL_law_350 dL_law_351 (by decide +kernel) (hin 1 (by decide) (by decide)) ?_
  refine lw_call C0 hK lw_e_31 lw_z_31 rfl rfl (As := [.int (xs (iv + 1).toNatClampNeg)]) (rest := [.int v]) (A := pv_em S1) rfl rfl (Nat.le_of_ble_eq_true rfl) h2 (Nat.le_of_ble_eq_true rfl) hP hS hl.1 dL_law_352 (by decide) (by decide) rfl (fun H locs hP hS => ?_)
  exact lv_icmp_eq (tgt := 1476) hx hb dL_law_355 (by decide) (fun _ => kk S2 H locs h3 hP hS) (fun q => absurd rfl q)
set_option maxHeartbeats 1000000 in
theorem lw_case_4 (C0 : lw_At p s m meth c b L xs) (hK : pv_K D ca s) (hI : ∀ a1 a2 a3 a4 a5 : Int32, pv_goI Inv S mX6_copy mX7_copy [.int a1, .int a2, .int a3, .int a4, .int a5]) (hP : pv_P s.heap.size D ca (pv_em S) H) (hS : va_S (pv_A s.heap.size) s.heap H locs) (hl : lv_has ls 4 [(0, .ref b), (1, .ref (s.heap.size + 0)), (2, .ref (s.heap.size + 37)), (3, .int iv)]) (hin : ∀ w : Int32, 1 ≤ w → w ≤ 5 → vp_in (iv + w) L)
    (kk : ∀ (S2 : pv_S) (H1 : Heap) (locs1 : List Loc), Inv S2 → pv_P s.heap.size D ca (pv_em S2) H1 → va_S (pv_A s.heap.size) s.heap H1 locs1 → W p l e room_1 s m #[Value.ref b] below meth c H1 locs1 57 3072 Q (F0 m 1476 ls [])) : W p l e room_1 s m #[Value.ref b] below meth c H locs 57 3072 Q (F0 m 360 ls []) := by
  have hx := C0.1
  have hb := C0.2.1
  obtain ⟨v, S1, S2, h1, h2, h3⟩ := hI (xs (iv + 1).toNatClampNeg) (xs (iv + 2).toNatClampNeg) (xs (iv + 3).toNatClampNeg) (xs (iv + 4).toNatClampNeg) (xs (iv + 5).toNatClampNeg)
  refine lv_aload_n hx hb dL_law_360 rfl (lv_at hl 1 rfl) ?_
  refine lw_arg (w := 1) C0 hS hl dL_law_361 dL_law_362 dL_law_363 dL_law_364 dL_law_365 (by decide +kernel) (hin 1 (by decide) (by decide)) ?_
  refine lw_arg (w := 2) C0 hS hl dL_law_366 dL_law_367 dL_law_368 dL_law_369 dL_law_370 (by decide +kernel) (hin 2 (by decide) (by decide)) ?_
  refine lw_arg (w := 3) C0 hS hl dL_law_371 dL_law_372 dL_law_373 dL_law_374 dL_law_375 (by decide +kernel) (hin 3 (by decide) (by decide)) ?_
  refine lw_arg (w := 4) C0 hS hl dL_law_376 dL_law_377 dL_law_378 dL_law_379 dL_law_380 (by decide +kernel) (hin 4 (by decide) (by decide)) ?_
  refine lw_arg (w := 5) C0 hS hl dL_law_381 dL_law_382 dL_law_383 dL_law_384 dL_law_385 (by decide +kernel) (hin 5 (by decide) (by decide)) ?_
  refine lw_call C0 hK lw_e_32 lw_z_32 rfl rfl (As := [.int (xs (iv + 1).toNatClampNeg), .int (xs (iv + 2).toNatClampNeg), .int (xs (iv + 3).toNatClampNeg), .int (xs (iv + 4).toNatClampNeg), .int (xs (iv + 5).toNatClampNeg)]) (rest := []) (A := pv_em S) rfl rfl (Nat.le_of_ble_eq_true rfl) h1 (Nat.le_of_ble_eq_true rfl) hP hS hl.1 dL_law_386 (by decide) (by decide) rfl (fun H locs hP hS => ?_)
  refine lv_aload_n hx hb dL_law_389 rfl (lv_at hl 2 rfl) ?_
  refine lw_arg (w := 1) C0 hS hl dL_law_390 dL_law_391 dL_law_392 dL_law_393 dL_law_394 (by decide +kernel) (hin 1 (by decide) (by decide)) ?_
  refine lw_arg (w := 2) C0 hS hl dL_law_395 dL_law_396 dL_law_397 dL_law_398 dL_law_399 (by decide +kernel) (hin 2 (by decide) (by decide)) ?_
  refine lw_arg (w := 3) C0 hS hl dL_law_400 dL_law_401 dL_law_402 dL_law_403 dL_law_404 (by decide +kernel) (hin 3 (by decide) (by decide)) ?_
  refine lw_arg (w := 4) C0 hS hl dL_law_405 dL_law_406 dL_law_407 dL_law_408 dL_law_409 (by decide +kernel) (hin 4 (by decide) (by decide)) ?_
  refine lw_arg (w := 5) C0 hS hl dL_law_410 dL_law_411 dL_law_412 dL_law_413 dL_law_414 (by decide +kernel) (hin 5 (by decide) (by decide)) ?_
  refine lw_call C0 hK lw_e_36 lw_z_36 rfl rfl (As := [.int (xs (iv + 1).toNatClampNeg), .int (xs (iv + 2).toNatClampNeg), .int (xs (iv + 3).toNatClampNeg), .int (xs (iv + 4).toNatClampNeg), .int (xs (iv + 5).toNatClampNeg)]) (rest := [.int v]) (A := pv_em S1) rfl rfl (Nat.le_of_ble_eq_true rfl) h2 (Nat.le_of_ble_eq_true rfl) hP hS hl.1 dL_law_415 (by decide) (by decide) rfl (fun H locs hP hS => ?_)
  exact lv_icmp_eq (tgt := 1476) hx hb dL_law_418 (by decide) (fun _ => kk S2 H locs h3 hP hS) (fun q => absurd rfl q)
set_option maxHeartbeats 1000000 in
theorem lw_case_5 (C0 : lw_At p s m meth c b L xs) (hK : pv_K D ca s) (hI : ∀ a1 : Int32, pv_goI Inv S mX6_mean mX7_mean [.int a1]) (hP : pv_P s.heap.size D ca (pv_em S) H) (hS : va_S (pv_A s.heap.size) s.heap H locs) (hl : lv_has ls 4 [(0, .ref b), (1, .ref (s.heap.size + 0)), (2, .ref (s.heap.size + 37)), (3, .int iv)]) (hin : ∀ w : Int32, 1 ≤ w → w ≤ 5 → vp_in (iv + w) L)
    (kk : ∀ (S2 : pv_S) (H1 : Heap) (locs1 : List Loc), Inv S2 → pv_P s.heap.size D ca (pv_em S2) H1 → va_S (pv_A s.heap.size) s.heap H1 locs1 → W p l e room_1 s m #[Value.ref b] below meth c H1 locs1 57 3072 Q (F0 m 1476 ls [])) : W p l e room_1 s m #[Value.ref b] below meth c H locs 57 3072 Q (F0 m 423 ls []) := by
  have hx := C0.1
  have hb := C0.2.1
  obtain ⟨v, S1, S2, h1, h2, h3⟩ := hI (xs (iv + 1).toNatClampNeg)
  refine lv_aload_n hx hb dL_law_423 rfl (lv_at hl 1 rfl) ?_
  refine lw_arg (w := 1) C0 hS hl dL_law_424 dL_law_425 dL_law_426 dL_law_427 dL_law_428 (by decide +kernel) (hin 1 (by decide) (by decide)) ?_
  refine lw_call C0 hK lw_e_37 lw_z_37 rfl rfl (As := [.int (xs (iv + 1).toNatClampNeg)]) (rest := []) (A := pv_em S) rfl rfl (Nat.le_of_ble_eq_true rfl) h1 (Nat.le_of_ble_eq_true rfl) hP hS hl.1 dL_law_429 (by decide) (by decide) rfl (fun H locs hP hS => ?_)
  refine lv_aload_n hx hb dL_law_432 rfl (lv_at hl 2 rfl) ?_
  refine lw_arg (w := 1) C0 hS hl dL_law_433 dL_law_434 dL_law_435 dL_law_436 dL_law_437 (by decide +kernel) (hin 1 (by decide) (by decide)) ?_
  refine lw_call C0 hK lw_e_40 lw_z_40 rfl rfl (As := [.int (xs (iv + 1).toNatClampNeg)]) (rest := [.int v]) (A := pv_em S1) rfl rfl (Nat.le_of_ble_eq_true rfl) h2 (Nat.le_of_ble_eq_true rfl) hP hS hl.1 dL_law_438 (by decide) (by decide) rfl (fun H locs hP hS => ?_)
  exact lv_icmp_eq (tgt := 1476) hx hb dL_law_441 (by decide) (fun _ => kk S2 H locs h3 hP hS) (fun q => absurd rfl q)
set_option maxHeartbeats 1000000 in
theorem lw_case_6 (C0 : lw_At p s m meth c b L xs) (hK : pv_K D ca s) (hI : ∀ a1 a2 : Int32, pv_goI Inv S mX6_text mX7_text [.int a1, .int a2]) (hP : pv_P s.heap.size D ca (pv_em S) H) (hS : va_S (pv_A s.heap.size) s.heap H locs) (hl : lv_has ls 4 [(0, .ref b), (1, .ref (s.heap.size + 0)), (2, .ref (s.heap.size + 37)), (3, .int iv)]) (hin : ∀ w : Int32, 1 ≤ w → w ≤ 5 → vp_in (iv + w) L)
    (kk : ∀ (S2 : pv_S) (H1 : Heap) (locs1 : List Loc), Inv S2 → pv_P s.heap.size D ca (pv_em S2) H1 → va_S (pv_A s.heap.size) s.heap H1 locs1 → W p l e room_1 s m #[Value.ref b] below meth c H1 locs1 57 3072 Q (F0 m 1476 ls [])) : W p l e room_1 s m #[Value.ref b] below meth c H locs 57 3072 Q (F0 m 446 ls []) := by
  have hx := C0.1
  have hb := C0.2.1
  obtain ⟨v, S1, S2, h1, h2, h3⟩ := hI (xs (iv + 1).toNatClampNeg) (xs (iv + 2).toNatClampNeg)
  refine lv_aload_n hx hb dL_law_446 rfl (lv_at hl 1 rfl) ?_
  refine lw_arg (w := 1) C0 hS hl dL_law_447 dL_law_448 dL_law_449 dL_law_450 dL_law_451 (by decide +kernel) (hin 1 (by decide) (by decide)) ?_
  refine lw_arg (w := 2) C0 hS hl dL_law_452 dL_law_453 dL_law_454 dL_law_455 dL_law_456 (by decide +kernel) (hin 2 (by decide) (by decide)) ?_
  refine lw_call C0 hK lw_e_41 lw_z_41 rfl rfl (As := [.int (xs (iv + 1).toNatClampNeg), .int (xs (iv + 2).toNatClampNeg)]) (rest := []) (A := pv_em S) rfl rfl (Nat.le_of_ble_eq_true rfl) h1 (Nat.le_of_ble_eq_true rfl) hP hS hl.1 dL_law_457 (by decide) (by decide) rfl (fun H locs hP hS => ?_)
  refine lv_aload_n hx hb dL_law_460 rfl (lv_at hl 2 rfl) ?_
  refine lw_arg (w := 1) C0 hS hl dL_law_461 dL_law_462 dL_law_463 dL_law_464 dL_law_465 (by decide +kernel) (hin 1 (by decide) (by decide)) ?_
  refine lw_arg (w := 2) C0 hS hl dL_law_466 dL_law_467 dL_law_468 dL_law_469 dL_law_470 (by decide +kernel) (hin 2 (by decide) (by decide)) ?_
  refine lw_call C0 hK lw_e_44 lw_z_44 rfl rfl (As := [.int (xs (iv + 1).toNatClampNeg), .int (xs (iv + 2).toNatClampNeg)]) (rest := [.int v]) (A := pv_em S1) rfl rfl (Nat.le_of_ble_eq_true rfl) h2 (Nat.le_of_ble_eq_true rfl) hP hS hl.1 dL_law_471 (by decide) (by decide) rfl (fun H locs hP hS => ?_)
  exact lv_icmp_eq (tgt := 1476) hx hb dL_law_474 (by decide) (fun _ => kk S2 H locs h3 hP hS) (fun q => absurd rfl q)
set_option maxHeartbeats 1000000 in
theorem lw_case_7 (C0 : lw_At p s m meth c b L xs) (hK : pv_K D ca s) (hI : ∀ a1 a2 a3 : Int32, pv_goI Inv S mX6_put mX7_put [.int a1, .int a2, .int a3]) (hP : pv_P s.heap.size D ca (pv_em S) H) (hS : va_S (pv_A s.heap.size) s.heap H locs) (hl : lv_has ls 4 [(0, .ref b), (1, .ref (s.heap.size + 0)), (2, .ref (s.heap.size + 37)), (3, .int iv)]) (hin : ∀ w : Int32, 1 ≤ w → w ≤ 5 → vp_in (iv + w) L)
    (kk : ∀ (S2 : pv_S) (H1 : Heap) (locs1 : List Loc), Inv S2 → pv_P s.heap.size D ca (pv_em S2) H1 → va_S (pv_A s.heap.size) s.heap H1 locs1 → W p l e room_1 s m #[Value.ref b] below meth c H1 locs1 57 3072 Q (F0 m 1476 ls [])) : W p l e room_1 s m #[Value.ref b] below meth c H locs 57 3072 Q (F0 m 479 ls []) := by
  have hx := C0.1
  have hb := C0.2.1
  obtain ⟨v, S1, S2, h1, h2, h3⟩ := hI (xs (iv + 1).toNatClampNeg) (xs (iv + 2).toNatClampNeg) (xs (iv + 3).toNatClampNeg)
  refine lv_aload_n hx hb dL_law_479 rfl (lv_at hl 1 rfl) ?_
  refine lw_arg (w := 1) C0 hS hl dL_law_480 dL_law_481 dL_law_482 dL_law_483 dL_law_484 (by decide +kernel) (hin 1 (by decide) (by decide)) ?_
  refine lw_arg (w := 2) C0 hS hl dL_law_485 dL_law_486 dL_law_487 dL_law_488 dL_law_489 (by decide +kernel) (hin 2 (by decide) (by decide)) ?_
  refine lw_arg (w := 3) C0 hS hl dL_law_490 dL_law_491 dL_law_492 dL_law_493 dL_law_494 (by decide +kernel) (hin 3 (by decide) (by decide)) ?_
  refine lw_call C0 hK lw_e_45 lw_z_45 rfl rfl (As := [.int (xs (iv + 1).toNatClampNeg), .int (xs (iv + 2).toNatClampNeg), .int (xs (iv + 3).toNatClampNeg)]) (rest := []) (A := pv_em S) rfl rfl (Nat.le_of_ble_eq_true rfl) h1 (Nat.le_of_ble_eq_true rfl) hP hS hl.1 dL_law_495 (by decide) (by decide) rfl (fun H locs hP hS => ?_)
  refine lv_aload_n hx hb dL_law_498 rfl (lv_at hl 2 rfl) ?_
  refine lw_arg (w := 1) C0 hS hl dL_law_499 dL_law_500 dL_law_501 dL_law_502 dL_law_503 (by decide +kernel) (hin 1 (by decide) (by decide)) ?_
  refine lw_arg (w := 2) C0 hS hl dL_law_504 dL_law_505 dL_law_506 dL_law_507 dL_law_508 (by decide +kernel) (hin 2 (by decide) (by decide)) ?_
  refine lw_arg (w := 3) C0 hS hl dL_law_509 dL_law_510 dL_law_511 dL_law_512 dL_law_513 (by decide +kernel) (hin 3 (by decide) (by decide)) ?_
  refine lw_call C0 hK lw_e_48 lw_z_48 rfl rfl (As := [.int (xs (iv + 1).toNatClampNeg), .int (xs (iv + 2).toNatClampNeg), .int (xs (iv + 3).toNatClampNeg)]) (rest := [.int v]) (A := pv_em S1) rfl rfl (Nat.le_of_ble_eq_true rfl) h2 (Nat.le_of_ble_eq_true rfl) hP hS hl.1 dL_law_514 (by decide) (by decide) rfl (fun H locs hP hS => ?_)
  exact lv_icmp_eq (tgt := 1476) hx hb dL_law_517 (by decide) (fun _ => kk S2 H locs h3 hP hS) (fun q => absurd rfl q)
set_option maxHeartbeats 1000000 in
theorem lw_case_8 (C0 : lw_At p s m meth c b L xs) (hK : pv_K D ca s) (hI : ∀ a1 : Int32, pv_goI Inv S mX6_fault mX7_fault [.int a1]) (hP : pv_P s.heap.size D ca (pv_em S) H) (hS : va_S (pv_A s.heap.size) s.heap H locs) (hl : lv_has ls 4 [(0, .ref b), (1, .ref (s.heap.size + 0)), (2, .ref (s.heap.size + 37)), (3, .int iv)]) (hin : ∀ w : Int32, 1 ≤ w → w ≤ 5 → vp_in (iv + w) L)
    (kk : ∀ (S2 : pv_S) (H1 : Heap) (locs1 : List Loc), Inv S2 → pv_P s.heap.size D ca (pv_em S2) H1 → va_S (pv_A s.heap.size) s.heap H1 locs1 → W p l e room_1 s m #[Value.ref b] below meth c H1 locs1 57 3072 Q (F0 m 1476 ls [])) : W p l e room_1 s m #[Value.ref b] below meth c H locs 57 3072 Q (F0 m 522 ls []) := by
  have hx := C0.1
  have hb := C0.2.1
  obtain ⟨v, S1, S2, h1, h2, h3⟩ := hI (xs (iv + 1).toNatClampNeg)
  refine lv_aload_n hx hb dL_law_522 rfl (lv_at hl 1 rfl) ?_
  refine lw_arg (w := 1) C0 hS hl dL_law_523 dL_law_524 dL_law_525 dL_law_526 dL_law_527 (by decide +kernel) (hin 1 (by decide) (by decide)) ?_
  refine lw_call C0 hK lw_e_49 lw_z_49 rfl rfl (As := [.int (xs (iv + 1).toNatClampNeg)]) (rest := []) (A := pv_em S) rfl rfl (Nat.le_of_ble_eq_true rfl) h1 (Nat.le_of_ble_eq_true rfl) hP hS hl.1 dL_law_528 (by decide) (by decide) rfl (fun H locs hP hS => ?_)
  refine lv_aload_n hx hb dL_law_531 rfl (lv_at hl 2 rfl) ?_
  refine lw_arg (w := 1) C0 hS hl dL_law_532 dL_law_533 dL_law_534 dL_law_535 dL_law_536 (by decide +kernel) (hin 1 (by decide) (by decide)) ?_
  refine lw_call C0 hK lw_e_52 lw_z_52 rfl rfl (As := [.int (xs (iv + 1).toNatClampNeg)]) (rest := [.int v]) (A := pv_em S1) rfl rfl (Nat.le_of_ble_eq_true rfl) h2 (Nat.le_of_ble_eq_true rfl) hP hS hl.1 dL_law_537 (by decide) (by decide) rfl (fun H locs hP hS => ?_)
  exact lv_icmp_eq (tgt := 1476) hx hb dL_law_540 (by decide) (fun _ => kk S2 H locs h3 hP hS) (fun q => absurd rfl q)
set_option maxHeartbeats 1000000 in
theorem lw_case_9 (C0 : lw_At p s m meth c b L xs) (hK : pv_K D ca s) (hI : ∀ a1 : Int32, pv_goI Inv S mX6_town mX7_town [.int a1]) (hP : pv_P s.heap.size D ca (pv_em S) H) (hS : va_S (pv_A s.heap.size) s.heap H locs) (hl : lv_has ls 4 [(0, .ref b), (1, .ref (s.heap.size + 0)), (2, .ref (s.heap.size + 37)), (3, .int iv)]) (hin : ∀ w : Int32, 1 ≤ w → w ≤ 5 → vp_in (iv + w) L)
    (kk : ∀ (S2 : pv_S) (H1 : Heap) (locs1 : List Loc), Inv S2 → pv_P s.heap.size D ca (pv_em S2) H1 → va_S (pv_A s.heap.size) s.heap H1 locs1 → W p l e room_1 s m #[Value.ref b] below meth c H1 locs1 57 3072 Q (F0 m 1476 ls [])) : W p l e room_1 s m #[Value.ref b] below meth c H locs 57 3072 Q (F0 m 545 ls []) := by
  have hx := C0.1
  have hb := C0.2.1
  obtain ⟨v, S1, S2, h1, h2, h3⟩ := hI (xs (iv + 1).toNatClampNeg)
  refine lv_aload_n hx hb dL_law_545 rfl (lv_at hl 1 rfl) ?_
  refine lw_arg (w := 1) C0 hS hl dL_law_546 dL_law_547 dL_law_548 dL_law_549 dL_law_550 (by decide +kernel) (hin 1 (by decide) (by decide)) ?_
  refine lw_call C0 hK lw_e_53 lw_z_53 rfl rfl (As := [.int (xs (iv + 1).toNatClampNeg)]) (rest := []) (A := pv_em S) rfl rfl (Nat.le_of_ble_eq_true rfl) h1 (Nat.le_of_ble_eq_true rfl) hP hS hl.1 dL_law_551 (by decide) (by decide) rfl (fun H locs hP hS => ?_)
  refine lv_aload_n hx hb dL_law_554 rfl (lv_at hl 2 rfl) ?_
  refine lw_arg (w := 1) C0 hS hl dL_law_555 dL_law_556 dL_law_557 dL_law_558 dL_law_559 (by decide +kernel) (hin 1 (by decide) (by decide)) ?_
  refine lw_call C0 hK lw_e_56 lw_z_56 rfl rfl (As := [.int (xs (iv + 1).toNatClampNeg)]) (rest := [.int v]) (A := pv_em S1) rfl rfl (Nat.le_of_ble_eq_true rfl) h2 (Nat.le_of_ble_eq_true rfl) hP hS hl.1 dL_law_560 (by decide) (by decide) rfl (fun H locs hP hS => ?_)
  exact lv_icmp_eq (tgt := 1476) hx hb dL_law_563 (by decide) (fun _ => kk S2 H locs h3 hP hS) (fun q => absurd rfl q)
set_option maxHeartbeats 1000000 in
theorem lw_case_10 (C0 : lw_At p s m meth c b L xs) (hK : pv_K D ca s) (hI : ∀ a1 a2 : Int32, pv_goI Inv S mX6_cat mX7_cat [.int a1, .int a2]) (hP : pv_P s.heap.size D ca (pv_em S) H) (hS : va_S (pv_A s.heap.size) s.heap H locs) (hl : lv_has ls 4 [(0, .ref b), (1, .ref (s.heap.size + 0)), (2, .ref (s.heap.size + 37)), (3, .int iv)]) (hin : ∀ w : Int32, 1 ≤ w → w ≤ 5 → vp_in (iv + w) L)
    (kk : ∀ (S2 : pv_S) (H1 : Heap) (locs1 : List Loc), Inv S2 → pv_P s.heap.size D ca (pv_em S2) H1 → va_S (pv_A s.heap.size) s.heap H1 locs1 → W p l e room_1 s m #[Value.ref b] below meth c H1 locs1 57 3072 Q (F0 m 1476 ls [])) : W p l e room_1 s m #[Value.ref b] below meth c H locs 57 3072 Q (F0 m 568 ls []) := by
  have hx := C0.1
  have hb := C0.2.1
  obtain ⟨v, S1, S2, h1, h2, h3⟩ := hI (xs (iv + 1).toNatClampNeg) (xs (iv + 2).toNatClampNeg)
  refine lv_aload_n hx hb dL_law_568 rfl (lv_at hl 1 rfl) ?_
  refine lw_arg (w := 1) C0 hS hl dL_law_569 dL_law_570 dL_law_571 dL_law_572 dL_law_573 (by decide +kernel) (hin 1 (by decide) (by decide)) ?_
  refine lw_arg (w := 2) C0 hS hl dL_law_574 dL_law_575 dL_law_576 dL_law_577 dL_law_578 (by decide +kernel) (hin 2 (by decide) (by decide)) ?_
  refine lw_call C0 hK lw_e_57 lw_z_57 rfl rfl (As := [.int (xs (iv + 1).toNatClampNeg), .int (xs (iv + 2).toNatClampNeg)]) (rest := []) (A := pv_em S) rfl rfl (Nat.le_of_ble_eq_true rfl) h1 (Nat.le_of_ble_eq_true rfl) hP hS hl.1 dL_law_579 (by decide) (by decide) rfl (fun H locs hP hS => ?_)
  refine lv_aload_n hx hb dL_law_582 rfl (lv_at hl 2 rfl) ?_
  refine lw_arg (w := 1) C0 hS hl dL_law_583 dL_law_584 dL_law_585 dL_law_586 dL_law_587 (by decide +kernel) (hin 1 (by decide) (by decide)) ?_
  refine lw_arg (w := 2) C0 hS hl dL_law_588 dL_law_589 dL_law_590 dL_law_591 dL_law_592 (by decide +kernel) (hin 2 (by decide) (by decide)) ?_
  refine lw_call C0 hK lw_e_60 lw_z_60 rfl rfl (As := [.int (xs (iv + 1).toNatClampNeg), .int (xs (iv + 2).toNatClampNeg)]) (rest := [.int v]) (A := pv_em S1) rfl rfl (Nat.le_of_ble_eq_true rfl) h2 (Nat.le_of_ble_eq_true rfl) hP hS hl.1 dL_law_593 (by decide) (by decide) rfl (fun H locs hP hS => ?_)
  exact lv_icmp_eq (tgt := 1476) hx hb dL_law_596 (by decide) (fun _ => kk S2 H locs h3 hP hS) (fun q => absurd rfl q)
set_option maxHeartbeats 1000000 in
theorem lw_case_11 (C0 : lw_At p s m meth c b L xs) (hK : pv_K D ca s) (hI : ∀ a1 a2 : Int32, pv_goI Inv S mX6_mark mX7_mark [.int a1, .int a2]) (hP : pv_P s.heap.size D ca (pv_em S) H) (hS : va_S (pv_A s.heap.size) s.heap H locs) (hl : lv_has ls 4 [(0, .ref b), (1, .ref (s.heap.size + 0)), (2, .ref (s.heap.size + 37)), (3, .int iv)]) (hin : ∀ w : Int32, 1 ≤ w → w ≤ 5 → vp_in (iv + w) L)
    (kk : ∀ (S2 : pv_S) (H1 : Heap) (locs1 : List Loc), Inv S2 → pv_P s.heap.size D ca (pv_em S2) H1 → va_S (pv_A s.heap.size) s.heap H1 locs1 → W p l e room_1 s m #[Value.ref b] below meth c H1 locs1 57 3072 Q (F0 m 1476 ls [])) : W p l e room_1 s m #[Value.ref b] below meth c H locs 57 3072 Q (F0 m 601 ls []) := by
  have hx := C0.1
  have hb := C0.2.1
  obtain ⟨v, S1, S2, h1, h2, h3⟩ := hI (xs (iv + 1).toNatClampNeg) (xs (iv + 2).toNatClampNeg)
  refine lv_aload_n hx hb dL_law_601 rfl (lv_at hl 1 rfl) ?_
  refine lw_arg (w := 1) C0 hS hl dL_law_602 dL_law_603 dL_law_604 dL_law_605 dL_law_606 (by decide +kernel) (hin 1 (by decide) (by decide)) ?_
  refine lw_arg (w := 2) C0 hS hl dL_law_607 dL_law_608 dL_law_609 dL_law_610 dL_law_611 (by decide +kernel) (hin 2 (by decide) (by decide)) ?_
  refine lw_call C0 hK lw_e_61 lw_z_61 rfl rfl (As := [.int (xs (iv + 1).toNatClampNeg), .int (xs (iv + 2).toNatClampNeg)]) (rest := []) (A := pv_em S) rfl rfl (Nat.le_of_ble_eq_true rfl) h1 (Nat.le_of_ble_eq_true rfl) hP hS hl.1 dL_law_612 (by decide) (by decide) rfl (fun H locs hP hS => ?_)
  refine lv_aload_n hx hb dL_law_615 rfl (lv_at hl 2 rfl) ?_
  refine lw_arg (w := 1) C0 hS hl dL_law_616 dL_law_617 dL_law_618 dL_law_619 dL_law_620 (by decide +kernel) (hin 1 (by decide) (by decide)) ?_
  refine lw_arg (w := 2) C0 hS hl dL_law_621 dL_law_622 dL_law_623 dL_law_624 dL_law_625 (by decide +kernel) (hin 2 (by decide) (by decide)) ?_
  refine lw_call C0 hK lw_e_64 lw_z_64 rfl rfl (As := [.int (xs (iv + 1).toNatClampNeg), .int (xs (iv + 2).toNatClampNeg)]) (rest := [.int v]) (A := pv_em S1) rfl rfl (Nat.le_of_ble_eq_true rfl) h2 (Nat.le_of_ble_eq_true rfl) hP hS hl.1 dL_law_626 (by decide) (by decide) rfl (fun H locs hP hS => ?_)
  exact lv_icmp_eq (tgt := 1476) hx hb dL_law_629 (by decide) (fun _ => kk S2 H locs h3 hP hS) (fun q => absurd rfl q)
set_option maxHeartbeats 1000000 in
theorem lw_case_12 (C0 : lw_At p s m meth c b L xs) (hK : pv_K D ca s) (hI : pv_goI Inv S mX6_hour mX7_hour []) (hP : pv_P s.heap.size D ca (pv_em S) H) (hS : va_S (pv_A s.heap.size) s.heap H locs) (hl : lv_has ls 4 [(0, .ref b), (1, .ref (s.heap.size + 0)), (2, .ref (s.heap.size + 37)), (3, .int iv)]) (hin : ∀ w : Int32, 1 ≤ w → w ≤ 5 → vp_in (iv + w) L)
    (kk : ∀ (S2 : pv_S) (H1 : Heap) (locs1 : List Loc), Inv S2 → pv_P s.heap.size D ca (pv_em S2) H1 → va_S (pv_A s.heap.size) s.heap H1 locs1 → W p l e room_1 s m #[Value.ref b] below meth c H1 locs1 57 3072 Q (F0 m 1476 ls [])) : W p l e room_1 s m #[Value.ref b] below meth c H locs 57 3072 Q (F0 m 634 ls []) := by
  have hx := C0.1
  have hb := C0.2.1
  obtain ⟨v, S1, S2, h1, h2, h3⟩ := hI
  refine lv_aload_n hx hb dL_law_634 rfl (lv_at hl 1 rfl) ?_
  refine lw_call C0 hK lw_e_65 lw_z_65 rfl rfl (As := []) (rest := []) (A := pv_em S) rfl rfl (Nat.le_of_ble_eq_true rfl) h1 (Nat.le_of_ble_eq_true rfl) hP hS hl.1 dL_law_635 (by decide) (by decide) rfl (fun H locs hP hS => ?_)
  refine lv_aload_n hx hb dL_law_638 rfl (lv_at hl 2 rfl) ?_
  refine lw_call C0 hK lw_e_69 lw_z_69 rfl rfl (As := []) (rest := [.int v]) (A := pv_em S1) rfl rfl (Nat.le_of_ble_eq_true rfl) h2 (Nat.le_of_ble_eq_true rfl) hP hS hl.1 dL_law_639 (by decide) (by decide) rfl (fun H locs hP hS => ?_)
  exact lv_icmp_eq (tgt := 1476) hx hb dL_law_642 (by decide) (fun _ => kk S2 H locs h3 hP hS) (fun q => absurd rfl q)
set_option maxHeartbeats 1000000 in
theorem lw_case_13 (C0 : lw_At p s m meth c b L xs) (hK : pv_K D ca s) (hI : ∀ a1 : Int32, pv_goI Inv S mX6_feed mX7_feed [.int a1]) (hP : pv_P s.heap.size D ca (pv_em S) H) (hS : va_S (pv_A s.heap.size) s.heap H locs) (hl : lv_has ls 4 [(0, .ref b), (1, .ref (s.heap.size + 0)), (2, .ref (s.heap.size + 37)), (3, .int iv)]) (hin : ∀ w : Int32, 1 ≤ w → w ≤ 5 → vp_in (iv + w) L)
    (kk : ∀ (S2 : pv_S) (H1 : Heap) (locs1 : List Loc), Inv S2 → pv_P s.heap.size D ca (pv_em S2) H1 → va_S (pv_A s.heap.size) s.heap H1 locs1 → W p l e room_1 s m #[Value.ref b] below meth c H1 locs1 57 3072 Q (F0 m 1476 ls [])) : W p l e room_1 s m #[Value.ref b] below meth c H locs 57 3072 Q (F0 m 647 ls []) := by
  have hx := C0.1
  have hb := C0.2.1
  obtain ⟨v, S1, S2, h1, h2, h3⟩ := hI (xs (iv + 1).toNatClampNeg)
  refine lv_aload_n hx hb dL_law_647 rfl (lv_at hl 1 rfl) ?_
  refine lw_arg (w := 1) C0 hS hl dL_law_648 dL_law_649 dL_law_650 dL_law_651 dL_law_652 (by decide +kernel) (hin 1 (by decide) (by decide)) ?_
  refine lw_call C0 hK lw_e_70 lw_z_70 rfl rfl (As := [.int (xs (iv + 1).toNatClampNeg)]) (rest := []) (A := pv_em S) rfl rfl (Nat.le_of_ble_eq_true rfl) h1 (Nat.le_of_ble_eq_true rfl) hP hS hl.1 dL_law_653 (by decide) (by decide) rfl (fun H locs hP hS => ?_)
  refine lv_aload_n hx hb dL_law_656 rfl (lv_at hl 2 rfl) ?_
  refine lw_arg (w := 1) C0 hS hl dL_law_657 dL_law_658 dL_law_659 dL_law_660 dL_law_661 (by decide +kernel) (hin 1 (by decide) (by decide)) ?_
  refine lw_call C0 hK lw_e_73 lw_z_73 rfl rfl (As := [.int (xs (iv + 1).toNatClampNeg)]) (rest := [.int v]) (A := pv_em S1) rfl rfl (Nat.le_of_ble_eq_true rfl) h2 (Nat.le_of_ble_eq_true rfl) hP hS hl.1 dL_law_662 (by decide) (by decide) rfl (fun H locs hP hS => ?_)
  exact lv_icmp_eq (tgt := 1476) hx hb dL_law_665 (by decide) (fun _ => kk S2 H locs h3 hP hS) (fun q => absurd rfl q)
set_option maxHeartbeats 1000000 in
theorem lw_case_14 (C0 : lw_At p s m meth c b L xs) (hK : pv_K D ca s) (hI : ∀ a1 : Int32, pv_goI Inv S mX6_buy mX7_buy [.int a1]) (hP : pv_P s.heap.size D ca (pv_em S) H) (hS : va_S (pv_A s.heap.size) s.heap H locs) (hl : lv_has ls 4 [(0, .ref b), (1, .ref (s.heap.size + 0)), (2, .ref (s.heap.size + 37)), (3, .int iv)]) (hin : ∀ w : Int32, 1 ≤ w → w ≤ 5 → vp_in (iv + w) L)
    (kk : ∀ (S2 : pv_S) (H1 : Heap) (locs1 : List Loc), Inv S2 → pv_P s.heap.size D ca (pv_em S2) H1 → va_S (pv_A s.heap.size) s.heap H1 locs1 → W p l e room_1 s m #[Value.ref b] below meth c H1 locs1 57 3072 Q (F0 m 1476 ls [])) : W p l e room_1 s m #[Value.ref b] below meth c H locs 57 3072 Q (F0 m 670 ls []) := by
  have hx := C0.1
  have hb := C0.2.1
  obtain ⟨v, S1, S2, h1, h2, h3⟩ := hI (xs (iv + 1).toNatClampNeg)
  refine lv_aload_n hx hb dL_law_670 rfl (lv_at hl 1 rfl) ?_
  refine lw_arg (w := 1) C0 hS hl dL_law_671 dL_law_672 dL_law_673 dL_law_674 dL_law_675 (by decide +kernel) (hin 1 (by decide) (by decide)) ?_
  refine lw_call C0 hK lw_e_74 lw_z_74 rfl rfl (As := [.int (xs (iv + 1).toNatClampNeg)]) (rest := []) (A := pv_em S) rfl rfl (Nat.le_of_ble_eq_true rfl) h1 (Nat.le_of_ble_eq_true rfl) hP hS hl.1 dL_law_676 (by decide) (by decide) rfl (fun H locs hP hS => ?_)
  refine lv_aload_n hx hb dL_law_679 rfl (lv_at hl 2 rfl) ?_
  refine lw_arg (w := 1) C0 hS hl dL_law_680 dL_law_681 dL_law_682 dL_law_683 dL_law_684 (by decide +kernel) (hin 1 (by decide) (by decide)) ?_
  refine lw_call C0 hK lw_e_77 lw_z_77 rfl rfl (As := [.int (xs (iv + 1).toNatClampNeg)]) (rest := [.int v]) (A := pv_em S1) rfl rfl (Nat.le_of_ble_eq_true rfl) h2 (Nat.le_of_ble_eq_true rfl) hP hS hl.1 dL_law_685 (by decide) (by decide) rfl (fun H locs hP hS => ?_)
  exact lv_icmp_eq (tgt := 1476) hx hb dL_law_688 (by decide) (fun _ => kk S2 H locs h3 hP hS) (fun q => absurd rfl q)
set_option maxHeartbeats 1000000 in
theorem lw_case_15 (C0 : lw_At p s m meth c b L xs) (hK : pv_K D ca s) (hI : ∀ a1 : Int32, pv_goI Inv S mX6_sell mX7_sell [.int a1]) (hP : pv_P s.heap.size D ca (pv_em S) H) (hS : va_S (pv_A s.heap.size) s.heap H locs) (hl : lv_has ls 4 [(0, .ref b), (1, .ref (s.heap.size + 0)), (2, .ref (s.heap.size + 37)), (3, .int iv)]) (hin : ∀ w : Int32, 1 ≤ w → w ≤ 5 → vp_in (iv + w) L)
    (kk : ∀ (S2 : pv_S) (H1 : Heap) (locs1 : List Loc), Inv S2 → pv_P s.heap.size D ca (pv_em S2) H1 → va_S (pv_A s.heap.size) s.heap H1 locs1 → W p l e room_1 s m #[Value.ref b] below meth c H1 locs1 57 3072 Q (F0 m 1476 ls [])) : W p l e room_1 s m #[Value.ref b] below meth c H locs 57 3072 Q (F0 m 693 ls []) := by
  have hx := C0.1
  have hb := C0.2.1
  obtain ⟨v, S1, S2, h1, h2, h3⟩ := hI (xs (iv + 1).toNatClampNeg)
  refine lv_aload_n hx hb dL_law_693 rfl (lv_at hl 1 rfl) ?_
  refine lw_arg (w := 1) C0 hS hl dL_law_694 dL_law_695 dL_law_696 dL_law_697 dL_law_698 (by decide +kernel) (hin 1 (by decide) (by decide)) ?_
  refine lw_call C0 hK lw_e_78 lw_z_78 rfl rfl (As := [.int (xs (iv + 1).toNatClampNeg)]) (rest := []) (A := pv_em S) rfl rfl (Nat.le_of_ble_eq_true rfl) h1 (Nat.le_of_ble_eq_true rfl) hP hS hl.1 dL_law_699 (by decide) (by decide) rfl (fun H locs hP hS => ?_)
  refine lv_aload_n hx hb dL_law_702 rfl (lv_at hl 2 rfl) ?_
  refine lw_arg (w := 1) C0 hS hl dL_law_703 dL_law_704 dL_law_705 dL_law_706 dL_law_707 (by decide +kernel) (hin 1 (by decide) (by decide)) ?_
  refine lw_call C0 hK lw_e_81 lw_z_81 rfl rfl (As := [.int (xs (iv + 1).toNatClampNeg)]) (rest := [.int v]) (A := pv_em S1) rfl rfl (Nat.le_of_ble_eq_true rfl) h2 (Nat.le_of_ble_eq_true rfl) hP hS hl.1 dL_law_708 (by decide) (by decide) rfl (fun H locs hP hS => ?_)
  exact lv_icmp_eq (tgt := 1476) hx hb dL_law_711 (by decide) (fun _ => kk S2 H locs h3 hP hS) (fun q => absurd rfl q)
set_option maxHeartbeats 1000000 in
theorem lw_case_16 (C0 : lw_At p s m meth c b L xs) (hK : pv_K D ca s) (hI : ∀ a1 : Int32, pv_goI Inv S mX6_rule mX7_rule [.int a1]) (hP : pv_P s.heap.size D ca (pv_em S) H) (hS : va_S (pv_A s.heap.size) s.heap H locs) (hl : lv_has ls 4 [(0, .ref b), (1, .ref (s.heap.size + 0)), (2, .ref (s.heap.size + 37)), (3, .int iv)]) (hin : ∀ w : Int32, 1 ≤ w → w ≤ 5 → vp_in (iv + w) L)
    (kk : ∀ (S2 : pv_S) (H1 : Heap) (locs1 : List Loc), Inv S2 → pv_P s.heap.size D ca (pv_em S2) H1 → va_S (pv_A s.heap.size) s.heap H1 locs1 → W p l e room_1 s m #[Value.ref b] below meth c H1 locs1 57 3072 Q (F0 m 1476 ls [])) : W p l e room_1 s m #[Value.ref b] below meth c H locs 57 3072 Q (F0 m 716 ls []) := by
  have hx := C0.1
  have hb := C0.2.1
  obtain ⟨v, S1, S2, h1, h2, h3⟩ := hI (xs (iv + 1).toNatClampNeg)
  refine lv_aload_n hx hb dL_law_716 rfl (lv_at hl 1 rfl) ?_
  refine lw_arg (w := 1) C0 hS hl dL_law_717 dL_law_718 dL_law_719 dL_law_720 dL_law_721 (by decide +kernel) (hin 1 (by decide) (by decide)) ?_
  refine lw_call C0 hK lw_e_82 lw_z_82 rfl rfl (As := [.int (xs (iv + 1).toNatClampNeg)]) (rest := []) (A := pv_em S) rfl rfl (Nat.le_of_ble_eq_true rfl) h1 (Nat.le_of_ble_eq_true rfl) hP hS hl.1 dL_law_722 (by decide) (by decide) rfl (fun H locs hP hS => ?_)
  refine lv_aload_n hx hb dL_law_725 rfl (lv_at hl 2 rfl) ?_
  refine lw_arg (w := 1) C0 hS hl dL_law_726 dL_law_727 dL_law_728 dL_law_729 dL_law_730 (by decide +kernel) (hin 1 (by decide) (by decide)) ?_
  refine lw_call C0 hK lw_e_85 lw_z_85 rfl rfl (As := [.int (xs (iv + 1).toNatClampNeg)]) (rest := [.int v]) (A := pv_em S1) rfl rfl (Nat.le_of_ble_eq_true rfl) h2 (Nat.le_of_ble_eq_true rfl) hP hS hl.1 dL_law_731 (by decide) (by decide) rfl (fun H locs hP hS => ?_)
  exact lv_icmp_eq (tgt := 1476) hx hb dL_law_734 (by decide) (fun _ => kk S2 H locs h3 hP hS) (fun q => absurd rfl q)
set_option maxHeartbeats 1000000 in
theorem lw_case_17 (C0 : lw_At p s m meth c b L xs) (hK : pv_K D ca s) (hI : ∀ a1 : Int32, pv_goI Inv S mX6_undo mX7_undo [.int a1]) (hP : pv_P s.heap.size D ca (pv_em S) H) (hS : va_S (pv_A s.heap.size) s.heap H locs) (hl : lv_has ls 4 [(0, .ref b), (1, .ref (s.heap.size + 0)), (2, .ref (s.heap.size + 37)), (3, .int iv)]) (hin : ∀ w : Int32, 1 ≤ w → w ≤ 5 → vp_in (iv + w) L)
    (kk : ∀ (S2 : pv_S) (H1 : Heap) (locs1 : List Loc), Inv S2 → pv_P s.heap.size D ca (pv_em S2) H1 → va_S (pv_A s.heap.size) s.heap H1 locs1 → W p l e room_1 s m #[Value.ref b] below meth c H1 locs1 57 3072 Q (F0 m 1476 ls [])) : W p l e room_1 s m #[Value.ref b] below meth c H locs 57 3072 Q (F0 m 739 ls []) := by
  have hx := C0.1
  have hb := C0.2.1
  obtain ⟨v, S1, S2, h1, h2, h3⟩ := hI (xs (iv + 1).toNatClampNeg)
  refine lv_aload_n hx hb dL_law_739 rfl (lv_at hl 1 rfl) ?_
  refine lw_arg (w := 1) C0 hS hl dL_law_740 dL_law_741 dL_law_742 dL_law_743 dL_law_744 (by decide +kernel) (hin 1 (by decide) (by decide)) ?_
  refine lw_call C0 hK lw_e_86 lw_z_86 rfl rfl (As := [.int (xs (iv + 1).toNatClampNeg)]) (rest := []) (A := pv_em S) rfl rfl (Nat.le_of_ble_eq_true rfl) h1 (Nat.le_of_ble_eq_true rfl) hP hS hl.1 dL_law_745 (by decide) (by decide) rfl (fun H locs hP hS => ?_)
  refine lv_aload_n hx hb dL_law_748 rfl (lv_at hl 2 rfl) ?_
  refine lw_arg (w := 1) C0 hS hl dL_law_749 dL_law_750 dL_law_751 dL_law_752 dL_law_753 (by decide +kernel) (hin 1 (by decide) (by decide)) ?_
  refine lw_call C0 hK lw_e_89 lw_z_89 rfl rfl (As := [.int (xs (iv + 1).toNatClampNeg)]) (rest := [.int v]) (A := pv_em S1) rfl rfl (Nat.le_of_ble_eq_true rfl) h2 (Nat.le_of_ble_eq_true rfl) hP hS hl.1 dL_law_754 (by decide) (by decide) rfl (fun H locs hP hS => ?_)
  exact lv_icmp_eq (tgt := 1476) hx hb dL_law_757 (by decide) (fun _ => kk S2 H locs h3 hP hS) (fun q => absurd rfl q)
set_option maxHeartbeats 1000000 in
theorem lw_case_18 (C0 : lw_At p s m meth c b L xs) (hK : pv_K D ca s) (hI : ∀ a1 : Int32, pv_goI Inv S mX6_keep mX7_keep [.int a1]) (hP : pv_P s.heap.size D ca (pv_em S) H) (hS : va_S (pv_A s.heap.size) s.heap H locs) (hl : lv_has ls 4 [(0, .ref b), (1, .ref (s.heap.size + 0)), (2, .ref (s.heap.size + 37)), (3, .int iv)]) (hin : ∀ w : Int32, 1 ≤ w → w ≤ 5 → vp_in (iv + w) L)
    (kk : ∀ (S2 : pv_S) (H1 : Heap) (locs1 : List Loc), Inv S2 → pv_P s.heap.size D ca (pv_em S2) H1 → va_S (pv_A s.heap.size) s.heap H1 locs1 → W p l e room_1 s m #[Value.ref b] below meth c H1 locs1 57 3072 Q (F0 m 1476 ls [])) : W p l e room_1 s m #[Value.ref b] below meth c H locs 57 3072 Q (F0 m 762 ls []) := by
  have hx := C0.1
  have hb := C0.2.1
  obtain ⟨v, S1, S2, h1, h2, h3⟩ := hI (xs (iv + 1).toNatClampNeg)
  refine lv_aload_n hx hb dL_law_762 rfl (lv_at hl 1 rfl) ?_
  refine lw_arg (w := 1) C0 hS hl dL_law_763 dL_law_764 dL_law_765 dL_law_766 dL_law_767 (by decide +kernel) (hin 1 (by decide) (by decide)) ?_
  refine lw_call C0 hK lw_e_90 lw_z_90 rfl rfl (As := [.int (xs (iv + 1).toNatClampNeg)]) (rest := []) (A := pv_em S) rfl rfl (Nat.le_of_ble_eq_true rfl) h1 (Nat.le_of_ble_eq_true rfl) hP hS hl.1 dL_law_768 (by decide) (by decide) rfl (fun H locs hP hS => ?_)
  refine lv_aload_n hx hb dL_law_771 rfl (lv_at hl 2 rfl) ?_
  refine lw_arg (w := 1) C0 hS hl dL_law_772 dL_law_773 dL_law_774 dL_law_775 dL_law_776 (by decide +kernel) (hin 1 (by decide) (by decide)) ?_
  refine lw_call C0 hK lw_e_93 lw_z_93 rfl rfl (As := [.int (xs (iv + 1).toNatClampNeg)]) (rest := [.int v]) (A := pv_em S1) rfl rfl (Nat.le_of_ble_eq_true rfl) h2 (Nat.le_of_ble_eq_true rfl) hP hS hl.1 dL_law_777 (by decide) (by decide) rfl (fun H locs hP hS => ?_)
  exact lv_icmp_eq (tgt := 1476) hx hb dL_law_780 (by decide) (fun _ => kk S2 H locs h3 hP hS) (fun q => absurd rfl q)
set_option maxHeartbeats 1000000 in
theorem lw_case_19 (C0 : lw_At p s m meth c b L xs) (hK : pv_K D ca s) (hI : ∀ a1 : Int32, pv_goI Inv S mX6_on mX7_on [.int a1]) (hP : pv_P s.heap.size D ca (pv_em S) H) (hS : va_S (pv_A s.heap.size) s.heap H locs) (hl : lv_has ls 4 [(0, .ref b), (1, .ref (s.heap.size + 0)), (2, .ref (s.heap.size + 37)), (3, .int iv)]) (hin : ∀ w : Int32, 1 ≤ w → w ≤ 5 → vp_in (iv + w) L)
    (kk : ∀ (S2 : pv_S) (H1 : Heap) (locs1 : List Loc), Inv S2 → pv_P s.heap.size D ca (pv_em S2) H1 → va_S (pv_A s.heap.size) s.heap H1 locs1 → W p l e room_1 s m #[Value.ref b] below meth c H1 locs1 57 3072 Q (F0 m 1476 ls [])) : W p l e room_1 s m #[Value.ref b] below meth c H locs 57 3072 Q (F0 m 785 ls []) := by
  have hx := C0.1
  have hb := C0.2.1
  obtain ⟨v, S1, S2, h1, h2, h3⟩ := hI (xs (iv + 1).toNatClampNeg)
  refine lv_aload_n hx hb dL_law_785 rfl (lv_at hl 1 rfl) ?_
  refine lw_arg (w := 1) C0 hS hl dL_law_786 dL_law_787 dL_law_788 dL_law_789 dL_law_790 (by decide +kernel) (hin 1 (by decide) (by decide)) ?_
  refine lw_call C0 hK lw_e_94 lw_z_94 rfl rfl (As := [.int (xs (iv + 1).toNatClampNeg)]) (rest := []) (A := pv_em S) rfl rfl (Nat.le_of_ble_eq_true rfl) h1 (Nat.le_of_ble_eq_true rfl) hP hS hl.1 dL_law_791 (by decide) (by decide) rfl (fun H locs hP hS => ?_)
  refine lv_aload_n hx hb dL_law_794 rfl (lv_at hl 2 rfl) ?_
  refine lw_arg (w := 1) C0 hS hl dL_law_795 dL_law_796 dL_law_797 dL_law_798 dL_law_799 (by decide +kernel) (hin 1 (by decide) (by decide)) ?_
  refine lw_call C0 hK lw_e_97 lw_z_97 rfl rfl (As := [.int (xs (iv + 1).toNatClampNeg)]) (rest := [.int v]) (A := pv_em S1) rfl rfl (Nat.le_of_ble_eq_true rfl) h2 (Nat.le_of_ble_eq_true rfl) hP hS hl.1 dL_law_800 (by decide) (by decide) rfl (fun H locs hP hS => ?_)
  exact lv_icmp_eq (tgt := 1476) hx hb dL_law_803 (by decide) (fun _ => kk S2 H locs h3 hP hS) (fun q => absurd rfl q)
set_option maxHeartbeats 1000000 in
theorem lw_case_20 (C0 : lw_At p s m meth c b L xs) (hK : pv_K D ca s) (hI : ∀ a1 a2 : Int32, pv_goI Inv S mX6_weighs mX7_weighs [.int a1, .int a2]) (hP : pv_P s.heap.size D ca (pv_em S) H) (hS : va_S (pv_A s.heap.size) s.heap H locs) (hl : lv_has ls 4 [(0, .ref b), (1, .ref (s.heap.size + 0)), (2, .ref (s.heap.size + 37)), (3, .int iv)]) (hin : ∀ w : Int32, 1 ≤ w → w ≤ 5 → vp_in (iv + w) L)
    (kk : ∀ (S2 : pv_S) (H1 : Heap) (locs1 : List Loc), Inv S2 → pv_P s.heap.size D ca (pv_em S2) H1 → va_S (pv_A s.heap.size) s.heap H1 locs1 → W p l e room_1 s m #[Value.ref b] below meth c H1 locs1 57 3072 Q (F0 m 1476 ls [])) : W p l e room_1 s m #[Value.ref b] below meth c H locs 57 3072 Q (F0 m 808 ls []) := by
  have hx := C0.1
  have hb := C0.2.1
  obtain ⟨v, S1, S2, h1, h2, h3⟩ := hI (xs (iv + 1).toNatClampNeg) (xs (iv + 2).toNatClampNeg)
  refine lv_aload_n hx hb dL_law_808 rfl (lv_at hl 1 rfl) ?_
  refine lw_arg (w := 1) C0 hS hl dL_law_809 dL_law_810 dL_law_811 dL_law_812 dL_law_813 (by decide +kernel) (hin 1 (by decide) (by decide)) ?_
  refine lw_arg (w := 2) C0 hS hl dL_law_814 dL_law_815 dL_law_816 dL_law_817 dL_law_818 (by decide +kernel) (hin 2 (by decide) (by decide)) ?_
  refine lw_call C0 hK lw_e_98 lw_z_98 rfl rfl (As := [.int (xs (iv + 1).toNatClampNeg), .int (xs (iv + 2).toNatClampNeg)]) (rest := []) (A := pv_em S) rfl rfl (Nat.le_of_ble_eq_true rfl) h1 (Nat.le_of_ble_eq_true rfl) hP hS hl.1 dL_law_819 (by decide) (by decide) rfl (fun H locs hP hS => ?_)
  refine lv_aload_n hx hb dL_law_822 rfl (lv_at hl 2 rfl) ?_
  refine lw_arg (w := 1) C0 hS hl dL_law_823 dL_law_824 dL_law_825 dL_law_826 dL_law_827 (by decide +kernel) (hin 1 (by decide) (by decide)) ?_
  refine lw_arg (w := 2) C0 hS hl dL_law_828 dL_law_829 dL_law_830 dL_law_831 dL_law_832 (by decide +kernel) (hin 2 (by decide) (by decide)) ?_
  refine lw_call C0 hK lw_e_101 lw_z_101 rfl rfl (As := [.int (xs (iv + 1).toNatClampNeg), .int (xs (iv + 2).toNatClampNeg)]) (rest := [.int v]) (A := pv_em S1) rfl rfl (Nat.le_of_ble_eq_true rfl) h2 (Nat.le_of_ble_eq_true rfl) hP hS hl.1 dL_law_833 (by decide) (by decide) rfl (fun H locs hP hS => ?_)
  exact lv_icmp_eq (tgt := 1476) hx hb dL_law_836 (by decide) (fun _ => kk S2 H locs h3 hP hS) (fun q => absurd rfl q)
set_option maxHeartbeats 1000000 in
theorem lw_case_21 (C0 : lw_At p s m meth c b L xs) (hK : pv_K D ca s) (hI : ∀ a1 a2 : Int32, pv_goI Inv S mX6_when mX7_when [.int a1, .int a2]) (hP : pv_P s.heap.size D ca (pv_em S) H) (hS : va_S (pv_A s.heap.size) s.heap H locs) (hl : lv_has ls 4 [(0, .ref b), (1, .ref (s.heap.size + 0)), (2, .ref (s.heap.size + 37)), (3, .int iv)]) (hin : ∀ w : Int32, 1 ≤ w → w ≤ 5 → vp_in (iv + w) L)
    (kk : ∀ (S2 : pv_S) (H1 : Heap) (locs1 : List Loc), Inv S2 → pv_P s.heap.size D ca (pv_em S2) H1 → va_S (pv_A s.heap.size) s.heap H1 locs1 → W p l e room_1 s m #[Value.ref b] below meth c H1 locs1 57 3072 Q (F0 m 1476 ls [])) : W p l e room_1 s m #[Value.ref b] below meth c H locs 57 3072 Q (F0 m 841 ls []) := by
  have hx := C0.1
  have hb := C0.2.1
  obtain ⟨v, S1, S2, h1, h2, h3⟩ := hI (xs (iv + 1).toNatClampNeg) (xs (iv + 2).toNatClampNeg)
  refine lv_aload_n hx hb dL_law_841 rfl (lv_at hl 1 rfl) ?_
  refine lw_arg (w := 1) C0 hS hl dL_law_842 dL_law_843 dL_law_844 dL_law_845 dL_law_846 (by decide +kernel) (hin 1 (by decide) (by decide)) ?_
  refine lw_arg (w := 2) C0 hS hl dL_law_847 dL_law_848 dL_law_849 dL_law_850 dL_law_851 (by decide +kernel) (hin 2 (by decide) (by decide)) ?_
  refine lw_call C0 hK lw_e_102 lw_z_102 rfl rfl (As := [.int (xs (iv + 1).toNatClampNeg), .int (xs (iv + 2).toNatClampNeg)]) (rest := []) (A := pv_em S) rfl rfl (Nat.le_of_ble_eq_true rfl) h1 (Nat.le_of_ble_eq_true rfl) hP hS hl.1 dL_law_852 (by decide) (by decide) rfl (fun H locs hP hS => ?_)
  refine lv_aload_n hx hb dL_law_855 rfl (lv_at hl 2 rfl) ?_
  refine lw_arg (w := 1) C0 hS hl dL_law_856 dL_law_857 dL_law_858 dL_law_859 dL_law_860 (by decide +kernel) (hin 1 (by decide) (by decide)) ?_
  refine lw_arg (w := 2) C0 hS hl dL_law_861 dL_law_862 dL_law_863 dL_law_864 dL_law_865 (by decide +kernel) (hin 2 (by decide) (by decide)) ?_
  refine lw_call C0 hK lw_e_105 lw_z_105 rfl rfl (As := [.int (xs (iv + 1).toNatClampNeg), .int (xs (iv + 2).toNatClampNeg)]) (rest := [.int v]) (A := pv_em S1) rfl rfl (Nat.le_of_ble_eq_true rfl) h2 (Nat.le_of_ble_eq_true rfl) hP hS hl.1 dL_law_866 (by decide) (by decide) rfl (fun H locs hP hS => ?_)
  exact lv_icmp_eq (tgt := 1476) hx hb dL_law_869 (by decide) (fun _ => kk S2 H locs h3 hP hS) (fun q => absurd rfl q)
set_option maxHeartbeats 1000000 in
theorem lw_case_22 (C0 : lw_At p s m meth c b L xs) (hK : pv_K D ca s) (hI : ∀ a1 : Int32, pv_goI Inv S mX6_steady mX7_steady [.int a1]) (hP : pv_P s.heap.size D ca (pv_em S) H) (hS : va_S (pv_A s.heap.size) s.heap H locs) (hl : lv_has ls 4 [(0, .ref b), (1, .ref (s.heap.size + 0)), (2, .ref (s.heap.size + 37)), (3, .int iv)]) (hin : ∀ w : Int32, 1 ≤ w → w ≤ 5 → vp_in (iv + w) L)
    (kk : ∀ (S2 : pv_S) (H1 : Heap) (locs1 : List Loc), Inv S2 → pv_P s.heap.size D ca (pv_em S2) H1 → va_S (pv_A s.heap.size) s.heap H1 locs1 → W p l e room_1 s m #[Value.ref b] below meth c H1 locs1 57 3072 Q (F0 m 1476 ls [])) : W p l e room_1 s m #[Value.ref b] below meth c H locs 57 3072 Q (F0 m 874 ls []) := by
  have hx := C0.1
  have hb := C0.2.1
  obtain ⟨v, S1, S2, h1, h2, h3⟩ := hI (xs (iv + 1).toNatClampNeg)
  refine lv_aload_n hx hb dL_law_874 rfl (lv_at hl 1 rfl) ?_
  refine lw_arg (w := 1) C0 hS hl dL_law_875 dL_law_876 dL_law_877 dL_law_878 dL_law_879 (by decide +kernel) (hin 1 (by decide) (by decide)) ?_
  refine lw_call C0 hK lw_e_106 lw_z_106 rfl rfl (As := [.int (xs (iv + 1).toNatClampNeg)]) (rest := []) (A := pv_em S) rfl rfl (Nat.le_of_ble_eq_true rfl) h1 (Nat.le_of_ble_eq_true rfl) hP hS hl.1 dL_law_880 (by decide) (by decide) rfl (fun H locs hP hS => ?_)
  refine lv_aload_n hx hb dL_law_883 rfl (lv_at hl 2 rfl) ?_
  refine lw_arg (w := 1) C0 hS hl dL_law_884 dL_law_885 dL_law_886 dL_law_887 dL_law_888 (by decide +kernel) (hin 1 (by decide) (by decide)) ?_
  refine lw_call C0 hK lw_e_109 lw_z_109 rfl rfl (As := [.int (xs (iv + 1).toNatClampNeg)]) (rest := [.int v]) (A := pv_em S1) rfl rfl (Nat.le_of_ble_eq_true rfl) h2 (Nat.le_of_ble_eq_true rfl) hP hS hl.1 dL_law_889 (by decide) (by decide) rfl (fun H locs hP hS => ?_)
  exact lv_icmp_eq (tgt := 1476) hx hb dL_law_892 (by decide) (fun _ => kk S2 H locs h3 hP hS) (fun q => absurd rfl q)
set_option maxHeartbeats 1000000 in
theorem lw_case_23 (C0 : lw_At p s m meth c b L xs) (hK : pv_K D ca s) (hI : ∀ a1 a2 a3 : Int32, pv_goI Inv S mX6_meals mX7_meals [.int a1, .int a2, .int a3]) (hP : pv_P s.heap.size D ca (pv_em S) H) (hS : va_S (pv_A s.heap.size) s.heap H locs) (hl : lv_has ls 4 [(0, .ref b), (1, .ref (s.heap.size + 0)), (2, .ref (s.heap.size + 37)), (3, .int iv)]) (hin : ∀ w : Int32, 1 ≤ w → w ≤ 5 → vp_in (iv + w) L)
    (kk : ∀ (S2 : pv_S) (H1 : Heap) (locs1 : List Loc), Inv S2 → pv_P s.heap.size D ca (pv_em S2) H1 → va_S (pv_A s.heap.size) s.heap H1 locs1 → W p l e room_1 s m #[Value.ref b] below meth c H1 locs1 57 3072 Q (F0 m 1476 ls [])) : W p l e room_1 s m #[Value.ref b] below meth c H locs 57 3072 Q (F0 m 897 ls []) := by
  have hx := C0.1
  have hb := C0.2.1
  obtain ⟨v, S1, S2, h1, h2, h3⟩ := hI (xs (iv + 1).toNatClampNeg) (xs (iv + 2).toNatClampNeg) (xs (iv + 3).toNatClampNeg)
  refine lv_aload_n hx hb dL_law_897 rfl (lv_at hl 1 rfl) ?_
  refine lw_arg (w := 1) C0 hS hl dL_law_898 dL_law_899 dL_law_900 dL_law_901 dL_law_902 (by decide +kernel) (hin 1 (by decide) (by decide)) ?_
  refine lw_arg (w := 2) C0 hS hl dL_law_903 dL_law_904 dL_law_905 dL_law_906 dL_law_907 (by decide +kernel) (hin 2 (by decide) (by decide)) ?_
  refine lw_arg (w := 3) C0 hS hl dL_law_908 dL_law_909 dL_law_910 dL_law_911 dL_law_912 (by decide +kernel) (hin 3 (by decide) (by decide)) ?_
  refine lw_call C0 hK lw_e_110 lw_z_110 rfl rfl (As := [.int (xs (iv + 1).toNatClampNeg), .int (xs (iv + 2).toNatClampNeg), .int (xs (iv + 3).toNatClampNeg)]) (rest := []) (A := pv_em S) rfl rfl (Nat.le_of_ble_eq_true rfl) h1 (Nat.le_of_ble_eq_true rfl) hP hS hl.1 dL_law_913 (by decide) (by decide) rfl (fun H locs hP hS => ?_)
  refine lv_aload_n hx hb dL_law_916 rfl (lv_at hl 2 rfl) ?_
  refine lw_arg (w := 1) C0 hS hl dL_law_917 dL_law_918 dL_law_919 dL_law_920 dL_law_921 (by decide +kernel) (hin 1 (by decide) (by decide)) ?_
  refine lw_arg (w := 2) C0 hS hl dL_law_922 dL_law_923 dL_law_924 dL_law_925 dL_law_926 (by decide +kernel) (hin 2 (by decide) (by decide)) ?_
  refine lw_arg (w := 3) C0 hS hl dL_law_927 dL_law_928 dL_law_929 dL_law_930 dL_law_931 (by decide +kernel) (hin 3 (by decide) (by decide)) ?_
  refine lw_call C0 hK lw_e_113 lw_z_113 rfl rfl (As := [.int (xs (iv + 1).toNatClampNeg), .int (xs (iv + 2).toNatClampNeg), .int (xs (iv + 3).toNatClampNeg)]) (rest := [.int v]) (A := pv_em S1) rfl rfl (Nat.le_of_ble_eq_true rfl) h2 (Nat.le_of_ble_eq_true rfl) hP hS hl.1 dL_law_932 (by decide) (by decide) rfl (fun H locs hP hS => ?_)
  exact lv_icmp_eq (tgt := 1476) hx hb dL_law_935 (by decide) (fun _ => kk S2 H locs h3 hP hS) (fun q => absurd rfl q)
set_option maxHeartbeats 1000000 in
theorem lw_case_24 (C0 : lw_At p s m meth c b L xs) (hK : pv_K D ca s) (hI : ∀ a1 a2 : Int32, pv_goI Inv S mX6_gain mX7_gain [.int a1, .int a2]) (hP : pv_P s.heap.size D ca (pv_em S) H) (hS : va_S (pv_A s.heap.size) s.heap H locs) (hl : lv_has ls 4 [(0, .ref b), (1, .ref (s.heap.size + 0)), (2, .ref (s.heap.size + 37)), (3, .int iv)]) (hin : ∀ w : Int32, 1 ≤ w → w ≤ 5 → vp_in (iv + w) L)
    (kk : ∀ (S2 : pv_S) (H1 : Heap) (locs1 : List Loc), Inv S2 → pv_P s.heap.size D ca (pv_em S2) H1 → va_S (pv_A s.heap.size) s.heap H1 locs1 → W p l e room_1 s m #[Value.ref b] below meth c H1 locs1 57 3072 Q (F0 m 1476 ls [])) : W p l e room_1 s m #[Value.ref b] below meth c H locs 57 3072 Q (F0 m 940 ls []) := by
  have hx := C0.1
  have hb := C0.2.1
  obtain ⟨v, S1, S2, h1, h2, h3⟩ := hI (xs (iv + 1).toNatClampNeg) (xs (iv + 2).toNatClampNeg)
  refine lv_aload_n hx hb dL_law_940 rfl (lv_at hl 1 rfl) ?_
  refine lw_arg (w := 1) C0 hS hl dL_law_941 dL_law_942 dL_law_943 dL_law_944 dL_law_945 (by decide +kernel) (hin 1 (by decide) (by decide)) ?_
  refine lw_arg (w := 2) C0 hS hl dL_law_946 dL_law_947 dL_law_948 dL_law_949 dL_law_950 (by decide +kernel) (hin 2 (by decide) (by decide)) ?_
  refine lw_call C0 hK lw_e_114 lw_z_114 rfl rfl (As := [.int (xs (iv + 1).toNatClampNeg), .int (xs (iv + 2).toNatClampNeg)]) (rest := []) (A := pv_em S) rfl rfl (Nat.le_of_ble_eq_true rfl) h1 (Nat.le_of_ble_eq_true rfl) hP hS hl.1 dL_law_951 (by decide) (by decide) rfl (fun H locs hP hS => ?_)
  refine lv_aload_n hx hb dL_law_954 rfl (lv_at hl 2 rfl) ?_
  refine lw_arg (w := 1) C0 hS hl dL_law_955 dL_law_956 dL_law_957 dL_law_958 dL_law_959 (by decide +kernel) (hin 1 (by decide) (by decide)) ?_
  refine lw_arg (w := 2) C0 hS hl dL_law_960 dL_law_961 dL_law_962 dL_law_963 dL_law_964 (by decide +kernel) (hin 2 (by decide) (by decide)) ?_
  refine lw_call C0 hK lw_e_117 lw_z_117 rfl rfl (As := [.int (xs (iv + 1).toNatClampNeg), .int (xs (iv + 2).toNatClampNeg)]) (rest := [.int v]) (A := pv_em S1) rfl rfl (Nat.le_of_ble_eq_true rfl) h2 (Nat.le_of_ble_eq_true rfl) hP hS hl.1 dL_law_965 (by decide) (by decide) rfl (fun H locs hP hS => ?_)
  exact lv_icmp_eq (tgt := 1476) hx hb dL_law_968 (by decide) (fun _ => kk S2 H locs h3 hP hS) (fun q => absurd rfl q)
set_option maxHeartbeats 1000000 in
theorem lw_case_25 (C0 : lw_At p s m meth c b L xs) (hK : pv_K D ca s) (hI : ∀ a1 : Int32, pv_goI Inv S mX6_ring mX7_ring [.int a1]) (hP : pv_P s.heap.size D ca (pv_em S) H) (hS : va_S (pv_A s.heap.size) s.heap H locs) (hl : lv_has ls 4 [(0, .ref b), (1, .ref (s.heap.size + 0)), (2, .ref (s.heap.size + 37)), (3, .int iv)]) (hin : ∀ w : Int32, 1 ≤ w → w ≤ 5 → vp_in (iv + w) L)
    (kk : ∀ (S2 : pv_S) (H1 : Heap) (locs1 : List Loc), Inv S2 → pv_P s.heap.size D ca (pv_em S2) H1 → va_S (pv_A s.heap.size) s.heap H1 locs1 → W p l e room_1 s m #[Value.ref b] below meth c H1 locs1 57 3072 Q (F0 m 1476 ls [])) : W p l e room_1 s m #[Value.ref b] below meth c H locs 57 3072 Q (F0 m 973 ls []) := by
  have hx := C0.1
  have hb := C0.2.1
  obtain ⟨v, S1, S2, h1, h2, h3⟩ := hI (xs (iv + 1).toNatClampNeg)
  refine lv_aload_n hx hb dL_law_973 rfl (lv_at hl 1 rfl) ?_
  refine lw_arg (w := 1) C0 hS hl dL_law_974 dL_law_975 dL_law_976 dL_law_977 dL_law_978 (by decide +kernel) (hin 1 (by decide) (by decide)) ?_
  refine lw_call C0 hK lw_e_118 lw_z_118 rfl rfl (As := [.int (xs (iv + 1).toNatClampNeg)]) (rest := []) (A := pv_em S) rfl rfl (Nat.le_of_ble_eq_true rfl) h1 (Nat.le_of_ble_eq_true rfl) hP hS hl.1 dL_law_979 (by decide) (by decide) rfl (fun H locs hP hS => ?_)
  refine lv_aload_n hx hb dL_law_982 rfl (lv_at hl 2 rfl) ?_
  refine lw_arg (w := 1) C0 hS hl dL_law_983 dL_law_984 dL_law_985 dL_law_986 dL_law_987 (by decide +kernel) (hin 1 (by decide) (by decide)) ?_
  refine lw_call C0 hK lw_e_121 lw_z_121 rfl rfl (As := [.int (xs (iv + 1).toNatClampNeg)]) (rest := [.int v]) (A := pv_em S1) rfl rfl (Nat.le_of_ble_eq_true rfl) h2 (Nat.le_of_ble_eq_true rfl) hP hS hl.1 dL_law_988 (by decide) (by decide) rfl (fun H locs hP hS => ?_)
  exact lv_icmp_eq (tgt := 1476) hx hb dL_law_991 (by decide) (fun _ => kk S2 H locs h3 hP hS) (fun q => absurd rfl q)
set_option maxHeartbeats 1000000 in
theorem lw_case_26 (C0 : lw_At p s m meth c b L xs) (hK : pv_K D ca s) (hI : ∀ a1 a2 : Int32, pv_goI Inv S mX6_plan mX7_plan [.int a1, .int a2]) (hP : pv_P s.heap.size D ca (pv_em S) H) (hS : va_S (pv_A s.heap.size) s.heap H locs) (hl : lv_has ls 4 [(0, .ref b), (1, .ref (s.heap.size + 0)), (2, .ref (s.heap.size + 37)), (3, .int iv)]) (hin : ∀ w : Int32, 1 ≤ w → w ≤ 5 → vp_in (iv + w) L)
    (kk : ∀ (S2 : pv_S) (H1 : Heap) (locs1 : List Loc), Inv S2 → pv_P s.heap.size D ca (pv_em S2) H1 → va_S (pv_A s.heap.size) s.heap H1 locs1 → W p l e room_1 s m #[Value.ref b] below meth c H1 locs1 57 3072 Q (F0 m 1476 ls [])) : W p l e room_1 s m #[Value.ref b] below meth c H locs 57 3072 Q (F0 m 996 ls []) := by
  have hx := C0.1
  have hb := C0.2.1
  obtain ⟨v, S1, S2, h1, h2, h3⟩ := hI (xs (iv + 1).toNatClampNeg) (xs (iv + 2).toNatClampNeg)
  refine lv_aload_n hx hb dL_law_996 rfl (lv_at hl 1 rfl) ?_
  refine lw_arg (w := 1) C0 hS hl dL_law_997 dL_law_998 dL_law_999 dL_law_1000 dL_law_1001 (by decide +kernel) (hin 1 (by decide) (by decide)) ?_
  refine lw_arg (w := 2) C0 hS hl dL_law_1002 dL_law_1003 dL_law_1004 dL_law_1005 dL_law_1006 (by decide +kernel) (hin 2 (by decide) (by decide)) ?_
  refine lw_call C0 hK lw_e_122 lw_z_122 rfl rfl (As := [.int (xs (iv + 1).toNatClampNeg), .int (xs (iv + 2).toNatClampNeg)]) (rest := []) (A := pv_em S) rfl rfl (Nat.le_of_ble_eq_true rfl) h1 (Nat.le_of_ble_eq_true rfl) hP hS hl.1 dL_law_1007 (by decide) (by decide) rfl (fun H locs hP hS => ?_)
  refine lv_aload_n hx hb dL_law_1010 rfl (lv_at hl 2 rfl) ?_
  refine lw_arg (w := 1) C0 hS hl dL_law_1011 dL_law_1012 dL_law_1013 dL_law_1014 dL_law_1015 (by decide +kernel) (hin 1 (by decide) (by decide)) ?_
  refine lw_arg (w := 2) C0 hS hl dL_law_1016 dL_law_1017 dL_law_1018 dL_law_1019 dL_law_1020 (by decide +kernel) (hin 2 (by decide) (by decide)) ?_
  refine lw_call C0 hK lw_e_125 lw_z_125 rfl rfl (As := [.int (xs (iv + 1).toNatClampNeg), .int (xs (iv + 2).toNatClampNeg)]) (rest := [.int v]) (A := pv_em S1) rfl rfl (Nat.le_of_ble_eq_true rfl) h2 (Nat.le_of_ble_eq_true rfl) hP hS hl.1 dL_law_1021 (by decide) (by decide) rfl (fun H locs hP hS => ?_)
  exact lv_icmp_eq (tgt := 1476) hx hb dL_law_1024 (by decide) (fun _ => kk S2 H locs h3 hP hS) (fun q => absurd rfl q)
set_option maxHeartbeats 1000000 in
theorem lw_case_27 (C0 : lw_At p s m meth c b L xs) (hK : pv_K D ca s) (hI : ∀ a1 : Int32, pv_goI Inv S mX6_sacks mX7_sacks [.int a1]) (hP : pv_P s.heap.size D ca (pv_em S) H) (hS : va_S (pv_A s.heap.size) s.heap H locs) (hl : lv_has ls 4 [(0, .ref b), (1, .ref (s.heap.size + 0)), (2, .ref (s.heap.size + 37)), (3, .int iv)]) (hin : ∀ w : Int32, 1 ≤ w → w ≤ 5 → vp_in (iv + w) L)
    (kk : ∀ (S2 : pv_S) (H1 : Heap) (locs1 : List Loc), Inv S2 → pv_P s.heap.size D ca (pv_em S2) H1 → va_S (pv_A s.heap.size) s.heap H1 locs1 → W p l e room_1 s m #[Value.ref b] below meth c H1 locs1 57 3072 Q (F0 m 1476 ls [])) : W p l e room_1 s m #[Value.ref b] below meth c H locs 57 3072 Q (F0 m 1029 ls []) := by
  have hx := C0.1
  have hb := C0.2.1
  obtain ⟨v, S1, S2, h1, h2, h3⟩ := hI (xs (iv + 1).toNatClampNeg)
  refine lv_aload_n hx hb dL_law_1029 rfl (lv_at hl 1 rfl) ?_
  refine lw_arg (w := 1) C0 hS hl dL_law_1030 dL_law_1031 dL_law_1032 dL_law_1033 dL_law_1034 (by decide +kernel) (hin 1 (by decide) (by decide)) ?_
  refine lw_call C0 hK lw_e_126 lw_z_126 rfl rfl (As := [.int (xs (iv + 1).toNatClampNeg)]) (rest := []) (A := pv_em S) rfl rfl (Nat.le_of_ble_eq_true rfl) h1 (Nat.le_of_ble_eq_true rfl) hP hS hl.1 dL_law_1035 (by decide) (by decide) rfl (fun H locs hP hS => ?_)
  refine lv_aload_n hx hb dL_law_1038 rfl (lv_at hl 2 rfl) ?_
  refine lw_arg (w := 1) C0 hS hl dL_law_1039 dL_law_1040 dL_law_1041 dL_law_1042 dL_law_1043 (by decide +kernel) (hin 1 (by decide) (by decide)) ?_
  refine lw_call C0 hK lw_e_129 lw_z_129 rfl rfl (As := [.int (xs (iv + 1).toNatClampNeg)]) (rest := [.int v]) (A := pv_em S1) rfl rfl (Nat.le_of_ble_eq_true rfl) h2 (Nat.le_of_ble_eq_true rfl) hP hS hl.1 dL_law_1044 (by decide) (by decide) rfl (fun H locs hP hS => ?_)
  exact lv_icmp_eq (tgt := 1476) hx hb dL_law_1047 (by decide) (fun _ => kk S2 H locs h3 hP hS) (fun q => absurd rfl q)
set_option maxHeartbeats 1000000 in
theorem lw_case_28 (C0 : lw_At p s m meth c b L xs) (hK : pv_K D ca s) (hI : ∀ a1 : Int32, pv_goI Inv S mX6_sure mX7_sure [.int a1]) (hP : pv_P s.heap.size D ca (pv_em S) H) (hS : va_S (pv_A s.heap.size) s.heap H locs) (hl : lv_has ls 4 [(0, .ref b), (1, .ref (s.heap.size + 0)), (2, .ref (s.heap.size + 37)), (3, .int iv)]) (hin : ∀ w : Int32, 1 ≤ w → w ≤ 5 → vp_in (iv + w) L)
    (kk : ∀ (S2 : pv_S) (H1 : Heap) (locs1 : List Loc), Inv S2 → pv_P s.heap.size D ca (pv_em S2) H1 → va_S (pv_A s.heap.size) s.heap H1 locs1 → W p l e room_1 s m #[Value.ref b] below meth c H1 locs1 57 3072 Q (F0 m 1476 ls [])) : W p l e room_1 s m #[Value.ref b] below meth c H locs 57 3072 Q (F0 m 1052 ls []) := by
  have hx := C0.1
  have hb := C0.2.1
  obtain ⟨v, S1, S2, h1, h2, h3⟩ := hI (xs (iv + 1).toNatClampNeg)
  refine lv_aload_n hx hb dL_law_1052 rfl (lv_at hl 1 rfl) ?_
  refine lw_arg (w := 1) C0 hS hl dL_law_1053 dL_law_1054 dL_law_1055 dL_law_1056 dL_law_1057 (by decide +kernel) (hin 1 (by decide) (by decide)) ?_
  refine lw_call C0 hK lw_e_130 lw_z_130 rfl rfl (As := [.int (xs (iv + 1).toNatClampNeg)]) (rest := []) (A := pv_em S) rfl rfl (Nat.le_of_ble_eq_true rfl) h1 (Nat.le_of_ble_eq_true rfl) hP hS hl.1 dL_law_1058 (by decide) (by decide) rfl (fun H locs hP hS => ?_)
  refine lv_aload_n hx hb dL_law_1061 rfl (lv_at hl 2 rfl) ?_
  refine lw_arg (w := 1) C0 hS hl dL_law_1062 dL_law_1063 dL_law_1064 dL_law_1065 dL_law_1066 (by decide +kernel) (hin 1 (by decide) (by decide)) ?_
  refine lw_call C0 hK lw_e_133 lw_z_133 rfl rfl (As := [.int (xs (iv + 1).toNatClampNeg)]) (rest := [.int v]) (A := pv_em S1) rfl rfl (Nat.le_of_ble_eq_true rfl) h2 (Nat.le_of_ble_eq_true rfl) hP hS hl.1 dL_law_1067 (by decide) (by decide) rfl (fun H locs hP hS => ?_)
  exact lv_icmp_eq (tgt := 1476) hx hb dL_law_1070 (by decide) (fun _ => kk S2 H locs h3 hP hS) (fun q => absurd rfl q)
set_option maxHeartbeats 1000000 in
theorem lw_case_29 (C0 : lw_At p s m meth c b L xs) (hK : pv_K D ca s) (hI : ∀ a1 : Int32, pv_goI Inv S mX6_ask mX7_ask [.int a1]) (hP : pv_P s.heap.size D ca (pv_em S) H) (hS : va_S (pv_A s.heap.size) s.heap H locs) (hl : lv_has ls 4 [(0, .ref b), (1, .ref (s.heap.size + 0)), (2, .ref (s.heap.size + 37)), (3, .int iv)]) (hin : ∀ w : Int32, 1 ≤ w → w ≤ 5 → vp_in (iv + w) L)
    (kk : ∀ (S2 : pv_S) (H1 : Heap) (locs1 : List Loc), Inv S2 → pv_P s.heap.size D ca (pv_em S2) H1 → va_S (pv_A s.heap.size) s.heap H1 locs1 → W p l e room_1 s m #[Value.ref b] below meth c H1 locs1 57 3072 Q (F0 m 1476 ls [])) : W p l e room_1 s m #[Value.ref b] below meth c H locs 57 3072 Q (F0 m 1075 ls []) := by
  have hx := C0.1
  have hb := C0.2.1
  obtain ⟨v, S1, S2, h1, h2, h3⟩ := hI (xs (iv + 1).toNatClampNeg)
  refine lv_aload_n hx hb dL_law_1075 rfl (lv_at hl 1 rfl) ?_
  refine lw_arg (w := 1) C0 hS hl dL_law_1076 dL_law_1077 dL_law_1078 dL_law_1079 dL_law_1080 (by decide +kernel) (hin 1 (by decide) (by decide)) ?_
  refine lw_call C0 hK lw_e_134 lw_z_134 rfl rfl (As := [.int (xs (iv + 1).toNatClampNeg)]) (rest := []) (A := pv_em S) rfl rfl (Nat.le_of_ble_eq_true rfl) h1 (Nat.le_of_ble_eq_true rfl) hP hS hl.1 dL_law_1081 (by decide) (by decide) rfl (fun H locs hP hS => ?_)
  refine lv_aload_n hx hb dL_law_1084 rfl (lv_at hl 2 rfl) ?_
  refine lw_arg (w := 1) C0 hS hl dL_law_1085 dL_law_1086 dL_law_1087 dL_law_1088 dL_law_1089 (by decide +kernel) (hin 1 (by decide) (by decide)) ?_
  refine lw_call C0 hK lw_e_137 lw_z_137 rfl rfl (As := [.int (xs (iv + 1).toNatClampNeg)]) (rest := [.int v]) (A := pv_em S1) rfl rfl (Nat.le_of_ble_eq_true rfl) h2 (Nat.le_of_ble_eq_true rfl) hP hS hl.1 dL_law_1090 (by decide) (by decide) rfl (fun H locs hP hS => ?_)
  exact lv_icmp_eq (tgt := 1476) hx hb dL_law_1093 (by decide) (fun _ => kk S2 H locs h3 hP hS) (fun q => absurd rfl q)
set_option maxHeartbeats 1000000 in
theorem lw_case_30 (C0 : lw_At p s m meth c b L xs) (hK : pv_K D ca s) (hI : ∀ a1 a2 : Int32, pv_goI Inv S mX6_kinds mX7_kinds [.int a1, .int a2]) (hP : pv_P s.heap.size D ca (pv_em S) H) (hS : va_S (pv_A s.heap.size) s.heap H locs) (hl : lv_has ls 4 [(0, .ref b), (1, .ref (s.heap.size + 0)), (2, .ref (s.heap.size + 37)), (3, .int iv)]) (hin : ∀ w : Int32, 1 ≤ w → w ≤ 5 → vp_in (iv + w) L)
    (kk : ∀ (S2 : pv_S) (H1 : Heap) (locs1 : List Loc), Inv S2 → pv_P s.heap.size D ca (pv_em S2) H1 → va_S (pv_A s.heap.size) s.heap H1 locs1 → W p l e room_1 s m #[Value.ref b] below meth c H1 locs1 57 3072 Q (F0 m 1476 ls [])) : W p l e room_1 s m #[Value.ref b] below meth c H locs 57 3072 Q (F0 m 1098 ls []) := by
  have hx := C0.1
  have hb := C0.2.1
  obtain ⟨v, S1, S2, h1, h2, h3⟩ := hI (xs (iv + 1).toNatClampNeg) (xs (iv + 2).toNatClampNeg)
  refine lv_aload_n hx hb dL_law_1098 rfl (lv_at hl 1 rfl) ?_
  refine lw_arg (w := 1) C0 hS hl dL_law_1099 dL_law_1100 dL_law_1101 dL_law_1102 dL_law_1103 (by decide +kernel) (hin 1 (by decide) (by decide)) ?_
  refine lw_arg (w := 2) C0 hS hl dL_law_1104 dL_law_1105 dL_law_1106 dL_law_1107 dL_law_1108 (by decide +kernel) (hin 2 (by decide) (by decide)) ?_
  refine lw_call C0 hK lw_e_138 lw_z_138 rfl rfl (As := [.int (xs (iv + 1).toNatClampNeg), .int (xs (iv + 2).toNatClampNeg)]) (rest := []) (A := pv_em S) rfl rfl (Nat.le_of_ble_eq_true rfl) h1 (Nat.le_of_ble_eq_true rfl) hP hS hl.1 dL_law_1109 (by decide) (by decide) rfl (fun H locs hP hS => ?_)
  refine lv_aload_n hx hb dL_law_1112 rfl (lv_at hl 2 rfl) ?_
  refine lw_arg (w := 1) C0 hS hl dL_law_1113 dL_law_1114 dL_law_1115 dL_law_1116 dL_law_1117 (by decide +kernel) (hin 1 (by decide) (by decide)) ?_
  refine lw_arg (w := 2) C0 hS hl dL_law_1118 dL_law_1119 dL_law_1120 dL_law_1121 dL_law_1122 (by decide +kernel) (hin 2 (by decide) (by decide)) ?_
  refine lw_call C0 hK lw_e_141 lw_z_141 rfl rfl (As := [.int (xs (iv + 1).toNatClampNeg), .int (xs (iv + 2).toNatClampNeg)]) (rest := [.int v]) (A := pv_em S1) rfl rfl (Nat.le_of_ble_eq_true rfl) h2 (Nat.le_of_ble_eq_true rfl) hP hS hl.1 dL_law_1123 (by decide) (by decide) rfl (fun H locs hP hS => ?_)
  exact lv_icmp_eq (tgt := 1476) hx hb dL_law_1126 (by decide) (fun _ => kk S2 H locs h3 hP hS) (fun q => absurd rfl q)
set_option maxHeartbeats 1000000 in
theorem lw_case_31 (C0 : lw_At p s m meth c b L xs) (hK : pv_K D ca s) (hI : ∀ a1 a2 : Int32, pv_goI Inv S mX6_weights mX7_weights [.int a1, .int a2]) (hP : pv_P s.heap.size D ca (pv_em S) H) (hS : va_S (pv_A s.heap.size) s.heap H locs) (hl : lv_has ls 4 [(0, .ref b), (1, .ref (s.heap.size + 0)), (2, .ref (s.heap.size + 37)), (3, .int iv)]) (hin : ∀ w : Int32, 1 ≤ w → w ≤ 5 → vp_in (iv + w) L)
    (kk : ∀ (S2 : pv_S) (H1 : Heap) (locs1 : List Loc), Inv S2 → pv_P s.heap.size D ca (pv_em S2) H1 → va_S (pv_A s.heap.size) s.heap H1 locs1 → W p l e room_1 s m #[Value.ref b] below meth c H1 locs1 57 3072 Q (F0 m 1476 ls [])) : W p l e room_1 s m #[Value.ref b] below meth c H locs 57 3072 Q (F0 m 1131 ls []) := by
  have hx := C0.1
  have hb := C0.2.1
  obtain ⟨v, S1, S2, h1, h2, h3⟩ := hI (xs (iv + 1).toNatClampNeg) (xs (iv + 2).toNatClampNeg)
  refine lv_aload_n hx hb dL_law_1131 rfl (lv_at hl 1 rfl) ?_
  refine lw_arg (w := 1) C0 hS hl dL_law_1132 dL_law_1133 dL_law_1134 dL_law_1135 dL_law_1136 (by decide +kernel) (hin 1 (by decide) (by decide)) ?_
  refine lw_arg (w := 2) C0 hS hl dL_law_1137 dL_law_1138 dL_law_1139 dL_law_1140 dL_law_1141 (by decide +kernel) (hin 2 (by decide) (by decide)) ?_
  refine lw_call C0 hK lw_e_142 lw_z_142 rfl rfl (As := [.int (xs (iv + 1).toNatClampNeg), .int (xs (iv + 2).toNatClampNeg)]) (rest := []) (A := pv_em S) rfl rfl (Nat.le_of_ble_eq_true rfl) h1 (Nat.le_of_ble_eq_true rfl) hP hS hl.1 dL_law_1142 (by decide) (by decide) rfl (fun H locs hP hS => ?_)
  refine lv_aload_n hx hb dL_law_1145 rfl (lv_at hl 2 rfl) ?_
  refine lw_arg (w := 1) C0 hS hl dL_law_1146 dL_law_1147 dL_law_1148 dL_law_1149 dL_law_1150 (by decide +kernel) (hin 1 (by decide) (by decide)) ?_
  refine lw_arg (w := 2) C0 hS hl dL_law_1151 dL_law_1152 dL_law_1153 dL_law_1154 dL_law_1155 (by decide +kernel) (hin 2 (by decide) (by decide)) ?_
  refine lw_call C0 hK lw_e_145 lw_z_145 rfl rfl (As := [.int (xs (iv + 1).toNatClampNeg), .int (xs (iv + 2).toNatClampNeg)]) (rest := [.int v]) (A := pv_em S1) rfl rfl (Nat.le_of_ble_eq_true rfl) h2 (Nat.le_of_ble_eq_true rfl) hP hS hl.1 dL_law_1156 (by decide) (by decide) rfl (fun H locs hP hS => ?_)
  exact lv_icmp_eq (tgt := 1476) hx hb dL_law_1159 (by decide) (fun _ => kk S2 H locs h3 hP hS) (fun q => absurd rfl q)
set_option maxHeartbeats 1000000 in
theorem lw_case_32 (C0 : lw_At p s m meth c b L xs) (hK : pv_K D ca s) (hI : ∀ a1 a2 : Int32, pv_goI Inv S mX6_test mX7_test [.int a1, .int a2]) (hP : pv_P s.heap.size D ca (pv_em S) H) (hS : va_S (pv_A s.heap.size) s.heap H locs) (hl : lv_has ls 4 [(0, .ref b), (1, .ref (s.heap.size + 0)), (2, .ref (s.heap.size + 37)), (3, .int iv)]) (hin : ∀ w : Int32, 1 ≤ w → w ≤ 5 → vp_in (iv + w) L)
    (kk : ∀ (S2 : pv_S) (H1 : Heap) (locs1 : List Loc), Inv S2 → pv_P s.heap.size D ca (pv_em S2) H1 → va_S (pv_A s.heap.size) s.heap H1 locs1 → W p l e room_1 s m #[Value.ref b] below meth c H1 locs1 57 3072 Q (F0 m 1476 ls [])) : W p l e room_1 s m #[Value.ref b] below meth c H locs 57 3072 Q (F0 m 1164 ls []) := by
  have hx := C0.1
  have hb := C0.2.1
  obtain ⟨v, S1, S2, h1, h2, h3⟩ := hI (xs (iv + 1).toNatClampNeg) (xs (iv + 2).toNatClampNeg)
  refine lv_aload_n hx hb dL_law_1164 rfl (lv_at hl 1 rfl) ?_
  refine lw_arg (w := 1) C0 hS hl dL_law_1165 dL_law_1166 dL_law_1167 dL_law_1168 dL_law_1169 (by decide +kernel) (hin 1 (by decide) (by decide)) ?_
  refine lw_arg (w := 2) C0 hS hl dL_law_1170 dL_law_1171 dL_law_1172 dL_law_1173 dL_law_1174 (by decide +kernel) (hin 2 (by decide) (by decide)) ?_
  refine lw_call C0 hK lw_e_146 lw_z_146 rfl rfl (As := [.int (xs (iv + 1).toNatClampNeg), .int (xs (iv + 2).toNatClampNeg)]) (rest := []) (A := pv_em S) rfl rfl (Nat.le_of_ble_eq_true rfl) h1 (Nat.le_of_ble_eq_true rfl) hP hS hl.1 dL_law_1175 (by decide) (by decide) rfl (fun H locs hP hS => ?_)
  refine lv_aload_n hx hb dL_law_1178 rfl (lv_at hl 2 rfl) ?_
  refine lw_arg (w := 1) C0 hS hl dL_law_1179 dL_law_1180 dL_law_1181 dL_law_1182 dL_law_1183 (by decide +kernel) (hin 1 (by decide) (by decide)) ?_
  refine lw_arg (w := 2) C0 hS hl dL_law_1184 dL_law_1185 dL_law_1186 dL_law_1187 dL_law_1188 (by decide +kernel) (hin 2 (by decide) (by decide)) ?_
  refine lw_call C0 hK lw_e_149 lw_z_149 rfl rfl (As := [.int (xs (iv + 1).toNatClampNeg), .int (xs (iv + 2).toNatClampNeg)]) (rest := [.int v]) (A := pv_em S1) rfl rfl (Nat.le_of_ble_eq_true rfl) h2 (Nat.le_of_ble_eq_true rfl) hP hS hl.1 dL_law_1189 (by decide) (by decide) rfl (fun H locs hP hS => ?_)
  exact lv_icmp_eq (tgt := 1476) hx hb dL_law_1192 (by decide) (fun _ => kk S2 H locs h3 hP hS) (fun q => absurd rfl q)
set_option maxHeartbeats 1000000 in
theorem lw_case_33 (C0 : lw_At p s m meth c b L xs) (hK : pv_K D ca s) (hI : ∀ a1 : Int32, pv_goI Inv S mX6_fright mX7_fright [.int a1]) (hP : pv_P s.heap.size D ca (pv_em S) H) (hS : va_S (pv_A s.heap.size) s.heap H locs) (hl : lv_has ls 4 [(0, .ref b), (1, .ref (s.heap.size + 0)), (2, .ref (s.heap.size + 37)), (3, .int iv)]) (hin : ∀ w : Int32, 1 ≤ w → w ≤ 5 → vp_in (iv + w) L)
    (kk : ∀ (S2 : pv_S) (H1 : Heap) (locs1 : List Loc), Inv S2 → pv_P s.heap.size D ca (pv_em S2) H1 → va_S (pv_A s.heap.size) s.heap H1 locs1 → W p l e room_1 s m #[Value.ref b] below meth c H1 locs1 57 3072 Q (F0 m 1476 ls [])) : W p l e room_1 s m #[Value.ref b] below meth c H locs 57 3072 Q (F0 m 1197 ls []) := by
  have hx := C0.1
  have hb := C0.2.1
  obtain ⟨v, S1, S2, h1, h2, h3⟩ := hI (xs (iv + 1).toNatClampNeg)
  refine lv_aload_n hx hb dL_law_1197 rfl (lv_at hl 1 rfl) ?_
  refine lw_arg (w := 1) C0 hS hl dL_law_1198 dL_law_1199 dL_law_1200 dL_law_1201 dL_law_1202 (by decide +kernel) (hin 1 (by decide) (by decide)) ?_
  refine lw_call C0 hK lw_e_150 lw_z_150 rfl rfl (As := [.int (xs (iv + 1).toNatClampNeg)]) (rest := []) (A := pv_em S) rfl rfl (Nat.le_of_ble_eq_true rfl) h1 (Nat.le_of_ble_eq_true rfl) hP hS hl.1 dL_law_1203 (by decide) (by decide) rfl (fun H locs hP hS => ?_)
  refine lv_aload_n hx hb dL_law_1206 rfl (lv_at hl 2 rfl) ?_
  refine lw_arg (w := 1) C0 hS hl dL_law_1207 dL_law_1208 dL_law_1209 dL_law_1210 dL_law_1211 (by decide +kernel) (hin 1 (by decide) (by decide)) ?_
  refine lw_call C0 hK lw_e_153 lw_z_153 rfl rfl (As := [.int (xs (iv + 1).toNatClampNeg)]) (rest := [.int v]) (A := pv_em S1) rfl rfl (Nat.le_of_ble_eq_true rfl) h2 (Nat.le_of_ble_eq_true rfl) hP hS hl.1 dL_law_1212 (by decide) (by decide) rfl (fun H locs hP hS => ?_)
  exact lv_icmp_eq (tgt := 1476) hx hb dL_law_1215 (by decide) (fun _ => kk S2 H locs h3 hP hS) (fun q => absurd rfl q)
set_option maxHeartbeats 1000000 in
theorem lw_case_34 (C0 : lw_At p s m meth c b L xs) (hK : pv_K D ca s) (hI : ∀ a1 a2 a3 a4 : Int32, pv_goI Inv S mX6_odds mX7_odds [.int a1, .int a2, .int a3, .int a4]) (hP : pv_P s.heap.size D ca (pv_em S) H) (hS : va_S (pv_A s.heap.size) s.heap H locs) (hl : lv_has ls 4 [(0, .ref b), (1, .ref (s.heap.size + 0)), (2, .ref (s.heap.size + 37)), (3, .int iv)]) (hin : ∀ w : Int32, 1 ≤ w → w ≤ 5 → vp_in (iv + w) L)
    (kk : ∀ (S2 : pv_S) (H1 : Heap) (locs1 : List Loc), Inv S2 → pv_P s.heap.size D ca (pv_em S2) H1 → va_S (pv_A s.heap.size) s.heap H1 locs1 → W p l e room_1 s m #[Value.ref b] below meth c H1 locs1 57 3072 Q (F0 m 1476 ls [])) : W p l e room_1 s m #[Value.ref b] below meth c H locs 57 3072 Q (F0 m 1220 ls []) := by
  have hx := C0.1
  have hb := C0.2.1
  obtain ⟨v, S1, S2, h1, h2, h3⟩ := hI (xs (iv + 1).toNatClampNeg) (xs (iv + 2).toNatClampNeg) (xs (iv + 3).toNatClampNeg) (xs (iv + 4).toNatClampNeg)
  refine lv_aload_n hx hb dL_law_1220 rfl (lv_at hl 1 rfl) ?_
  refine lw_arg (w := 1) C0 hS hl dL_law_1221 dL_law_1222 dL_law_1223 dL_law_1224 dL_law_1225 (by decide +kernel) (hin 1 (by decide) (by decide)) ?_
  refine lw_arg (w := 2) C0 hS hl dL_law_1226 dL_law_1227 dL_law_1228 dL_law_1229 dL_law_1230 (by decide +kernel) (hin 2 (by decide) (by decide)) ?_
  refine lw_arg (w := 3) C0 hS hl dL_law_1231 dL_law_1232 dL_law_1233 dL_law_1234 dL_law_1235 (by decide +kernel) (hin 3 (by decide) (by decide)) ?_
  refine lw_arg (w := 4) C0 hS hl dL_law_1236 dL_law_1237 dL_law_1238 dL_law_1239 dL_law_1240 (by decide +kernel) (hin 4 (by decide) (by decide)) ?_
  refine lw_call C0 hK lw_e_154 lw_z_154 rfl rfl (As := [.int (xs (iv + 1).toNatClampNeg), .int (xs (iv + 2).toNatClampNeg), .int (xs (iv + 3).toNatClampNeg), .int (xs (iv + 4).toNatClampNeg)]) (rest := []) (A := pv_em S) rfl rfl (Nat.le_of_ble_eq_true rfl) h1 (Nat.le_of_ble_eq_true rfl) hP hS hl.1 dL_law_1241 (by decide) (by decide) rfl (fun H locs hP hS => ?_)
  refine lv_aload_n hx hb dL_law_1244 rfl (lv_at hl 2 rfl) ?_
  refine lw_arg (w := 1) C0 hS hl dL_law_1245 dL_law_1246 dL_law_1247 dL_law_1248 dL_law_1249 (by decide +kernel) (hin 1 (by decide) (by decide)) ?_
  refine lw_arg (w := 2) C0 hS hl dL_law_1250 dL_law_1251 dL_law_1252 dL_law_1253 dL_law_1254 (by decide +kernel) (hin 2 (by decide) (by decide)) ?_
  refine lw_arg (w := 3) C0 hS hl dL_law_1255 dL_law_1256 dL_law_1257 dL_law_1258 dL_law_1259 (by decide +kernel) (hin 3 (by decide) (by decide)) ?_
  refine lw_arg (w := 4) C0 hS hl dL_law_1260 dL_law_1261 dL_law_1262 dL_law_1263 dL_law_1264 (by decide +kernel) (hin 4 (by decide) (by decide)) ?_
  refine lw_call C0 hK lw_e_158 lw_z_158 rfl rfl (As := [.int (xs (iv + 1).toNatClampNeg), .int (xs (iv + 2).toNatClampNeg), .int (xs (iv + 3).toNatClampNeg), .int (xs (iv + 4).toNatClampNeg)]) (rest := [.int v]) (A := pv_em S1) rfl rfl (Nat.le_of_ble_eq_true rfl) h2 (Nat.le_of_ble_eq_true rfl) hP hS hl.1 dL_law_1265 (by decide) (by decide) rfl (fun H locs hP hS => ?_)
  exact lv_icmp_eq (tgt := 1476) hx hb dL_law_1268 (by decide) (fun _ => kk S2 H locs h3 hP hS) (fun q => absurd rfl q)
set_option maxHeartbeats 1000000 in
theorem lw_case_35 (C0 : lw_At p s m meth c b L xs) (hK : pv_K D ca s) (hI : ∀ a1 a2 a3 : Int32, pv_goI Inv S mX6_mid mX7_mid [.int a1, .int a2, .int a3]) (hP : pv_P s.heap.size D ca (pv_em S) H) (hS : va_S (pv_A s.heap.size) s.heap H locs) (hl : lv_has ls 4 [(0, .ref b), (1, .ref (s.heap.size + 0)), (2, .ref (s.heap.size + 37)), (3, .int iv)]) (hin : ∀ w : Int32, 1 ≤ w → w ≤ 5 → vp_in (iv + w) L)
    (kk : ∀ (S2 : pv_S) (H1 : Heap) (locs1 : List Loc), Inv S2 → pv_P s.heap.size D ca (pv_em S2) H1 → va_S (pv_A s.heap.size) s.heap H1 locs1 → W p l e room_1 s m #[Value.ref b] below meth c H1 locs1 57 3072 Q (F0 m 1476 ls [])) : W p l e room_1 s m #[Value.ref b] below meth c H locs 57 3072 Q (F0 m 1273 ls []) := by
  have hx := C0.1
  have hb := C0.2.1
  obtain ⟨v, S1, S2, h1, h2, h3⟩ := hI (xs (iv + 1).toNatClampNeg) (xs (iv + 2).toNatClampNeg) (xs (iv + 3).toNatClampNeg)
  refine lv_aload_n hx hb dL_law_1273 rfl (lv_at hl 1 rfl) ?_
  refine lw_arg (w := 1) C0 hS hl dL_law_1274 dL_law_1275 dL_law_1276 dL_law_1277 dL_law_1278 (by decide +kernel) (hin 1 (by decide) (by decide)) ?_
  refine lw_arg (w := 2) C0 hS hl dL_law_1279 dL_law_1280 dL_law_1281 dL_law_1282 dL_law_1283 (by decide +kernel) (hin 2 (by decide) (by decide)) ?_
  refine lw_arg (w := 3) C0 hS hl dL_law_1284 dL_law_1285 dL_law_1286 dL_law_1287 dL_law_1288 (by decide +kernel) (hin 3 (by decide) (by decide)) ?_
  refine lw_call C0 hK lw_e_159 lw_z_159 rfl rfl (As := [.int (xs (iv + 1).toNatClampNeg), .int (xs (iv + 2).toNatClampNeg), .int (xs (iv + 3).toNatClampNeg)]) (rest := []) (A := pv_em S) rfl rfl (Nat.le_of_ble_eq_true rfl) h1 (Nat.le_of_ble_eq_true rfl) hP hS hl.1 dL_law_1289 (by decide) (by decide) rfl (fun H locs hP hS => ?_)
  refine lv_aload_n hx hb dL_law_1292 rfl (lv_at hl 2 rfl) ?_
  refine lw_arg (w := 1) C0 hS hl dL_law_1293 dL_law_1294 dL_law_1295 dL_law_1296 dL_law_1297 (by decide +kernel) (hin 1 (by decide) (by decide)) ?_
  refine lw_arg (w := 2) C0 hS hl dL_law_1298 dL_law_1299 dL_law_1300 dL_law_1301 dL_law_1302 (by decide +kernel) (hin 2 (by decide) (by decide)) ?_
  refine lw_arg (w := 3) C0 hS hl dL_law_1303 dL_law_1304 dL_law_1305 dL_law_1306 dL_law_1307 (by decide +kernel) (hin 3 (by decide) (by decide)) ?_
  refine lw_call C0 hK lw_e_162 lw_z_162 rfl rfl (As := [.int (xs (iv + 1).toNatClampNeg), .int (xs (iv + 2).toNatClampNeg), .int (xs (iv + 3).toNatClampNeg)]) (rest := [.int v]) (A := pv_em S1) rfl rfl (Nat.le_of_ble_eq_true rfl) h2 (Nat.le_of_ble_eq_true rfl) hP hS hl.1 dL_law_1308 (by decide) (by decide) rfl (fun H locs hP hS => ?_)
  exact lv_icmp_eq (tgt := 1476) hx hb dL_law_1311 (by decide) (fun _ => kk S2 H locs h3 hP hS) (fun q => absurd rfl q)
set_option maxHeartbeats 1000000 in
theorem lw_case_36 (C0 : lw_At p s m meth c b L xs) (hK : pv_K D ca s) (hI : ∀ a1 a2 : Int32, pv_goI Inv S mX6_lots mX7_lots [.int a1, .int a2]) (hP : pv_P s.heap.size D ca (pv_em S) H) (hS : va_S (pv_A s.heap.size) s.heap H locs) (hl : lv_has ls 4 [(0, .ref b), (1, .ref (s.heap.size + 0)), (2, .ref (s.heap.size + 37)), (3, .int iv)]) (hin : ∀ w : Int32, 1 ≤ w → w ≤ 5 → vp_in (iv + w) L)
    (kk : ∀ (S2 : pv_S) (H1 : Heap) (locs1 : List Loc), Inv S2 → pv_P s.heap.size D ca (pv_em S2) H1 → va_S (pv_A s.heap.size) s.heap H1 locs1 → W p l e room_1 s m #[Value.ref b] below meth c H1 locs1 57 3072 Q (F0 m 1476 ls [])) : W p l e room_1 s m #[Value.ref b] below meth c H locs 57 3072 Q (F0 m 1316 ls []) := by
  have hx := C0.1
  have hb := C0.2.1
  obtain ⟨v, S1, S2, h1, h2, h3⟩ := hI (xs (iv + 1).toNatClampNeg) (xs (iv + 2).toNatClampNeg)
  refine lv_aload_n hx hb dL_law_1316 rfl (lv_at hl 1 rfl) ?_
  refine lw_arg (w := 1) C0 hS hl dL_law_1317 dL_law_1318 dL_law_1319 dL_law_1320 dL_law_1321 (by decide +kernel) (hin 1 (by decide) (by decide)) ?_
  refine lw_arg (w := 2) C0 hS hl dL_law_1322 dL_law_1323 dL_law_1324 dL_law_1325 dL_law_1326 (by decide +kernel) (hin 2 (by decide) (by decide)) ?_
  refine lw_call C0 hK lw_e_163 lw_z_163 rfl rfl (As := [.int (xs (iv + 1).toNatClampNeg), .int (xs (iv + 2).toNatClampNeg)]) (rest := []) (A := pv_em S) rfl rfl (Nat.le_of_ble_eq_true rfl) h1 (Nat.le_of_ble_eq_true rfl) hP hS hl.1 dL_law_1327 (by decide) (by decide) rfl (fun H locs hP hS => ?_)
  refine lv_aload_n hx hb dL_law_1330 rfl (lv_at hl 2 rfl) ?_
  refine lw_arg (w := 1) C0 hS hl dL_law_1331 dL_law_1332 dL_law_1333 dL_law_1334 dL_law_1335 (by decide +kernel) (hin 1 (by decide) (by decide)) ?_
  refine lw_arg (w := 2) C0 hS hl dL_law_1336 dL_law_1337 dL_law_1338 dL_law_1339 dL_law_1340 (by decide +kernel) (hin 2 (by decide) (by decide)) ?_
  refine lw_call C0 hK lw_e_166 lw_z_166 rfl rfl (As := [.int (xs (iv + 1).toNatClampNeg), .int (xs (iv + 2).toNatClampNeg)]) (rest := [.int v]) (A := pv_em S1) rfl rfl (Nat.le_of_ble_eq_true rfl) h2 (Nat.le_of_ble_eq_true rfl) hP hS hl.1 dL_law_1341 (by decide) (by decide) rfl (fun H locs hP hS => ?_)
  exact lv_icmp_eq (tgt := 1476) hx hb dL_law_1344 (by decide) (fun _ => kk S2 H locs h3 hP hS) (fun q => absurd rfl q)
set_option maxHeartbeats 1000000 in
theorem lw_case_37 (C0 : lw_At p s m meth c b L xs) (hK : pv_K D ca s) (hI : pv_goI Inv S mX6_asked mX7_asked []) (hP : pv_P s.heap.size D ca (pv_em S) H) (hS : va_S (pv_A s.heap.size) s.heap H locs) (hl : lv_has ls 4 [(0, .ref b), (1, .ref (s.heap.size + 0)), (2, .ref (s.heap.size + 37)), (3, .int iv)]) (hin : ∀ w : Int32, 1 ≤ w → w ≤ 5 → vp_in (iv + w) L)
    (kk : ∀ (S2 : pv_S) (H1 : Heap) (locs1 : List Loc), Inv S2 → pv_P s.heap.size D ca (pv_em S2) H1 → va_S (pv_A s.heap.size) s.heap H1 locs1 → W p l e room_1 s m #[Value.ref b] below meth c H1 locs1 57 3072 Q (F0 m 1476 ls [])) : W p l e room_1 s m #[Value.ref b] below meth c H locs 57 3072 Q (F0 m 1349 ls []) := by
  have hx := C0.1
  have hb := C0.2.1
  obtain ⟨v, S1, S2, h1, h2, h3⟩ := hI
  refine lv_aload_n hx hb dL_law_1349 rfl (lv_at hl 1 rfl) ?_
  refine lw_call C0 hK lw_e_167 lw_z_167 rfl rfl (As := []) (rest := []) (A := pv_em S) rfl rfl (Nat.le_of_ble_eq_true rfl) h1 (Nat.le_of_ble_eq_true rfl) hP hS hl.1 dL_law_1350 (by decide) (by decide) rfl (fun H locs hP hS => ?_)
  refine lv_aload_n hx hb dL_law_1353 rfl (lv_at hl 2 rfl) ?_
  refine lw_call C0 hK lw_e_170 lw_z_170 rfl rfl (As := []) (rest := [.int v]) (A := pv_em S1) rfl rfl (Nat.le_of_ble_eq_true rfl) h2 (Nat.le_of_ble_eq_true rfl) hP hS hl.1 dL_law_1354 (by decide) (by decide) rfl (fun H locs hP hS => ?_)
  exact lv_icmp_eq (tgt := 1476) hx hb dL_law_1357 (by decide) (fun _ => kk S2 H locs h3 hP hS) (fun q => absurd rfl q)
set_option maxHeartbeats 1000000 in
theorem lw_case_38 (C0 : lw_At p s m meth c b L xs) (hK : pv_K D ca s) (hI : pv_goJ Inv S mX6_upper mX7_upper []) (hP : pv_P s.heap.size D ca (pv_em S) H) (hS : va_S (pv_A s.heap.size) s.heap H locs) (hl : lv_has ls 4 [(0, .ref b), (1, .ref (s.heap.size + 0)), (2, .ref (s.heap.size + 37)), (3, .int iv)]) (hin : ∀ w : Int32, 1 ≤ w → w ≤ 5 → vp_in (iv + w) L)
    (kk : ∀ (S2 : pv_S) (H1 : Heap) (locs1 : List Loc), Inv S2 → pv_P s.heap.size D ca (pv_em S2) H1 → va_S (pv_A s.heap.size) s.heap H1 locs1 → W p l e room_1 s m #[Value.ref b] below meth c H1 locs1 57 3072 Q (F0 m 1476 ls [])) : W p l e room_1 s m #[Value.ref b] below meth c H locs 57 3072 Q (F0 m 1362 ls []) := by
  have hx := C0.1
  have hb := C0.2.1
  obtain ⟨v, S1, S2, h1, h2, h3⟩ := hI
  refine lv_aload_n hx hb dL_law_1362 rfl (lv_at hl 1 rfl) ?_
  refine lw_call C0 hK lw_e_171 lw_z_171 rfl rfl (As := []) (rest := []) (A := pv_em S) rfl rfl (Nat.le_of_ble_eq_true rfl) h1 (Nat.le_of_ble_eq_true rfl) hP hS hl.1 dL_law_1363 (by decide) (by decide) rfl (fun H locs hP hS => ?_)
  refine lv_aload_n hx hb dL_law_1366 rfl (lv_at hl 2 rfl) ?_
  refine lw_call C0 hK lw_e_175 lw_z_175 rfl rfl (As := []) (rest := [.long v]) (A := pv_em S1) rfl rfl (Nat.le_of_ble_eq_true rfl) h2 (Nat.le_of_ble_eq_true rfl) hP hS hl.1 dL_law_1367 (by decide) (by decide) rfl (fun H locs hP hS => ?_)
  refine W.lcmp hx hb dL_law_1370 ?_
  exact lv_if_eq (tgt := 1476) hx hb dL_law_1371 (by decide) (fun _ => kk S2 H locs h3 hP hS) (fun q => absurd (lw_cmp0 v) q)
set_option maxHeartbeats 1000000 in
theorem lw_case_39 (C0 : lw_At p s m meth c b L xs) (hK : pv_K D ca s) (hI : pv_goJ Inv S mX6_lower mX7_lower []) (hP : pv_P s.heap.size D ca (pv_em S) H) (hS : va_S (pv_A s.heap.size) s.heap H locs) (hl : lv_has ls 4 [(0, .ref b), (1, .ref (s.heap.size + 0)), (2, .ref (s.heap.size + 37)), (3, .int iv)]) (hin : ∀ w : Int32, 1 ≤ w → w ≤ 5 → vp_in (iv + w) L)
    (kk : ∀ (S2 : pv_S) (H1 : Heap) (locs1 : List Loc), Inv S2 → pv_P s.heap.size D ca (pv_em S2) H1 → va_S (pv_A s.heap.size) s.heap H1 locs1 → W p l e room_1 s m #[Value.ref b] below meth c H1 locs1 57 3072 Q (F0 m 1476 ls [])) : W p l e room_1 s m #[Value.ref b] below meth c H locs 57 3072 Q (F0 m 1376 ls []) := by
  have hx := C0.1
  have hb := C0.2.1
  obtain ⟨v, S1, S2, h1, h2, h3⟩ := hI
  refine lv_aload_n hx hb dL_law_1376 rfl (lv_at hl 1 rfl) ?_
  refine lw_call C0 hK lw_e_176 lw_z_176 rfl rfl (As := []) (rest := []) (A := pv_em S) rfl rfl (Nat.le_of_ble_eq_true rfl) h1 (Nat.le_of_ble_eq_true rfl) hP hS hl.1 dL_law_1377 (by decide) (by decide) rfl (fun H locs hP hS => ?_)
  refine lv_aload_n hx hb dL_law_1380 rfl (lv_at hl 2 rfl) ?_
  refine lw_call C0 hK lw_e_179 lw_z_179 rfl rfl (As := []) (rest := [.long v]) (A := pv_em S1) rfl rfl (Nat.le_of_ble_eq_true rfl) h2 (Nat.le_of_ble_eq_true rfl) hP hS hl.1 dL_law_1381 (by decide) (by decide) rfl (fun H locs hP hS => ?_)
  refine W.lcmp hx hb dL_law_1384 ?_
  exact lv_if_eq (tgt := 1476) hx hb dL_law_1385 (by decide) (fun _ => kk S2 H locs h3 hP hS) (fun q => absurd (lw_cmp0 v) q)
set_option maxHeartbeats 1000000 in
theorem lw_case_40 (C0 : lw_At p s m meth c b L xs) (hK : pv_K D ca s) (hI : pv_goI Inv S mX6_pence mX7_pence []) (hP : pv_P s.heap.size D ca (pv_em S) H) (hS : va_S (pv_A s.heap.size) s.heap H locs) (hl : lv_has ls 4 [(0, .ref b), (1, .ref (s.heap.size + 0)), (2, .ref (s.heap.size + 37)), (3, .int iv)]) (hin : ∀ w : Int32, 1 ≤ w → w ≤ 5 → vp_in (iv + w) L)
    (kk : ∀ (S2 : pv_S) (H1 : Heap) (locs1 : List Loc), Inv S2 → pv_P s.heap.size D ca (pv_em S2) H1 → va_S (pv_A s.heap.size) s.heap H1 locs1 → W p l e room_1 s m #[Value.ref b] below meth c H1 locs1 57 3072 Q (F0 m 1476 ls [])) : W p l e room_1 s m #[Value.ref b] below meth c H locs 57 3072 Q (F0 m 1390 ls []) := by
  have hx := C0.1
  have hb := C0.2.1
  obtain ⟨v, S1, S2, h1, h2, h3⟩ := hI
  refine lv_aload_n hx hb dL_law_1390 rfl (lv_at hl 1 rfl) ?_
  refine lw_call C0 hK lw_e_180 lw_z_180 rfl rfl (As := []) (rest := []) (A := pv_em S) rfl rfl (Nat.le_of_ble_eq_true rfl) h1 (Nat.le_of_ble_eq_true rfl) hP hS hl.1 dL_law_1391 (by decide) (by decide) rfl (fun H locs hP hS => ?_)
  refine lv_aload_n hx hb dL_law_1394 rfl (lv_at hl 2 rfl) ?_
  refine lw_call C0 hK lw_e_183 lw_z_183 rfl rfl (As := []) (rest := [.int v]) (A := pv_em S1) rfl rfl (Nat.le_of_ble_eq_true rfl) h2 (Nat.le_of_ble_eq_true rfl) hP hS hl.1 dL_law_1395 (by decide) (by decide) rfl (fun H locs hP hS => ?_)
  exact lv_icmp_eq (tgt := 1476) hx hb dL_law_1398 (by decide) (fun _ => kk S2 H locs h3 hP hS) (fun q => absurd rfl q)
set_option maxHeartbeats 1000000 in
theorem lw_case_41 (C0 : lw_At p s m meth c b L xs) (hK : pv_K D ca s) (hI : ∀ a1 : Int32, pv_goI Inv S mX6_count mX7_count [.int a1]) (hP : pv_P s.heap.size D ca (pv_em S) H) (hS : va_S (pv_A s.heap.size) s.heap H locs) (hl : lv_has ls 4 [(0, .ref b), (1, .ref (s.heap.size + 0)), (2, .ref (s.heap.size + 37)), (3, .int iv)]) (hin : ∀ w : Int32, 1 ≤ w → w ≤ 5 → vp_in (iv + w) L)
    (kk : ∀ (S2 : pv_S) (H1 : Heap) (locs1 : List Loc), Inv S2 → pv_P s.heap.size D ca (pv_em S2) H1 → va_S (pv_A s.heap.size) s.heap H1 locs1 → W p l e room_1 s m #[Value.ref b] below meth c H1 locs1 57 3072 Q (F0 m 1476 ls [])) : W p l e room_1 s m #[Value.ref b] below meth c H locs 57 3072 Q (F0 m 1403 ls []) := by
  have hx := C0.1
  have hb := C0.2.1
  obtain ⟨v, S1, S2, h1, h2, h3⟩ := hI (xs (iv + 1).toNatClampNeg)
  refine lv_aload_n hx hb dL_law_1403 rfl (lv_at hl 1 rfl) ?_
  refine lw_arg (w := 1) C0 hS hl dL_law_1404 dL_law_1405 dL_law_1406 dL_law_1407 dL_law_1408 (by decide +kernel) (hin 1 (by decide) (by decide)) ?_
  refine lw_call C0 hK lw_e_184 lw_z_184 rfl rfl (As := [.int (xs (iv + 1).toNatClampNeg)]) (rest := []) (A := pv_em S) rfl rfl (Nat.le_of_ble_eq_true rfl) h1 (Nat.le_of_ble_eq_true rfl) hP hS hl.1 dL_law_1409 (by decide) (by decide) rfl (fun H locs hP hS => ?_)
  refine lv_aload_n hx hb dL_law_1412 rfl (lv_at hl 2 rfl) ?_
  refine lw_arg (w := 1) C0 hS hl dL_law_1413 dL_law_1414 dL_law_1415 dL_law_1416 dL_law_1417 (by decide +kernel) (hin 1 (by decide) (by decide)) ?_
  refine lw_call C0 hK lw_e_187 lw_z_187 rfl rfl (As := [.int (xs (iv + 1).toNatClampNeg)]) (rest := [.int v]) (A := pv_em S1) rfl rfl (Nat.le_of_ble_eq_true rfl) h2 (Nat.le_of_ble_eq_true rfl) hP hS hl.1 dL_law_1418 (by decide) (by decide) rfl (fun H locs hP hS => ?_)
  exact lv_icmp_eq (tgt := 1476) hx hb dL_law_1421 (by decide) (fun _ => kk S2 H locs h3 hP hS) (fun q => absurd rfl q)
set_option maxHeartbeats 1000000 in
theorem lw_case_42 (C0 : lw_At p s m meth c b L xs) (hK : pv_K D ca s) (hI : pv_goI Inv S mX6_finding mX7_finding []) (hP : pv_P s.heap.size D ca (pv_em S) H) (hS : va_S (pv_A s.heap.size) s.heap H locs) (hl : lv_has ls 4 [(0, .ref b), (1, .ref (s.heap.size + 0)), (2, .ref (s.heap.size + 37)), (3, .int iv)]) (hin : ∀ w : Int32, 1 ≤ w → w ≤ 5 → vp_in (iv + w) L)
    (kk : ∀ (S2 : pv_S) (H1 : Heap) (locs1 : List Loc), Inv S2 → pv_P s.heap.size D ca (pv_em S2) H1 → va_S (pv_A s.heap.size) s.heap H1 locs1 → W p l e room_1 s m #[Value.ref b] below meth c H1 locs1 57 3072 Q (F0 m 1476 ls [])) : W p l e room_1 s m #[Value.ref b] below meth c H locs 57 3072 Q (F0 m 1426 ls []) := by
  have hx := C0.1
  have hb := C0.2.1
  obtain ⟨v, S1, S2, h1, h2, h3⟩ := hI
  refine lv_aload_n hx hb dL_law_1426 rfl (lv_at hl 1 rfl) ?_
  refine lw_call C0 hK lw_e_188 lw_z_188 rfl rfl (As := []) (rest := []) (A := pv_em S) rfl rfl (Nat.le_of_ble_eq_true rfl) h1 (Nat.le_of_ble_eq_true rfl) hP hS hl.1 dL_law_1427 (by decide) (by decide) rfl (fun H locs hP hS => ?_)
  refine lv_aload_n hx hb dL_law_1430 rfl (lv_at hl 2 rfl) ?_
  refine lw_call C0 hK lw_e_191 lw_z_191 rfl rfl (As := []) (rest := [.int v]) (A := pv_em S1) rfl rfl (Nat.le_of_ble_eq_true rfl) h2 (Nat.le_of_ble_eq_true rfl) hP hS hl.1 dL_law_1431 (by decide) (by decide) rfl (fun H locs hP hS => ?_)
  exact lv_icmp_eq (tgt := 1476) hx hb dL_law_1434 (by decide) (fun _ => kk S2 H locs h3 hP hS) (fun q => absurd rfl q)
set_option maxHeartbeats 1000000 in
theorem lw_case_43 (C0 : lw_At p s m meth c b L xs) (hK : pv_K D ca s) (hI : ∀ a1 : Int32, pv_goI Inv S mX6_findings mX7_findings [.int a1]) (hP : pv_P s.heap.size D ca (pv_em S) H) (hS : va_S (pv_A s.heap.size) s.heap H locs) (hl : lv_has ls 4 [(0, .ref b), (1, .ref (s.heap.size + 0)), (2, .ref (s.heap.size + 37)), (3, .int iv)]) (hin : ∀ w : Int32, 1 ≤ w → w ≤ 5 → vp_in (iv + w) L)
    (kk : ∀ (S2 : pv_S) (H1 : Heap) (locs1 : List Loc), Inv S2 → pv_P s.heap.size D ca (pv_em S2) H1 → va_S (pv_A s.heap.size) s.heap H1 locs1 → W p l e room_1 s m #[Value.ref b] below meth c H1 locs1 57 3072 Q (F0 m 1476 ls [])) : W p l e room_1 s m #[Value.ref b] below meth c H locs 57 3072 Q (F0 m 1439 ls []) := by
  have hx := C0.1
  have hb := C0.2.1
  obtain ⟨v, S1, S2, h1, h2, h3⟩ := hI (xs (iv + 1).toNatClampNeg)
  refine lv_aload_n hx hb dL_law_1439 rfl (lv_at hl 1 rfl) ?_
  refine lw_arg (w := 1) C0 hS hl dL_law_1440 dL_law_1441 dL_law_1442 dL_law_1443 dL_law_1444 (by decide +kernel) (hin 1 (by decide) (by decide)) ?_
  refine lw_call C0 hK lw_e_192 lw_z_192 rfl rfl (As := [.int (xs (iv + 1).toNatClampNeg)]) (rest := []) (A := pv_em S) rfl rfl (Nat.le_of_ble_eq_true rfl) h1 (Nat.le_of_ble_eq_true rfl) hP hS hl.1 dL_law_1445 (by decide) (by decide) rfl (fun H locs hP hS => ?_)
  refine lv_aload_n hx hb dL_law_1448 rfl (lv_at hl 2 rfl) ?_
  refine lw_arg (w := 1) C0 hS hl dL_law_1449 dL_law_1450 dL_law_1451 dL_law_1452 dL_law_1453 (by decide +kernel) (hin 1 (by decide) (by decide)) ?_
  refine lw_call C0 hK lw_e_195 lw_z_195 rfl rfl (As := [.int (xs (iv + 1).toNatClampNeg)]) (rest := [.int v]) (A := pv_em S1) rfl rfl (Nat.le_of_ble_eq_true rfl) h2 (Nat.le_of_ble_eq_true rfl) hP hS hl.1 dL_law_1454 (by decide) (by decide) rfl (fun H locs hP hS => ?_)
  exact lv_icmp_eq (tgt := 1476) hx hb dL_law_1457 (by decide) (fun _ => kk S2 H locs h3 hP hS) (fun q => absurd rfl q)
set_option maxHeartbeats 1000000 in
theorem lw_case_44 (C0 : lw_At p s m meth c b L xs) (hK : pv_K D ca s) (hI : pv_goJ Inv S mX6_digest mX7_digest []) (hP : pv_P s.heap.size D ca (pv_em S) H) (hS : va_S (pv_A s.heap.size) s.heap H locs) (hl : lv_has ls 4 [(0, .ref b), (1, .ref (s.heap.size + 0)), (2, .ref (s.heap.size + 37)), (3, .int iv)]) (hin : ∀ w : Int32, 1 ≤ w → w ≤ 5 → vp_in (iv + w) L)
    (kk : ∀ (S2 : pv_S) (H1 : Heap) (locs1 : List Loc), Inv S2 → pv_P s.heap.size D ca (pv_em S2) H1 → va_S (pv_A s.heap.size) s.heap H1 locs1 → W p l e room_1 s m #[Value.ref b] below meth c H1 locs1 57 3072 Q (F0 m 1476 ls [])) : W p l e room_1 s m #[Value.ref b] below meth c H locs 57 3072 Q (F0 m 1462 ls []) := by
  have hx := C0.1
  have hb := C0.2.1
  obtain ⟨v, S1, S2, h1, h2, h3⟩ := hI
  refine lv_aload_n hx hb dL_law_1462 rfl (lv_at hl 1 rfl) ?_
  refine lw_call C0 hK lw_e_196 lw_z_196 rfl rfl (As := []) (rest := []) (A := pv_em S) rfl rfl (Nat.le_of_ble_eq_true rfl) h1 (Nat.le_of_ble_eq_true rfl) hP hS hl.1 dL_law_1463 (by decide) (by decide) rfl (fun H locs hP hS => ?_)
  refine lv_aload_n hx hb dL_law_1466 rfl (lv_at hl 2 rfl) ?_
  refine lw_call C0 hK lw_e_199 lw_z_199 rfl rfl (As := []) (rest := [.long v]) (A := pv_em S1) rfl rfl (Nat.le_of_ble_eq_true rfl) h2 (Nat.le_of_ble_eq_true rfl) hP hS hl.1 dL_law_1467 (by decide) (by decide) rfl (fun H locs hP hS => ?_)
  refine W.lcmp hx hb dL_law_1470 ?_
  exact lv_if_eq (tgt := 1476) hx hb dL_law_1471 (by decide) (fun _ => kk S2 H locs h3 hP hS) (fun q => absurd (lw_cmp0 v) q)
/-- what is wanted of the calls, all together -/
def pv_all45 (Inv : pv_S → Prop) : Prop := ∀ S : pv_S, Inv S → (∀ a1 a2 : Int32, pv_goI Inv S mX6_row mX7_row [.int a1, .int a2]) ∧ (∀ a1 a2 a3 : Int32, pv_goI Inv S mX6_lay mX7_lay [.int a1, .int a2, .int a3]) ∧ (∀ a1 a2 : Int32, pv_goI Inv S mX6_at mX7_at [.int a1, .int a2]) ∧ (∀ a1 : Int32, pv_goI Inv S mX6_tear mX7_tear [.int a1]) ∧ (∀ a1 a2 a3 a4 a5 : Int32, pv_goI Inv S mX6_copy mX7_copy [.int a1, .int a2, .int a3, .int a4, .int a5]) ∧ (∀ a1 : Int32, pv_goI Inv S mX6_mean mX7_mean [.int a1]) ∧ (∀ a1 a2 : Int32, pv_goI Inv S mX6_text mX7_text [.int a1, .int a2]) ∧ (∀ a1 a2 a3 : Int32, pv_goI Inv S mX6_put mX7_put [.int a1, .int a2, .int a3]) ∧ (∀ a1 : Int32, pv_goI Inv S mX6_fault mX7_fault [.int a1]) ∧ (∀ a1 : Int32, pv_goI Inv S mX6_town mX7_town [.int a1]) ∧ (∀ a1 a2 : Int32, pv_goI Inv S mX6_cat mX7_cat [.int a1, .int a2]) ∧ (∀ a1 a2 : Int32, pv_goI Inv S mX6_mark mX7_mark [.int a1, .int a2]) ∧ (pv_goI Inv S mX6_hour mX7_hour []) ∧ (∀ a1 : Int32, pv_goI Inv S mX6_feed mX7_feed [.int a1]) ∧ (∀ a1 : Int32, pv_goI Inv S mX6_buy mX7_buy [.int a1]) ∧ (∀ a1 : Int32, pv_goI Inv S mX6_sell mX7_sell [.int a1]) ∧ (∀ a1 : Int32, pv_goI Inv S mX6_rule mX7_rule [.int a1]) ∧ (∀ a1 : Int32, pv_goI Inv S mX6_undo mX7_undo [.int a1]) ∧ (∀ a1 : Int32, pv_goI Inv S mX6_keep mX7_keep [.int a1]) ∧ (∀ a1 : Int32, pv_goI Inv S mX6_on mX7_on [.int a1]) ∧ (∀ a1 a2 : Int32, pv_goI Inv S mX6_weighs mX7_weighs [.int a1, .int a2]) ∧ (∀ a1 a2 : Int32, pv_goI Inv S mX6_when mX7_when [.int a1, .int a2]) ∧ (∀ a1 : Int32, pv_goI Inv S mX6_steady mX7_steady [.int a1]) ∧ (∀ a1 a2 a3 : Int32, pv_goI Inv S mX6_meals mX7_meals [.int a1, .int a2, .int a3]) ∧ (∀ a1 a2 : Int32, pv_goI Inv S mX6_gain mX7_gain [.int a1, .int a2]) ∧ (∀ a1 : Int32, pv_goI Inv S mX6_ring mX7_ring [.int a1]) ∧ (∀ a1 a2 : Int32, pv_goI Inv S mX6_plan mX7_plan [.int a1, .int a2]) ∧ (∀ a1 : Int32, pv_goI Inv S mX6_sacks mX7_sacks [.int a1]) ∧ (∀ a1 : Int32, pv_goI Inv S mX6_sure mX7_sure [.int a1]) ∧ (∀ a1 : Int32, pv_goI Inv S mX6_ask mX7_ask [.int a1]) ∧ (∀ a1 a2 : Int32, pv_goI Inv S mX6_kinds mX7_kinds [.int a1, .int a2]) ∧ (∀ a1 a2 : Int32, pv_goI Inv S mX6_weights mX7_weights [.int a1, .int a2]) ∧ (∀ a1 a2 : Int32, pv_goI Inv S mX6_test mX7_test [.int a1, .int a2]) ∧ (∀ a1 : Int32, pv_goI Inv S mX6_fright mX7_fright [.int a1]) ∧ (∀ a1 a2 a3 a4 : Int32, pv_goI Inv S mX6_odds mX7_odds [.int a1, .int a2, .int a3, .int a4]) ∧ (∀ a1 a2 a3 : Int32, pv_goI Inv S mX6_mid mX7_mid [.int a1, .int a2, .int a3]) ∧ (∀ a1 a2 : Int32, pv_goI Inv S mX6_lots mX7_lots [.int a1, .int a2]) ∧ (pv_goI Inv S mX6_asked mX7_asked []) ∧ (pv_goJ Inv S mX6_upper mX7_upper []) ∧ (pv_goJ Inv S mX6_lower mX7_lower []) ∧ (pv_goI Inv S mX6_pence mX7_pence []) ∧ (∀ a1 : Int32, pv_goI Inv S mX6_count mX7_count [.int a1]) ∧ (pv_goI Inv S mX6_finding mX7_finding []) ∧ (∀ a1 : Int32, pv_goI Inv S mX6_findings mX7_findings [.int a1]) ∧ (pv_goJ Inv S mX6_digest mX7_digest [])
end LX
