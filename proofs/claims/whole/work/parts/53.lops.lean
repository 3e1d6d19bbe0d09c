-- the law's cases
def LK (p : Program) (l : Launch) (e : Env) (s : State) (m : MethodId) (below : List Frame) (meth : Method) (c : Code) (b : Nat) (D : va_G) (cI cJ cZ cS : ClassId) (ad : Nat → Nat) (B : la_T) (i cells slots : Nat) (Q : State → Prop) : Prop := ∀ (adr : ad_T) (hh : Nat → Option sh_T) (X : pp_T) (M : mo_T) (f : Nat → Int64) (H : Heap) (locs : List Loc) (cells' slots' : Nat) (ls : Array Slot), LW D cI cJ cZ cS ad (lA s) B adr hh X M f H → Rl X hh M → va_S (lA s) s.heap H locs → lv_has ls 7 [(0, .ref b), (1, .ref (la_x B)), (2, .ref (la_m B)), (3, .ref (la_o B)), (4, .int (nI i))] → cells' ≤ cells + 3 → slots' ≤ slots + 59 → W p l e room_1 s m #[Value.ref b] below meth c H locs cells' slots' Q (F0 m 611 ls [])
theorem Rl_no {X : pp_T} {hh : Nat → Option sh_T} {M : mo_T} (h : Rl X hh M) {j : Nat} (hj : j < 60) (hn : pp_n X = nI j) : hh j = none := by
  obtain ⟨⟨c, h1, h2, -, h4, -⟩, -⟩ := h
  have : c = j := (nI_eq (by omega) (by omega)).mp (h2.symm.trans hn)
  exact h4 j (by omega)
theorem Rl_k3 {X : pp_T} {hh : Nat → Option sh_T} {M : mo_T} (h : Rl X hh M) {k : Nat} {S : sh_T} (hk : hh k = some S) : sh_k S < 3 := by
  obtain ⟨⟨c, -, -, -, h4, h5⟩, -⟩ := h
  by_cases q : k < c
  · rcases h5 k q with ⟨e, -⟩ | ⟨S', G, e, hS, -⟩
    · rw [e] at hk; cases hk
    · rw [e] at hk; cases hk
      rw [hS.2.1.1]; exact hS.1.1
  · rw [h4 k (by omega)] at hk; cases hk
theorem F1000 : 100 ≤ 1000 := by decide
section LOP
variable {p : Program} {l : Launch} {e : Env} {s : State} {m : MethodId} {below : List Frame} {meth : Method} {c : Code} {H : Heap} {locs : List Loc} {cells slots : Nat} {Q : State → Prop}
variable {b L : Nat} {xs : Nat → Int32} {D : va_G} {cI cJ cZ cS : ClassId} {ad : Nat → Nat} {B : la_T} {adr : ad_T} {hh : Nat → Option sh_T} {X : pp_T} {M : mo_T} {f : Nat → Int64} {ls : Array Slot} {i : Nat}
set_option maxHeartbeats 4000000 in
set_option maxRecDepth 100000 in
theorem op_check (C : LC p l s m c b L xs D cI cJ cZ cS ad) (hW : LW D cI cJ cZ cS ad (lA s) B adr hh X M f H) (hR : Rl X hh M) (hS : va_S (lA s) s.heap H locs) (hl : lv_has ls 7 [(0, .ref b), (1, .ref (la_x B)), (2, .ref (la_m B)), (3, .ref (la_o B)), (4, .int (nI i))]) (hi : i + 5 ≤ L) (hc : cells ≤ 100 + 3 * i) (hs : slots ≤ 5000 + 59 * i) (K : LK p l e s m below meth c b D cI cJ cZ cS ad B i cells slots Q) : W p l e room_1 s m #[Value.ref b] below meth c H locs cells slots Q (F0 m 245 ls []) := by
  have hx := C.1
  have hb := C.2.1
  have hts := C.2.2.2.2.1
  have hL : L ≤ 2560 := C.2.2.2.2.2.2.2.2.2.2.2.2
  refine lv_aload_n hx hb dL_law_245 rfl (lv_at hl 1 rfl) ?_
  refine arg5 (k := 1) C hS hl (by omega) (by decide) dL_law_246 dL_law_247 dL_law_249 dL_law_250 dL_law_251 ?_
  obtain ⟨r, h1, h2⟩ := o_check hR (xs (i + 1)) F1000
  refine lx_ri (As := [.int (xs (i + 1))]) (rest := []) (r := r) C hW hS hl.1 (c_X3_check l D cI cJ cZ cS ad _ _ _ _ _ _ _ adr X hh (xs (i + 1)) 1000 r h1) (cwV 1 hts gL_law_X3_check rfl rfl rfl (by decide +kernel) ⟨Nat.le_of_ble_eq_true rfl, Nat.le_of_ble_eq_true rfl⟩) rfl rfl (Nat.le_of_ble_eq_true rfl) dL_law_252 (by omega) (by omega) ?_
  refine lv_aload_n hx hb dL_law_255 rfl (lv_at hl 2 rfl) ?_
  refine arg5 (k := 1) C hS hl (by omega) (by decide) dL_law_256 dL_law_257 dL_law_259 dL_law_260 dL_law_261 ?_
  refine lm_i (As := [.int (xs (i + 1))]) (rest := [.int r]) (M' := ms_t M 0) C hW hS hl.1 (c_X4_check l D cI cJ cZ cS ad _ _ _ _ _ _ _ _ _ _ M (xs (i + 1)) 1000 (r, ms_t M 0) h2) (cwV 1 hts gL_law_X4_check rfl rfl rfl (by decide +kernel) ⟨Nat.le_of_ble_eq_true rfl, Nat.le_of_ble_eq_true rfl⟩) rfl rfl (Nat.le_of_ble_eq_true rfl) dL_law_262 (by omega) (by omega) (fun H1 locs1 hW1 hS1 => ?_)
  refine lv_icmp_eq (tgt := 611) hx hb dL_law_265 (by decide) (fun _ => ?_) (fun q => absurd rfl q)
  exact K _ _ _ _ _ _ _ _ _ _ hW1 hR hS1 hl (by omega) (by omega)
set_option maxHeartbeats 4000000 in
set_option maxRecDepth 100000 in
theorem op_inside (C : LC p l s m c b L xs D cI cJ cZ cS ad) (hW : LW D cI cJ cZ cS ad (lA s) B adr hh X M f H) (hR : Rl X hh M) (hS : va_S (lA s) s.heap H locs) (hl : lv_has ls 7 [(0, .ref b), (1, .ref (la_x B)), (2, .ref (la_m B)), (3, .ref (la_o B)), (4, .int (nI i))]) (hi : i + 5 ≤ L) (hc : cells ≤ 100 + 3 * i) (hs : slots ≤ 5000 + 59 * i) (K : LK p l e s m below meth c b D cI cJ cZ cS ad B i cells slots Q) : W p l e room_1 s m #[Value.ref b] below meth c H locs cells slots Q (F0 m 270 ls []) := by
  have hx := C.1
  have hb := C.2.1
  have hts := C.2.2.2.2.1
  have hL : L ≤ 2560 := C.2.2.2.2.2.2.2.2.2.2.2.2
  refine lv_aload_n hx hb dL_law_270 rfl (lv_at hl 1 rfl) ?_
  refine arg5 (k := 1) C hS hl (by omega) (by decide) dL_law_271 dL_law_272 dL_law_274 dL_law_275 dL_law_276 ?_
  refine arg5 (k := 2) C hS hl (by omega) (by decide) dL_law_277 dL_law_278 dL_law_280 dL_law_281 dL_law_282 ?_
  refine arg5 (k := 3) C hS hl (by omega) (by decide) dL_law_283 dL_law_284 dL_law_286 dL_law_287 dL_law_288 ?_
  obtain ⟨r, h1, h2⟩ := o_inside hR (xs (i + 1)) (xs (i + 2)) (xs (i + 3)) F1000
  refine lx_ri (As := [.int (xs (i + 1)), .int (xs (i + 2)), .int (xs (i + 3))]) (rest := []) (r := r) C hW hS hl.1 (c_X3_inside l D cI cJ cZ cS ad _ _ _ _ _ _ _ adr X hh (xs (i + 1)) (xs (i + 2)) (xs (i + 3)) 1000 r h1) (cwV 3 hts gL_law_X3_inside rfl rfl rfl (by decide +kernel) ⟨Nat.le_of_ble_eq_true rfl, Nat.le_of_ble_eq_true rfl⟩) rfl rfl (Nat.le_of_ble_eq_true rfl) dL_law_289 (by omega) (by omega) ?_
  refine lv_aload_n hx hb dL_law_292 rfl (lv_at hl 2 rfl) ?_
  refine arg5 (k := 1) C hS hl (by omega) (by decide) dL_law_293 dL_law_294 dL_law_296 dL_law_297 dL_law_298 ?_
  refine arg5 (k := 2) C hS hl (by omega) (by decide) dL_law_299 dL_law_300 dL_law_302 dL_law_303 dL_law_304 ?_
  refine arg5 (k := 3) C hS hl (by omega) (by decide) dL_law_305 dL_law_306 dL_law_308 dL_law_309 dL_law_310 ?_
  refine lm_i (As := [.int (xs (i + 1)), .int (xs (i + 2)), .int (xs (i + 3))]) (rest := [.int r]) (M' := ms_t M 0) C hW hS hl.1 (c_X4_inside l D cI cJ cZ cS ad _ _ _ _ _ _ _ _ _ _ M (xs (i + 1)) (xs (i + 2)) (xs (i + 3)) 1000 (r, ms_t M 0) h2) (cwV 3 hts gL_law_X4_inside rfl rfl rfl (by decide +kernel) ⟨Nat.le_of_ble_eq_true rfl, Nat.le_of_ble_eq_true rfl⟩) rfl rfl (Nat.le_of_ble_eq_true rfl) dL_law_311 (by omega) (by omega) (fun H1 locs1 hW1 hS1 => ?_)
  refine lv_icmp_eq (tgt := 611) hx hb dL_law_314 (by decide) (fun _ => ?_) (fun q => absurd rfl q)
  exact K _ _ _ _ _ _ _ _ _ _ hW1 hR hS1 hl (by omega) (by omega)
set_option maxHeartbeats 4000000 in
set_option maxRecDepth 100000 in
theorem op_meets (C : LC p l s m c b L xs D cI cJ cZ cS ad) (hW : LW D cI cJ cZ cS ad (lA s) B adr hh X M f H) (hR : Rl X hh M) (hS : va_S (lA s) s.heap H locs) (hl : lv_has ls 7 [(0, .ref b), (1, .ref (la_x B)), (2, .ref (la_m B)), (3, .ref (la_o B)), (4, .int (nI i))]) (hi : i + 5 ≤ L) (hc : cells ≤ 100 + 3 * i) (hs : slots ≤ 5000 + 59 * i) (K : LK p l e s m below meth c b D cI cJ cZ cS ad B i cells slots Q) : W p l e room_1 s m #[Value.ref b] below meth c H locs cells slots Q (F0 m 319 ls []) := by
  have hx := C.1
  have hb := C.2.1
  have hts := C.2.2.2.2.1
  have hL : L ≤ 2560 := C.2.2.2.2.2.2.2.2.2.2.2.2
  refine lv_aload_n hx hb dL_law_319 rfl (lv_at hl 1 rfl) ?_
  refine arg5 (k := 1) C hS hl (by omega) (by decide) dL_law_320 dL_law_321 dL_law_323 dL_law_324 dL_law_325 ?_
  refine arg5 (k := 2) C hS hl (by omega) (by decide) dL_law_326 dL_law_327 dL_law_329 dL_law_330 dL_law_331 ?_
  obtain ⟨r, h1, h2⟩ := o_meets hR (xs (i + 1)) (xs (i + 2)) F1000
  refine lx_ri (As := [.int (xs (i + 1)), .int (xs (i + 2))]) (rest := []) (r := r) C hW hS hl.1 (c_X3_meets l D cI cJ cZ cS ad _ _ _ _ _ _ _ adr X hh (xs (i + 1)) (xs (i + 2)) 1000 r h1) (cwV 2 hts gL_law_X3_meets rfl rfl rfl (by decide +kernel) ⟨Nat.le_of_ble_eq_true rfl, Nat.le_of_ble_eq_true rfl⟩) rfl rfl (Nat.le_of_ble_eq_true rfl) dL_law_332 (by omega) (by omega) ?_
  refine lv_aload_n hx hb dL_law_335 rfl (lv_at hl 2 rfl) ?_
  refine arg5 (k := 1) C hS hl (by omega) (by decide) dL_law_336 dL_law_337 dL_law_339 dL_law_340 dL_law_341 ?_
  refine arg5 (k := 2) C hS hl (by omega) (by decide) dL_law_342 dL_law_343 dL_law_345 dL_law_346 dL_law_347 ?_
  refine lm_i (As := [.int (xs (i + 1)), .int (xs (i + 2))]) (rest := [.int r]) (M' := ms_t M 0) C hW hS hl.1 (c_X4_meets l D cI cJ cZ cS ad _ _ _ _ _ _ _ _ _ _ M (xs (i + 1)) (xs (i + 2)) 1000 (r, ms_t M 0) h2) (cwV 2 hts gL_law_X4_meets rfl rfl rfl (by decide +kernel) ⟨Nat.le_of_ble_eq_true rfl, Nat.le_of_ble_eq_true rfl⟩) rfl rfl (Nat.le_of_ble_eq_true rfl) dL_law_348 (by omega) (by omega) (fun H1 locs1 hW1 hS1 => ?_)
  refine lv_icmp_eq (tgt := 611) hx hb dL_law_351 (by decide) (fun _ => ?_) (fun q => absurd rfl q)
  exact K _ _ _ _ _ _ _ _ _ _ hW1 hR hS1 hl (by omega) (by omega)
set_option maxHeartbeats 4000000 in
set_option maxRecDepth 100000 in
theorem op_shapes (C : LC p l s m c b L xs D cI cJ cZ cS ad) (hW : LW D cI cJ cZ cS ad (lA s) B adr hh X M f H) (hR : Rl X hh M) (hS : va_S (lA s) s.heap H locs) (hl : lv_has ls 7 [(0, .ref b), (1, .ref (la_x B)), (2, .ref (la_m B)), (3, .ref (la_o B)), (4, .int (nI i))]) (hi : i + 5 ≤ L) (hc : cells ≤ 100 + 3 * i) (hs : slots ≤ 5000 + 59 * i) (K : LK p l e s m below meth c b D cI cJ cZ cS ad B i cells slots Q) : W p l e room_1 s m #[Value.ref b] below meth c H locs cells slots Q (F0 m 598 ls []) := by
  have hx := C.1
  have hb := C.2.1
  have hts := C.2.2.2.2.1
  have hL : L ≤ 2560 := C.2.2.2.2.2.2.2.2.2.2.2.2
  refine lv_aload_n hx hb dL_law_598 rfl (lv_at hl 1 rfl) ?_
  obtain ⟨r, h1, h2⟩ := o_shapes hR 1000
  refine lx_ri (As := []) (rest := []) (r := r) C hW hS hl.1 (c_X3_shapes l D cI cJ cZ cS ad _ _ _ _ _ _ _ adr X hh 1000 r h1) (cwV 0 hts gL_law_X3_shapes rfl rfl rfl (by decide +kernel) ⟨Nat.le_of_ble_eq_true rfl, Nat.le_of_ble_eq_true rfl⟩) rfl rfl (Nat.le_of_ble_eq_true rfl) dL_law_599 (by omega) (by omega) ?_
  refine lv_aload_n hx hb dL_law_602 rfl (lv_at hl 2 rfl) ?_
  refine lm_i (As := []) (rest := [.int r]) (M' := ms_t M 0) C hW hS hl.1 (c_X4_shapes l D cI cJ cZ cS ad _ _ _ _ _ _ _ _ _ _ M 1000 (r, ms_t M 0) h2) (cwV 0 hts gL_law_X4_shapes rfl rfl rfl (by decide +kernel) ⟨Nat.le_of_ble_eq_true rfl, Nat.le_of_ble_eq_true rfl⟩) rfl rfl (Nat.le_of_ble_eq_true rfl) dL_law_603 (by omega) (by omega) (fun H1 locs1 hW1 hS1 => ?_)
  refine lv_icmp_eq (tgt := 611) hx hb dL_law_606 (by decide) (fun _ => ?_) (fun q => absurd rfl q)
  exact K _ _ _ _ _ _ _ _ _ _ hW1 hR hS1 hl (by omega) (by omega)
set_option maxHeartbeats 4000000 in
set_option maxRecDepth 100000 in
theorem op_area (C : LC p l s m c b L xs D cI cJ cZ cS ad) (hW : LW D cI cJ cZ cS ad (lA s) B adr hh X M f H) (hR : Rl X hh M) (hS : va_S (lA s) s.heap H locs) (hl : lv_has ls 7 [(0, .ref b), (1, .ref (la_x B)), (2, .ref (la_m B)), (3, .ref (la_o B)), (4, .int (nI i))]) (hi : i + 5 ≤ L) (hc : cells ≤ 100 + 3 * i) (hs : slots ≤ 5000 + 59 * i) (K : LK p l e s m below meth c b D cI cJ cZ cS ad B i cells slots Q) : W p l e room_1 s m #[Value.ref b] below meth c H locs cells slots Q (F0 m 455 ls []) := by
  have hx := C.1
  have hb := C.2.1
  have hts := C.2.2.2.2.1
  have hL : L ≤ 2560 := C.2.2.2.2.2.2.2.2.2.2.2.2
  refine lv_aload_n hx hb dL_law_455 rfl (lv_at hl 1 rfl) ?_
  refine arg5 (k := 1) C hS hl (by omega) (by decide) dL_law_456 dL_law_457 dL_law_459 dL_law_460 dL_law_461 ?_
  obtain ⟨r, h1, h2⟩ := o_area hR (xs (i + 1)) F1000
  refine lx_rl (As := [.int (xs (i + 1))]) (rest := []) (r := r) C hW hS hl.1 (c_X3_area l D cI cJ cZ cS ad _ _ _ _ _ _ _ adr X hh (xs (i + 1)) 1000 r h1) (cwV 1 hts gL_law_X3_area rfl rfl rfl (by decide +kernel) ⟨Nat.le_of_ble_eq_true rfl, Nat.le_of_ble_eq_true rfl⟩) rfl rfl (Nat.le_of_ble_eq_true rfl) dL_law_462 (by omega) (by omega) ?_
  refine lv_aload_n hx hb dL_law_465 rfl (lv_at hl 2 rfl) ?_
  refine arg5 (k := 1) C hS hl (by omega) (by decide) dL_law_466 dL_law_467 dL_law_469 dL_law_470 dL_law_471 ?_
  refine lm_l (As := [.int (xs (i + 1))]) (rest := [.long r]) (M' := ms_t M 0) C hW hS hl.1 (c_X4_area l D cI cJ cZ cS ad _ _ _ _ _ _ _ _ _ _ M (xs (i + 1)) 1000 (r, ms_t M 0) h2) (cwV 1 hts gL_law_X4_area rfl rfl rfl (by decide +kernel) ⟨Nat.le_of_ble_eq_true rfl, Nat.le_of_ble_eq_true rfl⟩) rfl rfl (Nat.le_of_ble_eq_true rfl) dL_law_472 (by omega) (by omega) (fun H1 locs1 hW1 hS1 => ?_)
  refine W.lcmp hx hb dL_law_475 ?_
  refine lv_if_eq (tgt := 611) hx hb dL_law_476 (by decide) (fun _ => ?_) (fun q => absurd ((lg_cmp_eq _ _).mpr rfl) q)
  exact K _ _ _ _ _ _ _ _ _ _ hW1 hR hS1 hl (by omega) (by omega)
set_option maxHeartbeats 4000000 in
set_option maxRecDepth 100000 in
theorem op_square (C : LC p l s m c b L xs D cI cJ cZ cS ad) (hW : LW D cI cJ cZ cS ad (lA s) B adr hh X M f H) (hR : Rl X hh M) (hS : va_S (lA s) s.heap H locs) (hl : lv_has ls 7 [(0, .ref b), (1, .ref (la_x B)), (2, .ref (la_m B)), (3, .ref (la_o B)), (4, .int (nI i))]) (hi : i + 5 ≤ L) (hc : cells ≤ 100 + 3 * i) (hs : slots ≤ 5000 + 59 * i) (K : LK p l e s m below meth c b D cI cJ cZ cS ad B i cells slots Q) : W p l e room_1 s m #[Value.ref b] below meth c H locs cells slots Q (F0 m 356 ls []) := by
  have hx := C.1
  have hb := C.2.1
  have hts := C.2.2.2.2.1
  have hL : L ≤ 2560 := C.2.2.2.2.2.2.2.2.2.2.2.2
  refine lv_aload_n hx hb dL_law_356 rfl (lv_at hl 1 rfl) ?_
  refine arg5 (k := 1) C hS hl (by omega) (by decide) dL_law_357 dL_law_358 dL_law_360 dL_law_361 dL_law_362 ?_
  refine arg5 (k := 2) C hS hl (by omega) (by decide) dL_law_363 dL_law_364 dL_law_366 dL_law_367 dL_law_368 ?_
  refine arg5 (k := 3) C hS hl (by omega) (by decide) dL_law_369 dL_law_370 dL_law_372 dL_law_373 dL_law_374 ?_
  obtain ⟨r, X', M', h1, h2, hR'⟩ := o_square hR (xs (i + 1)) (xs (i + 2)) (xs (i + 3)) F1000
  refine lx_wl (As := [.int (xs (i + 1)), .int (xs (i + 2)), .int (xs (i + 3))]) (rest := []) (r := r) (X' := X') (mc := 0) (ms := 0) C hW hS hl.1 (c_X3_square l D cI cJ cZ cS ad _ _ _ _ _ _ _ adr _ X hh (xs (i + 1)) (xs (i + 2)) (xs (i + 3)) 1000 (r, X') h1) (cwV 3 hts gL_law_X3_square rfl rfl rfl (by decide +kernel) ⟨Nat.le_of_ble_eq_true rfl, Nat.le_of_ble_eq_true rfl⟩) rfl rfl (Nat.le_of_ble_eq_true rfl) dL_law_375 (by omega) (by omega) (fun H locs hW hS => ?_)
  refine lv_aload_n hx hb dL_law_378 rfl (lv_at hl 2 rfl) ?_
  refine arg5 (k := 1) C hS hl (by omega) (by decide) dL_law_379 dL_law_380 dL_law_382 dL_law_383 dL_law_384 ?_
  refine arg5 (k := 2) C hS hl (by omega) (by decide) dL_law_385 dL_law_386 dL_law_388 dL_law_389 dL_law_390 ?_
  refine arg5 (k := 3) C hS hl (by omega) (by decide) dL_law_391 dL_law_392 dL_law_394 dL_law_395 dL_law_396 ?_
  refine lm_l (As := [.int (xs (i + 1)), .int (xs (i + 2)), .int (xs (i + 3))]) (rest := [.long r]) (M' := M') C hW hS hl.1 (c_X4_square l D cI cJ cZ cS ad _ _ _ _ _ _ _ _ _ _ M (xs (i + 1)) (xs (i + 2)) (xs (i + 3)) 1000 (r, M') h2) (cwV 3 hts gL_law_X4_square rfl rfl rfl (by decide +kernel) ⟨Nat.le_of_ble_eq_true rfl, Nat.le_of_ble_eq_true rfl⟩) rfl rfl (Nat.le_of_ble_eq_true rfl) dL_law_397 (by omega) (by omega) (fun H1 locs1 hW1 hS1 => ?_)
  refine W.lcmp hx hb dL_law_400 ?_
  refine lv_if_eq (tgt := 611) hx hb dL_law_401 (by decide) (fun _ => ?_) (fun q => absurd ((lg_cmp_eq _ _).mpr rfl) q)
  exact K _ _ _ _ _ _ _ _ _ _ hW1 hR' hS1 hl (by omega) (by omega)
set_option maxHeartbeats 4000000 in
set_option maxRecDepth 100000 in
theorem op_near (C : LC p l s m c b L xs D cI cJ cZ cS ad) (hW : LW D cI cJ cZ cS ad (lA s) B adr hh X M f H) (hR : Rl X hh M) (hS : va_S (lA s) s.heap H locs) (hl : lv_has ls 7 [(0, .ref b), (1, .ref (la_x B)), (2, .ref (la_m B)), (3, .ref (la_o B)), (4, .int (nI i))]) (hi : i + 5 ≤ L) (hc : cells ≤ 100 + 3 * i) (hs : slots ≤ 5000 + 59 * i) (K : LK p l e s m below meth c b D cI cJ cZ cS ad B i cells slots Q) : W p l e room_1 s m #[Value.ref b] below meth c H locs cells slots Q (F0 m 406 ls []) := by
  have hx := C.1
  have hb := C.2.1
  have hts := C.2.2.2.2.1
  have hL : L ≤ 2560 := C.2.2.2.2.2.2.2.2.2.2.2.2
  refine lv_aload_n hx hb dL_law_406 rfl (lv_at hl 1 rfl) ?_
  refine arg5 (k := 1) C hS hl (by omega) (by decide) dL_law_407 dL_law_408 dL_law_410 dL_law_411 dL_law_412 ?_
  refine arg5 (k := 2) C hS hl (by omega) (by decide) dL_law_413 dL_law_414 dL_law_416 dL_law_417 dL_law_418 ?_
  refine arg5 (k := 3) C hS hl (by omega) (by decide) dL_law_419 dL_law_420 dL_law_422 dL_law_423 dL_law_424 ?_
  obtain ⟨r, X', M', h1, h2, hR'⟩ := o_near hR (xs (i + 1)) (xs (i + 2)) (xs (i + 3)) F1000
  refine lx_wi (As := [.int (xs (i + 1)), .int (xs (i + 2)), .int (xs (i + 3))]) (rest := []) (r := r) (X' := X') (mc := 3) (ms := 59) C hW hS hl.1 (c_X3_near l D cI cJ cZ cS ad _ _ _ _ _ _ _ adr _ X hh (xs (i + 1)) (xs (i + 2)) (xs (i + 3)) 1000 (r, X') h1) (cwV 3 hts gL_law_X3_near rfl rfl rfl (by decide +kernel) ⟨Nat.le_of_ble_eq_true rfl, Nat.le_of_ble_eq_true rfl⟩) rfl rfl (Nat.le_of_ble_eq_true rfl) dL_law_425 (by omega) (by omega) (fun H locs hW hS => ?_)
  refine lv_aload_n hx hb dL_law_428 rfl (lv_at hl 2 rfl) ?_
  refine arg5 (k := 1) C hS hl (by omega) (by decide) dL_law_429 dL_law_430 dL_law_432 dL_law_433 dL_law_434 ?_
  refine arg5 (k := 2) C hS hl (by omega) (by decide) dL_law_435 dL_law_436 dL_law_438 dL_law_439 dL_law_440 ?_
  refine arg5 (k := 3) C hS hl (by omega) (by decide) dL_law_441 dL_law_442 dL_law_444 dL_law_445 dL_law_446 ?_
  refine lm_i (As := [.int (xs (i + 1)), .int (xs (i + 2)), .int (xs (i + 3))]) (rest := [.int r]) (M' := M') C hW hS hl.1 (c_X4_near l D cI cJ cZ cS ad _ _ _ _ _ _ _ _ _ _ M (xs (i + 1)) (xs (i + 2)) (xs (i + 3)) 1000 (r, M') h2) (cwV 3 hts gL_law_X4_near rfl rfl rfl (by decide +kernel) ⟨Nat.le_of_ble_eq_true rfl, Nat.le_of_ble_eq_true rfl⟩) rfl rfl (Nat.le_of_ble_eq_true rfl) dL_law_447 (by omega) (by omega) (fun H1 locs1 hW1 hS1 => ?_)
  refine lv_icmp_eq (tgt := 611) hx hb dL_law_450 (by decide) (fun _ => ?_) (fun q => absurd rfl q)
  exact K _ _ _ _ _ _ _ _ _ _ hW1 hR' hS1 hl (by omega) (by omega)
set_option maxHeartbeats 4000000 in
set_option maxRecDepth 100000 in
theorem op_boxed (C : LC p l s m c b L xs D cI cJ cZ cS ad) (hW : LW D cI cJ cZ cS ad (lA s) B adr hh X M f H) (hR : Rl X hh M) (hS : va_S (lA s) s.heap H locs) (hl : lv_has ls 7 [(0, .ref b), (1, .ref (la_x B)), (2, .ref (la_m B)), (3, .ref (la_o B)), (4, .int (nI i))]) (hi : i + 5 ≤ L) (hc : cells ≤ 100 + 3 * i) (hs : slots ≤ 5000 + 59 * i) (K : LK p l e s m below meth c b D cI cJ cZ cS ad B i cells slots Q) : W p l e room_1 s m #[Value.ref b] below meth c H locs cells slots Q (F0 m 481 ls []) := by
  have hx := C.1
  have hb := C.2.1
  have hts := C.2.2.2.2.1
  have hL : L ≤ 2560 := C.2.2.2.2.2.2.2.2.2.2.2.2
  refine lv_aload_n hx hb dL_law_481 rfl (lv_at hl 1 rfl) ?_
  refine arg5 (k := 1) C hS hl (by omega) (by decide) dL_law_482 dL_law_483 dL_law_485 dL_law_486 dL_law_487 ?_
  refine arg5 (k := 2) C hS hl (by omega) (by decide) dL_law_488 dL_law_489 dL_law_491 dL_law_492 dL_law_493 ?_
  refine arg5 (k := 3) C hS hl (by omega) (by decide) dL_law_494 dL_law_495 dL_law_497 dL_law_498 dL_law_499 ?_
  refine arg5 (k := 4) C hS hl (by omega) (by decide) dL_law_500 dL_law_501 dL_law_503 dL_law_504 dL_law_505 ?_
  obtain ⟨r, X', M', h1, h2, hR'⟩ := o_boxed hR (xs (i + 1)) (xs (i + 2)) (xs (i + 3)) (xs (i + 4)) F1000
  refine lx_wi (As := [.int (xs (i + 1)), .int (xs (i + 2)), .int (xs (i + 3)), .int (xs (i + 4))]) (rest := []) (r := r) (X' := X') (mc := 0) (ms := 0) C hW hS hl.1 (c_X3_boxed l D cI cJ cZ cS ad _ _ _ _ _ _ _ adr _ X hh (xs (i + 1)) (xs (i + 2)) (xs (i + 3)) (xs (i + 4)) 1000 (r, X') h1) (cwV 4 hts gL_law_X3_boxed rfl rfl rfl (by decide +kernel) ⟨Nat.le_of_ble_eq_true rfl, Nat.le_of_ble_eq_true rfl⟩) rfl rfl (Nat.le_of_ble_eq_true rfl) dL_law_506 (by omega) (by omega) (fun H locs hW hS => ?_)
  refine lv_aload_n hx hb dL_law_509 rfl (lv_at hl 2 rfl) ?_
  refine arg5 (k := 1) C hS hl (by omega) (by decide) dL_law_510 dL_law_511 dL_law_513 dL_law_514 dL_law_515 ?_
  refine arg5 (k := 2) C hS hl (by omega) (by decide) dL_law_516 dL_law_517 dL_law_519 dL_law_520 dL_law_521 ?_
  refine arg5 (k := 3) C hS hl (by omega) (by decide) dL_law_522 dL_law_523 dL_law_525 dL_law_526 dL_law_527 ?_
  refine arg5 (k := 4) C hS hl (by omega) (by decide) dL_law_528 dL_law_529 dL_law_531 dL_law_532 dL_law_533 ?_
  refine lm_i (As := [.int (xs (i + 1)), .int (xs (i + 2)), .int (xs (i + 3)), .int (xs (i + 4))]) (rest := [.int r]) (M' := M') C hW hS hl.1 (c_X4_boxed l D cI cJ cZ cS ad _ _ _ _ _ _ _ _ _ _ M (xs (i + 1)) (xs (i + 2)) (xs (i + 3)) (xs (i + 4)) 1000 (r, M') h2) (cwV 4 hts gL_law_X4_boxed rfl rfl rfl (by decide +kernel) ⟨Nat.le_of_ble_eq_true rfl, Nat.le_of_ble_eq_true rfl⟩) rfl rfl (Nat.le_of_ble_eq_true rfl) dL_law_534 (by omega) (by omega) (fun H1 locs1 hW1 hS1 => ?_)
  refine lv_icmp_eq (tgt := 611) hx hb dL_law_537 (by decide) (fun _ => ?_) (fun q => absurd rfl q)
  exact K _ _ _ _ _ _ _ _ _ _ hW1 hR' hS1 hl (by omega) (by omega)
set_option maxHeartbeats 4000000 in
set_option maxRecDepth 100000 in
theorem op_line (C : LC p l s m c b L xs D cI cJ cZ cS ad) (hW : LW D cI cJ cZ cS ad (lA s) B adr hh X M f H) (hR : Rl X hh M) (hS : va_S (lA s) s.heap H locs) (hl : lv_has ls 7 [(0, .ref b), (1, .ref (la_x B)), (2, .ref (la_m B)), (3, .ref (la_o B)), (4, .int (nI i))]) (hi : i + 5 ≤ L) (hc : cells ≤ 100 + 3 * i) (hs : slots ≤ 5000 + 59 * i) (K : LK p l e s m below meth c b D cI cJ cZ cS ad B i cells slots Q) : W p l e room_1 s m #[Value.ref b] below meth c H locs cells slots Q (F0 m 145 ls []) := by
  have hx := C.1
  have hb := C.2.1
  have hts := C.2.2.2.2.1
  have hL : L ≤ 2560 := C.2.2.2.2.2.2.2.2.2.2.2.2
  refine lv_aload_n hx hb dL_law_145 rfl (lv_at hl 1 rfl) ?_
  rcases o_line hR 1000 with ⟨h1, h2⟩ | ⟨j, M', hj, hn, h2, hR'⟩
  · refine lx_ri (As := []) (rest := []) (r := (-2)) C hW hS hl.1 (c_X3_line l D cI cJ cZ cS ad _ _ _ _ _ _ _ adr X hh 1000 (-2) h1) (cwV 0 hts gL_law_X3_line rfl rfl rfl (by decide +kernel) ⟨Nat.le_of_ble_eq_true rfl, Nat.le_of_ble_eq_true rfl⟩) rfl rfl (Nat.le_of_ble_eq_true rfl) dL_law_146 (by omega) (by omega) ?_
    refine lv_aload_n hx hb dL_law_149 rfl (lv_at hl 2 rfl) ?_
    refine lm_i (As := []) (rest := [.int (-2)]) (M' := ms_t M 0) C hW hS hl.1 (c_X4_line l D cI cJ cZ cS ad _ _ _ _ _ _ _ _ _ _ M 1000 ((-2), ms_t M 0) h2) (cwV 0 hts gL_law_X4_line rfl rfl rfl (by decide +kernel) ⟨Nat.le_of_ble_eq_true rfl, Nat.le_of_ble_eq_true rfl⟩) rfl rfl (Nat.le_of_ble_eq_true rfl) dL_law_150 (by omega) (by omega) (fun H1 locs1 hW1 hS1 => ?_)
    refine lv_icmp_eq (tgt := 611) hx hb dL_law_153 (by decide) (fun _ => ?_) (fun q => absurd rfl q)
    exact K _ _ _ _ _ _ _ _ _ _ hW1 hR hS1 hl (by omega) (by omega)
  · refine lx_new (i := j) (S := sh_0 1) (As := []) (rest := []) (r := pp_n X) (X' := pt_s (pt_n X (pp_n X + 1)) (pp_s X + 1)) C hW hS (Rl_no hR hj hn) (by decide) hl.1 (c_X3_line_ok l D cI cJ cZ cS ad _ _ _ _ _ _ _ adr X hh _ j hj hn) (cwV 0 hts gL_law_X3_line rfl rfl rfl (by decide +kernel) ⟨Nat.le_of_ble_eq_true rfl, Nat.le_of_ble_eq_true rfl⟩) rfl rfl (Nat.le_of_ble_eq_true rfl) dL_law_146 (by omega) (by omega) (fun u H locs hW hS => ?_)
    refine lv_aload_n hx hb dL_law_149 rfl (lv_at hl 2 rfl) ?_
    refine lm_i (As := []) (rest := [.int (pp_n X)]) (M' := M') C hW hS hl.1 (c_X4_line l D cI cJ cZ cS ad _ _ _ _ _ _ _ _ _ _ M 1000 ((pp_n X), M') h2) (cwV 0 hts gL_law_X4_line rfl rfl rfl (by decide +kernel) ⟨Nat.le_of_ble_eq_true rfl, Nat.le_of_ble_eq_true rfl⟩) rfl rfl (Nat.le_of_ble_eq_true rfl) dL_law_150 (by omega) (by omega) (fun H1 locs1 hW1 hS1 => ?_)
    refine lv_icmp_eq (tgt := 611) hx hb dL_law_153 (by decide) (fun _ => ?_) (fun q => absurd rfl q)
    exact K _ _ _ _ _ _ _ _ _ _ hW1 hR' hS1 hl (by omega) (by omega)
set_option maxHeartbeats 4000000 in
set_option maxRecDepth 100000 in
theorem op_polygon (C : LC p l s m c b L xs D cI cJ cZ cS ad) (hW : LW D cI cJ cZ cS ad (lA s) B adr hh X M f H) (hR : Rl X hh M) (hS : va_S (lA s) s.heap H locs) (hl : lv_has ls 7 [(0, .ref b), (1, .ref (la_x B)), (2, .ref (la_m B)), (3, .ref (la_o B)), (4, .int (nI i))]) (hi : i + 5 ≤ L) (hc : cells ≤ 100 + 3 * i) (hs : slots ≤ 5000 + 59 * i) (K : LK p l e s m below meth c b D cI cJ cZ cS ad B i cells slots Q) : W p l e room_1 s m #[Value.ref b] below meth c H locs cells slots Q (F0 m 158 ls []) := by
  have hx := C.1
  have hb := C.2.1
  have hts := C.2.2.2.2.1
  have hL : L ≤ 2560 := C.2.2.2.2.2.2.2.2.2.2.2.2
  refine lv_aload_n hx hb dL_law_158 rfl (lv_at hl 1 rfl) ?_
  rcases o_polygon hR 1000 with ⟨h1, h2⟩ | ⟨j, M', hj, hn, h2, hR'⟩
  · refine lx_ri (As := []) (rest := []) (r := (-2)) C hW hS hl.1 (c_X3_polygon l D cI cJ cZ cS ad _ _ _ _ _ _ _ adr X hh 1000 (-2) h1) (cwV 0 hts gL_law_X3_polygon rfl rfl rfl (by decide +kernel) ⟨Nat.le_of_ble_eq_true rfl, Nat.le_of_ble_eq_true rfl⟩) rfl rfl (Nat.le_of_ble_eq_true rfl) dL_law_159 (by omega) (by omega) ?_
    refine lv_aload_n hx hb dL_law_162 rfl (lv_at hl 2 rfl) ?_
    refine lm_i (As := []) (rest := [.int (-2)]) (M' := ms_t M 0) C hW hS hl.1 (c_X4_polygon l D cI cJ cZ cS ad _ _ _ _ _ _ _ _ _ _ M 1000 ((-2), ms_t M 0) h2) (cwV 0 hts gL_law_X4_polygon rfl rfl rfl (by decide +kernel) ⟨Nat.le_of_ble_eq_true rfl, Nat.le_of_ble_eq_true rfl⟩) rfl rfl (Nat.le_of_ble_eq_true rfl) dL_law_163 (by omega) (by omega) (fun H1 locs1 hW1 hS1 => ?_)
    refine lv_icmp_eq (tgt := 611) hx hb dL_law_166 (by decide) (fun _ => ?_) (fun q => absurd rfl q)
    exact K _ _ _ _ _ _ _ _ _ _ hW1 hR hS1 hl (by omega) (by omega)
  · refine lx_new (i := j) (S := sh_0 2) (As := []) (rest := []) (r := pp_n X) (X' := pt_s (pt_n X (pp_n X + 1)) (pp_s X + 1)) C hW hS (Rl_no hR hj hn) (by decide) hl.1 (c_X3_polygon_ok l D cI cJ cZ cS ad _ _ _ _ _ _ _ adr X hh _ j hj hn) (cwV 0 hts gL_law_X3_polygon rfl rfl rfl (by decide +kernel) ⟨Nat.le_of_ble_eq_true rfl, Nat.le_of_ble_eq_true rfl⟩) rfl rfl (Nat.le_of_ble_eq_true rfl) dL_law_159 (by omega) (by omega) (fun u H locs hW hS => ?_)
    refine lv_aload_n hx hb dL_law_162 rfl (lv_at hl 2 rfl) ?_
    refine lm_i (As := []) (rest := [.int (pp_n X)]) (M' := M') C hW hS hl.1 (c_X4_polygon l D cI cJ cZ cS ad _ _ _ _ _ _ _ _ _ _ M 1000 ((pp_n X), M') h2) (cwV 0 hts gL_law_X4_polygon rfl rfl rfl (by decide +kernel) ⟨Nat.le_of_ble_eq_true rfl, Nat.le_of_ble_eq_true rfl⟩) rfl rfl (Nat.le_of_ble_eq_true rfl) dL_law_163 (by omega) (by omega) (fun H1 locs1 hW1 hS1 => ?_)
    refine lv_icmp_eq (tgt := 611) hx hb dL_law_166 (by decide) (fun _ => ?_) (fun q => absurd rfl q)
    exact K _ _ _ _ _ _ _ _ _ _ hW1 hR' hS1 hl (by omega) (by omega)
set_option maxHeartbeats 4000000 in
set_option maxRecDepth 100000 in
theorem op_point (C : LC p l s m c b L xs D cI cJ cZ cS ad) (hW : LW D cI cJ cZ cS ad (lA s) B adr hh X M f H) (hR : Rl X hh M) (hS : va_S (lA s) s.heap H locs) (hl : lv_has ls 7 [(0, .ref b), (1, .ref (la_x B)), (2, .ref (la_m B)), (3, .ref (la_o B)), (4, .int (nI i))]) (hi : i + 5 ≤ L) (hc : cells ≤ 100 + 3 * i) (hs : slots ≤ 5000 + 59 * i) (K : LK p l e s m below meth c b D cI cJ cZ cS ad B i cells slots Q) : W p l e room_1 s m #[Value.ref b] below meth c H locs cells slots Q (F0 m 108 ls []) := by
  have hx := C.1
  have hb := C.2.1
  have hts := C.2.2.2.2.1
  have hL : L ≤ 2560 := C.2.2.2.2.2.2.2.2.2.2.2.2
  refine lv_aload_n hx hb dL_law_108 rfl (lv_at hl 1 rfl) ?_
  refine arg5 (k := 1) C hS hl (by omega) (by decide) dL_law_109 dL_law_110 dL_law_112 dL_law_113 dL_law_114 ?_
  refine arg5 (k := 2) C hS hl (by omega) (by decide) dL_law_115 dL_law_116 dL_law_118 dL_law_119 dL_law_120 ?_
  rcases o_point hR (xs (i + 1)) (xs (i + 2)) F1000 with ⟨r, h1, h2⟩ | ⟨j, T, M', hj, hn, hpl, ho, ha, h2, hR'⟩
  · refine lx_ri (As := [.int (xs (i + 1)), .int (xs (i + 2))]) (rest := []) (r := r) C hW hS hl.1 (c_X3_point l D cI cJ cZ cS ad _ _ _ _ _ _ _ adr X hh (xs (i + 1)) (xs (i + 2)) 1000 r h1) (cwV 2 hts gL_law_X3_point rfl rfl rfl (by decide +kernel) ⟨Nat.le_of_ble_eq_true rfl, Nat.le_of_ble_eq_true rfl⟩) rfl rfl (Nat.le_of_ble_eq_true rfl) dL_law_121 (by omega) (by omega) ?_
    refine lv_aload_n hx hb dL_law_124 rfl (lv_at hl 2 rfl) ?_
    refine arg5 (k := 1) C hS hl (by omega) (by decide) dL_law_125 dL_law_126 dL_law_128 dL_law_129 dL_law_130 ?_
    refine arg5 (k := 2) C hS hl (by omega) (by decide) dL_law_131 dL_law_132 dL_law_134 dL_law_135 dL_law_136 ?_
    refine lm_i (As := [.int (xs (i + 1)), .int (xs (i + 2))]) (rest := [.int r]) (M' := ms_t M 0) C hW hS hl.1 (c_X4_point l D cI cJ cZ cS ad _ _ _ _ _ _ _ _ _ _ M (xs (i + 1)) (xs (i + 2)) 1000 (r, ms_t M 0) h2) (cwV 2 hts gL_law_X4_point rfl rfl rfl (by decide +kernel) ⟨Nat.le_of_ble_eq_true rfl, Nat.le_of_ble_eq_true rfl⟩) rfl rfl (Nat.le_of_ble_eq_true rfl) dL_law_137 (by omega) (by omega) (fun H1 locs1 hW1 hS1 => ?_)
    refine lv_icmp_eq (tgt := 611) hx hb dL_law_140 (by decide) (fun _ => ?_) (fun q => absurd rfl q)
    exact K _ _ _ _ _ _ _ _ _ _ hW1 hR hS1 hl (by omega) (by omega)
  · refine lx_new (i := j) (S := T) (As := [.int (xs (i + 1)), .int (xs (i + 2))]) (rest := []) (r := pp_n X) (X' := pt_o (pt_s (pt_n X (pp_n X + 1)) (pp_s X + 1)) (pp_o X + 1)) C hW hS (Rl_no hR hj hn) (Rl_k3 hR' (uv_s _ _ _)) hl.1 (c_X3_point_ok l D cI cJ cZ cS ad _ _ _ _ _ _ _ adr X hh _ j (xs (i + 1)) (xs (i + 2)) 1000 T hj hn hpl ho ha) (cwV 2 hts gL_law_X3_point rfl rfl rfl (by decide +kernel) ⟨Nat.le_of_ble_eq_true rfl, Nat.le_of_ble_eq_true rfl⟩) rfl rfl (Nat.le_of_ble_eq_true rfl) dL_law_121 (by omega) (by omega) (fun u H locs hW hS => ?_)
    refine lv_aload_n hx hb dL_law_124 rfl (lv_at hl 2 rfl) ?_
    refine arg5 (k := 1) C hS hl (by omega) (by decide) dL_law_125 dL_law_126 dL_law_128 dL_law_129 dL_law_130 ?_
    refine arg5 (k := 2) C hS hl (by omega) (by decide) dL_law_131 dL_law_132 dL_law_134 dL_law_135 dL_law_136 ?_
    refine lm_i (As := [.int (xs (i + 1)), .int (xs (i + 2))]) (rest := [.int (pp_n X)]) (M' := M') C hW hS hl.1 (c_X4_point l D cI cJ cZ cS ad _ _ _ _ _ _ _ _ _ _ M (xs (i + 1)) (xs (i + 2)) 1000 ((pp_n X), M') h2) (cwV 2 hts gL_law_X4_point rfl rfl rfl (by decide +kernel) ⟨Nat.le_of_ble_eq_true rfl, Nat.le_of_ble_eq_true rfl⟩) rfl rfl (Nat.le_of_ble_eq_true rfl) dL_law_137 (by omega) (by omega) (fun H1 locs1 hW1 hS1 => ?_)
    refine lv_icmp_eq (tgt := 611) hx hb dL_law_140 (by decide) (fun _ => ?_) (fun q => absurd rfl q)
    exact K _ _ _ _ _ _ _ _ _ _ hW1 hR' hS1 hl (by omega) (by omega)
set_option maxHeartbeats 4000000 in
set_option maxRecDepth 100000 in
theorem op_corner (C : LC p l s m c b L xs D cI cJ cZ cS ad) (hW : LW D cI cJ cZ cS ad (lA s) B adr hh X M f H) (hR : Rl X hh M) (hS : va_S (lA s) s.heap H locs) (hl : lv_has ls 7 [(0, .ref b), (1, .ref (la_x B)), (2, .ref (la_m B)), (3, .ref (la_o B)), (4, .int (nI i))]) (hi : i + 5 ≤ L) (hc : cells ≤ 100 + 3 * i) (hs : slots ≤ 5000 + 59 * i) (K : LK p l e s m below meth c b D cI cJ cZ cS ad B i cells slots Q) : W p l e room_1 s m #[Value.ref b] below meth c H locs cells slots Q (F0 m 171 ls []) := by
  have hx := C.1
  have hb := C.2.1
  have hts := C.2.2.2.2.1
  have hL : L ≤ 2560 := C.2.2.2.2.2.2.2.2.2.2.2.2
  refine lv_aload_n hx hb dL_law_171 rfl (lv_at hl 1 rfl) ?_
  refine arg5 (k := 1) C hS hl (by omega) (by decide) dL_law_172 dL_law_173 dL_law_175 dL_law_176 dL_law_177 ?_
  refine arg5 (k := 2) C hS hl (by omega) (by decide) dL_law_178 dL_law_179 dL_law_181 dL_law_182 dL_law_183 ?_
  refine arg5 (k := 3) C hS hl (by omega) (by decide) dL_law_184 dL_law_185 dL_law_187 dL_law_188 dL_law_189 ?_
  rcases o_corner hR (xs (i + 1)) (xs (i + 2)) (xs (i + 3)) F1000 with ⟨r, h1, h2⟩ | ⟨S, T, M', hk3, hst, hk0, hpl, ho, hz, ha, h2, hR'⟩
  · refine lx_ri (As := [.int (xs (i + 1)), .int (xs (i + 2)), .int (xs (i + 3))]) (rest := []) (r := r) C hW hS hl.1 (c_X3_corner l D cI cJ cZ cS ad _ _ _ _ _ _ _ adr X hh (xs (i + 1)) (xs (i + 2)) (xs (i + 3)) 1000 r h1) (cwV 3 hts gL_law_X3_corner rfl rfl rfl (by decide +kernel) ⟨Nat.le_of_ble_eq_true rfl, Nat.le_of_ble_eq_true rfl⟩) rfl rfl (Nat.le_of_ble_eq_true rfl) dL_law_190 (by omega) (by omega) ?_
    refine lv_aload_n hx hb dL_law_193 rfl (lv_at hl 2 rfl) ?_
    refine arg5 (k := 1) C hS hl (by omega) (by decide) dL_law_194 dL_law_195 dL_law_197 dL_law_198 dL_law_199 ?_
    refine arg5 (k := 2) C hS hl (by omega) (by decide) dL_law_200 dL_law_201 dL_law_203 dL_law_204 dL_law_205 ?_
    refine arg5 (k := 3) C hS hl (by omega) (by decide) dL_law_206 dL_law_207 dL_law_209 dL_law_210 dL_law_211 ?_
    refine lm_i (As := [.int (xs (i + 1)), .int (xs (i + 2)), .int (xs (i + 3))]) (rest := [.int r]) (M' := ms_t M 0) C hW hS hl.1 (c_X4_corner l D cI cJ cZ cS ad _ _ _ _ _ _ _ _ _ _ M (xs (i + 1)) (xs (i + 2)) (xs (i + 3)) 1000 (r, ms_t M 0) h2) (cwV 3 hts gL_law_X4_corner rfl rfl rfl (by decide +kernel) ⟨Nat.le_of_ble_eq_true rfl, Nat.le_of_ble_eq_true rfl⟩) rfl rfl (Nat.le_of_ble_eq_true rfl) dL_law_212 (by omega) (by omega) (fun H1 locs1 hW1 hS1 => ?_)
    refine lv_icmp_eq (tgt := 611) hx hb dL_law_215 (by decide) (fun _ => ?_) (fun q => absurd rfl q)
    exact K _ _ _ _ _ _ _ _ _ _ hW1 hR hS1 hl (by omega) (by omega)
  · refine lx_set (i := (xs (i + 1)).toNatClampNeg) (S := S) (T := T) (As := [.int (xs (i + 1)), .int (xs (i + 2)), .int (xs (i + 3))]) (rest := []) (r := sh_z T) (X' := pt_o X (pp_o X + 1)) C hW hS (st_h hst) (Rl_k3 hR' (uv_s _ _ _)) hl.1 (c_X3_corner_ok l D cI cJ cZ cS ad _ _ _ _ _ _ _ adr X hh _ (xs (i + 1)) (xs (i + 2)) (xs (i + 3)) 1000 S T hk3 hst hk0 hpl ho hz ha) (cwV 3 hts gL_law_X3_corner rfl rfl rfl (by decide +kernel) ⟨Nat.le_of_ble_eq_true rfl, Nat.le_of_ble_eq_true rfl⟩) rfl rfl (Nat.le_of_ble_eq_true rfl) dL_law_190 (by omega) (by omega) (fun H locs hW hS => ?_)
    refine lv_aload_n hx hb dL_law_193 rfl (lv_at hl 2 rfl) ?_
    refine arg5 (k := 1) C hS hl (by omega) (by decide) dL_law_194 dL_law_195 dL_law_197 dL_law_198 dL_law_199 ?_
    refine arg5 (k := 2) C hS hl (by omega) (by decide) dL_law_200 dL_law_201 dL_law_203 dL_law_204 dL_law_205 ?_
    refine arg5 (k := 3) C hS hl (by omega) (by decide) dL_law_206 dL_law_207 dL_law_209 dL_law_210 dL_law_211 ?_
    refine lm_i (As := [.int (xs (i + 1)), .int (xs (i + 2)), .int (xs (i + 3))]) (rest := [.int (sh_z T)]) (M' := M') C hW hS hl.1 (c_X4_corner l D cI cJ cZ cS ad _ _ _ _ _ _ _ _ _ _ M (xs (i + 1)) (xs (i + 2)) (xs (i + 3)) 1000 ((sh_z T), M') h2) (cwV 3 hts gL_law_X4_corner rfl rfl rfl (by decide +kernel) ⟨Nat.le_of_ble_eq_true rfl, Nat.le_of_ble_eq_true rfl⟩) rfl rfl (Nat.le_of_ble_eq_true rfl) dL_law_212 (by omega) (by omega) (fun H1 locs1 hW1 hS1 => ?_)
    refine lv_icmp_eq (tgt := 611) hx hb dL_law_215 (by decide) (fun _ => ?_) (fun q => absurd rfl q)
    exact K _ _ _ _ _ _ _ _ _ _ hW1 hR' hS1 hl (by omega) (by omega)
set_option maxHeartbeats 4000000 in
set_option maxRecDepth 100000 in
theorem op_remove (C : LC p l s m c b L xs D cI cJ cZ cS ad) (hW : LW D cI cJ cZ cS ad (lA s) B adr hh X M f H) (hR : Rl X hh M) (hS : va_S (lA s) s.heap H locs) (hl : lv_has ls 7 [(0, .ref b), (1, .ref (la_x B)), (2, .ref (la_m B)), (3, .ref (la_o B)), (4, .int (nI i))]) (hi : i + 5 ≤ L) (hc : cells ≤ 100 + 3 * i) (hs : slots ≤ 5000 + 59 * i) (K : LK p l e s m below meth c b D cI cJ cZ cS ad B i cells slots Q) : W p l e room_1 s m #[Value.ref b] below meth c H locs cells slots Q (F0 m 220 ls []) := by
  have hx := C.1
  have hb := C.2.1
  have hts := C.2.2.2.2.1
  have hL : L ≤ 2560 := C.2.2.2.2.2.2.2.2.2.2.2.2
  refine lv_aload_n hx hb dL_law_220 rfl (lv_at hl 1 rfl) ?_
  refine arg5 (k := 1) C hS hl (by omega) (by decide) dL_law_221 dL_law_222 dL_law_224 dL_law_225 dL_law_226 ?_
  rcases o_remove hR (xs (i + 1)) 1000 with ⟨h1, h2⟩ | ⟨S, M', hst, h2, hR'⟩
  · refine lx_ri (As := [.int (xs (i + 1))]) (rest := []) (r := (-1)) C hW hS hl.1 (c_X3_remove l D cI cJ cZ cS ad _ _ _ _ _ _ _ adr X hh (xs (i + 1)) 1000 (-1) h1) (cwV 1 hts gL_law_X3_remove rfl rfl rfl (by decide +kernel) ⟨Nat.le_of_ble_eq_true rfl, Nat.le_of_ble_eq_true rfl⟩) rfl rfl (Nat.le_of_ble_eq_true rfl) dL_law_227 (by omega) (by omega) ?_
    refine lv_aload_n hx hb dL_law_230 rfl (lv_at hl 2 rfl) ?_
    refine arg5 (k := 1) C hS hl (by omega) (by decide) dL_law_231 dL_law_232 dL_law_234 dL_law_235 dL_law_236 ?_
    refine lm_i (As := [.int (xs (i + 1))]) (rest := [.int (-1)]) (M' := ms_t M 0) C hW hS hl.1 (c_X4_remove l D cI cJ cZ cS ad _ _ _ _ _ _ _ _ _ _ M (xs (i + 1)) 1000 ((-1), ms_t M 0) h2) (cwV 1 hts gL_law_X4_remove rfl rfl rfl (by decide +kernel) ⟨Nat.le_of_ble_eq_true rfl, Nat.le_of_ble_eq_true rfl⟩) rfl rfl (Nat.le_of_ble_eq_true rfl) dL_law_237 (by omega) (by omega) (fun H1 locs1 hW1 hS1 => ?_)
    refine lv_icmp_eq (tgt := 611) hx hb dL_law_240 (by decide) (fun _ => ?_) (fun q => absurd rfl q)
    exact K _ _ _ _ _ _ _ _ _ _ hW1 hR hS1 hl (by omega) (by omega)
  · refine lx_del (i := (xs (i + 1)).toNatClampNeg) (As := [.int (xs (i + 1))]) (rest := []) (r := 1) (X' := pt_s X (pp_s X - 1)) C hW hS hl.1 (c_X3_remove_ok l D cI cJ cZ cS ad _ _ _ _ _ _ _ adr X hh _ (xs (i + 1)) S hst) (cwV 1 hts gL_law_X3_remove rfl rfl rfl (by decide +kernel) ⟨Nat.le_of_ble_eq_true rfl, Nat.le_of_ble_eq_true rfl⟩) rfl rfl (Nat.le_of_ble_eq_true rfl) dL_law_227 (by omega) (by omega) (fun H locs hW hS => ?_)
    refine lv_aload_n hx hb dL_law_230 rfl (lv_at hl 2 rfl) ?_
    refine arg5 (k := 1) C hS hl (by omega) (by decide) dL_law_231 dL_law_232 dL_law_234 dL_law_235 dL_law_236 ?_
    refine lm_i (As := [.int (xs (i + 1))]) (rest := [.int 1]) (M' := M') C hW hS hl.1 (c_X4_remove l D cI cJ cZ cS ad _ _ _ _ _ _ _ _ _ _ M (xs (i + 1)) 1000 (1, M') h2) (cwV 1 hts gL_law_X4_remove rfl rfl rfl (by decide +kernel) ⟨Nat.le_of_ble_eq_true rfl, Nat.le_of_ble_eq_true rfl⟩) rfl rfl (Nat.le_of_ble_eq_true rfl) dL_law_237 (by omega) (by omega) (fun H1 locs1 hW1 hS1 => ?_)
    refine lv_icmp_eq (tgt := 611) hx hb dL_law_240 (by decide) (fun _ => ?_) (fun q => absurd rfl q)
    exact K _ _ _ _ _ _ _ _ _ _ hW1 hR' hS1 hl (by omega) (by omega)
end LOP
