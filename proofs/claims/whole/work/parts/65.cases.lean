section
variable {p : Program} {l : Launch} {e : Env} {s : State} {m : MethodId} {below : List Frame} {meth : Method} {c : Code} {b L : Nat} {xs : Nat → Int32} {D : va_G} {cJ cZ : ClassId} {H : Heap} {locs : List Loc} {cells slots : Nat} {Q : State → Prop} {ls : Array Slot} {dk mo i : Nat}
set_option maxHeartbeats 4000000 in
set_option maxRecDepth 100000 in
theorem cs_add (hF : LF p s m c b L xs) (hE : EV D cJ cZ s) (hL : L ≤ 3072) (hi : i + 6 ≤ L) (hl : lv_has ls 4 [(0, .ref b), (1, .ref dk), (2, .ref mo), (3, .int (nI i))]) (hcl : cells + 3 ≤ room_1.cells) (hsl : slots + 10 ≤ room_1.slots) (hI : IV D cJ cZ dk mo s H locs) (nx : ∀ (H : Heap) (locs : List Loc), IV D cJ cZ dk mo s H locs → W p l e room_1 s m #[Value.ref b] below meth c H locs (cells + 3) (slots + 10) Q (F0 m 1067 ls [])) : W p l e room_1 s m #[Value.ref b] below meth c H locs cells slots Q (F0 m 340 ls []) := by
  obtain ⟨C0, hX, hbl⟩ := id hF
  have hx := C0.1
  have hb := C0.2.1
  have hA : ∀ q : Nat, s.heap.size ≤ q → LA s q := fun _ h => h
  obtain ⟨N, hN⟩ : ∃ N : Nat, 100000 ≤ N := ⟨100000, Nat.le_refl _⟩
  have hc0 : cells ≤ room_1.cells := Nat.le_trans (Nat.le_add_right cells 3) hcl
  have hs0 : slots ≤ room_1.slots := Nat.le_trans (Nat.le_add_right slots 10) hsl
  obtain ⟨hS, hM⟩ := hI
  rcases hM with ⟨so, vo, a1, a2, a3, a4, a5, zS, zV, zx, zy, zi, zu, zv, zl, zpx, zpy, zip, zvu, zvv, hP, hD⟩ | ⟨so, vo, po, co, fo, a1, a2, a3, a4, a5, P, R, hh, ne, h, zt, zS, zV, zx, zy, zi, zu, zv, zl, zpx, zpy, zip, zvu, zvv, pP, h0, hR, hH, hP, hD, sR, vR⟩
  · have hP : va_P D vwCl ((wN cJ dk so vo zS zV) ++ (wM cJ cZ mo a1 a2 a3 a4 a5 0 0 0 zx zy zi zu zv zl zpx zpy zip zvu zvv)) H := hP
    have hD : va_D (LA s) ((wN cJ dk so vo zS zV) ++ (wM cJ cZ mo a1 a2 a3 a4 a5 0 0 0 zx zy zi zu zv zl zpx zpy zip zvu zvv)) := hD
    refine lv_aload_n hx hb dL_law_340 rfl (lv_at hl 1 rfl) ?_
    refine sc_ld (k := 1) hF hS hl (by omega) hL dL_law_341 dL_law_342 dL_law_343 (by decide) dL_law_344 dL_law_345 ?_
    refine sc_ld (k := 2) hF hS hl (by omega) hL dL_law_346 dL_law_347 dL_law_348 (by decide) dL_law_349 dL_law_350 ?_
    refine sc_ld (k := 3) hF hS hl (by omega) hL dL_law_351 dL_law_352 dL_law_353 (by decide) dL_law_354 dL_law_355 ?_
    refine ki (kV (As := [.int (xs (i + 1)), .int (xs (i + 2)), .int (xs (i + 3))]) (rest := []) C0 (kX3_add_null l D cJ cZ dk so vo zS zV (xs (i + 1)) (xs (i + 2)) (xs (i + 3)) (-3) rfl) gL_law_X3_add rfl ⟨rfl, rfl⟩ hdX3_add ⟨Nat.le_of_ble_eq_true rfl, Nat.le_of_ble_eq_true rfl⟩ 3 0 rfl rfl rfl (hP.sub [0, 1, 2] rfl) hE hl rfl rfl (Nat.le_of_ble_eq_true rfl) dL_law_356 hc0 hs0) ?_
    refine lv_aload_n hx hb dL_law_359 rfl (lv_at hl 2 rfl) ?_
    refine sc_ld (k := 1) hF hS hl (by omega) hL dL_law_360 dL_law_361 dL_law_362 (by decide) dL_law_363 dL_law_364 ?_
    refine sc_ld (k := 2) hF hS hl (by omega) hL dL_law_365 dL_law_366 dL_law_367 (by decide) dL_law_368 dL_law_369 ?_
    refine sc_ld (k := 3) hF hS hl (by omega) hL dL_law_370 dL_law_371 dL_law_372 (by decide) dL_law_373 dL_law_374 ?_
    refine kE (wc := (wM cJ cZ mo a1 a2 a3 a4 a5 0 0 0 zx zy zi zu zv zl zpx zpy zip zvu zvv)) (wr := (wN cJ dk so vo zS zV)) [3, 4, 5, 6, 7, 8] [0, 1, 2] hP hD hS hA rfl rfl rfl (by decide) rfl (eV (As := [.int (xs (i + 1)), .int (xs (i + 2)), .int (xs (i + 3))]) (rest := [.int (-3)]) C0 (kX4_add l D cJ cZ mo a1 a2 a3 a4 a5 N 0 0 0 zx zy zi zu zv zl zpx zpy zip zvu zvv (xs (i + 1)) (xs (i + 2)) (xs (i + 3)) H.size (-3) zx zy zi zpx zpy zip (by unfold fX4_add; exact if_pos rfl)) gL_law_X4_add rfl ⟨rfl, rfl⟩ hdX4_add ⟨Nat.le_of_ble_eq_true rfl, Nat.le_of_ble_eq_true rfl⟩ 4 0 rfl rfl rfl (hP.sub [3, 4, 5, 6, 7, 8] rfl) (hD.sub [3, 4, 5, 6, 7, 8] rfl rfl) hE hl rfl rfl (Nat.le_of_ble_eq_true rfl) dL_law_375 ⟨hc0, hs0⟩) (fun H locs hP hD hS => ?_)
    refine W.eq (g2 := F0 m 378 ls [.int (-3), .int (-3)]) rfl ?_
    refine lv_icmp_eq (tgt := 1067) hx hb dL_law_378 (by decide) (fun _ => ?_) (fun cx => absurd rfl cx)
    exact W.widen (by omega) (by omega) (nx _ _ ⟨hS, .inl ⟨so, vo, a1, a2, a3, a4, a5, zS, zV, zx, zy, zi, zu, zv, zl, zpx, zpy, zip, zvu, zvv, hP, hD⟩⟩)
  · obtain ⟨r, czS, mzx, mzy, mzi, mzpx, mzpy, mzip, k1, k2, k3⟩ := g_add h pP hN sR zx zy zi (xs (i + 1)) (xs (i + 2)) (xs (i + 3))
    have hP : va_P D vwCl ((wF cJ dk so vo po co fo (lN P) (lN R) (lN hh) (ept (tT h hh 1).1) zt zS zV) ++ (wM cJ cZ mo a1 a2 a3 a4 a5 (lN P) (lN R) (lN hh) zx zy zi zu zv zl zpx zpy zip zvu zvv)) H := hP
    have hD : va_D (LA s) ((wF cJ dk so vo po co fo (lN P) (lN R) (lN hh) (ept (tT h hh 1).1) zt zS zV) ++ (wM cJ cZ mo a1 a2 a3 a4 a5 (lN P) (lN R) (lN hh) zx zy zi zu zv zl zpx zpy zip zvu zvv)) := hD
    refine lv_aload_n hx hb dL_law_340 rfl (lv_at hl 1 rfl) ?_
    refine sc_ld (k := 1) hF hS hl (by omega) hL dL_law_341 dL_law_342 dL_law_343 (by decide) dL_law_344 dL_law_345 ?_
    refine sc_ld (k := 2) hF hS hl (by omega) hL dL_law_346 dL_law_347 dL_law_348 (by decide) dL_law_349 dL_law_350 ?_
    refine sc_ld (k := 3) hF hS hl (by omega) hL dL_law_351 dL_law_352 dL_law_353 (by decide) dL_law_354 dL_law_355 ?_
    refine kE (wc := (wF cJ dk so vo po co fo (lN P) (lN R) (lN hh) (ept (tT h hh 1).1) zt zS zV)) (wr := (wM cJ cZ mo a1 a2 a3 a4 a5 (lN P) (lN R) (lN hh) zx zy zi zu zv zl zpx zpy zip zvu zvv)) [0, 1, 2, 3, 4, 5] [6, 7, 8, 9, 10, 11] hP hD hS hA rfl rfl rfl (by decide) rfl (eV (As := [.int (xs (i + 1)), .int (xs (i + 2)), .int (xs (i + 3))]) (rest := []) C0 (kX3_add l D cJ cZ dk so vo po co fo N (lN P) (lN R) (lN hh) (ept (tT h hh 1).1) zt zS zV (xs (i + 1)) (xs (i + 2)) (xs (i + 3)) H.size r czS k1) gL_law_X3_add rfl ⟨rfl, rfl⟩ hdX3_add ⟨Nat.le_of_ble_eq_true rfl, Nat.le_of_ble_eq_true rfl⟩ 3 0 rfl rfl rfl (hP.sub [0, 1, 2, 3, 4, 5] rfl) (hD.sub [0, 1, 2, 3, 4, 5] rfl rfl) hE hl rfl rfl (Nat.le_of_ble_eq_true rfl) dL_law_356 ⟨hc0, hs0⟩) (fun H locs hP hD hS => ?_)
    have hP : va_P D vwCl ((wF cJ dk so vo po co fo (lN P) (lN R) (lN hh) (ept (tT h hh 1).1) zt czS zV) ++ (wM cJ cZ mo a1 a2 a3 a4 a5 (lN P) (lN R) (lN hh) zx zy zi zu zv zl zpx zpy zip zvu zvv)) H := hP.sub [6, 7, 8, 9, 10, 11, 0, 1, 2, 3, 4, 5] rfl
    have hD : va_D (LA s) ((wF cJ dk so vo po co fo (lN P) (lN R) (lN hh) (ept (tT h hh 1).1) zt czS zV) ++ (wM cJ cZ mo a1 a2 a3 a4 a5 (lN P) (lN R) (lN hh) zx zy zi zu zv zl zpx zpy zip zvu zvv)) := hD.sub [6, 7, 8, 9, 10, 11, 0, 1, 2, 3, 4, 5] rfl rfl
    refine W.eq (g2 := F0 m 359 ls [.int r]) rfl ?_
    refine lv_aload_n hx hb dL_law_359 rfl (lv_at hl 2 rfl) ?_
    refine sc_ld (k := 1) hF hS hl (by omega) hL dL_law_360 dL_law_361 dL_law_362 (by decide) dL_law_363 dL_law_364 ?_
    refine sc_ld (k := 2) hF hS hl (by omega) hL dL_law_365 dL_law_366 dL_law_367 (by decide) dL_law_368 dL_law_369 ?_
    refine sc_ld (k := 3) hF hS hl (by omega) hL dL_law_370 dL_law_371 dL_law_372 (by decide) dL_law_373 dL_law_374 ?_
    refine kE (wc := (wM cJ cZ mo a1 a2 a3 a4 a5 (lN P) (lN R) (lN hh) zx zy zi zu zv zl zpx zpy zip zvu zvv)) (wr := (wF cJ dk so vo po co fo (lN P) (lN R) (lN hh) (ept (tT h hh 1).1) zt czS zV)) [6, 7, 8, 9, 10, 11] [0, 1, 2, 3, 4, 5] hP hD hS hA rfl rfl rfl (by decide) rfl (eV (As := [.int (xs (i + 1)), .int (xs (i + 2)), .int (xs (i + 3))]) (rest := [.int r]) C0 (kX4_add l D cJ cZ mo a1 a2 a3 a4 a5 N (lN P) (lN R) (lN hh) zx zy zi zu zv zl zpx zpy zip zvu zvv (xs (i + 1)) (xs (i + 2)) (xs (i + 3)) H.size r mzx mzy mzi mzpx mzpy mzip k2) gL_law_X4_add rfl ⟨rfl, rfl⟩ hdX4_add ⟨Nat.le_of_ble_eq_true rfl, Nat.le_of_ble_eq_true rfl⟩ 4 0 rfl rfl rfl (hP.sub [6, 7, 8, 9, 10, 11] rfl) (hD.sub [6, 7, 8, 9, 10, 11] rfl rfl) hE hl rfl rfl (Nat.le_of_ble_eq_true rfl) dL_law_375 ⟨hc0, hs0⟩) (fun H locs hP hD hS => ?_)
    refine W.eq (g2 := F0 m 378 ls [.int r, .int r]) rfl ?_
    refine lv_icmp_eq (tgt := 1067) hx hb dL_law_378 (by decide) (fun _ => ?_) (fun cx => absurd rfl cx)
    exact W.widen (by omega) (by omega) (nx _ _ ⟨hS, .inr ⟨so, vo, po, co, fo, a1, a2, a3, a4, a5, P, R, hh, ne, h, zt, czS, zV, mzx, mzy, mzi, zu, zv, zl, mzpx, mzpy, mzip, zvu, zvv, pP, h0, hR, hH, hP, hD, k3, vR⟩⟩)
set_option maxHeartbeats 4000000 in
set_option maxRecDepth 100000 in
theorem cs_times (hF : LF p s m c b L xs) (hE : EV D cJ cZ s) (hL : L ≤ 3072) (hi : i + 6 ≤ L) (hl : lv_has ls 4 [(0, .ref b), (1, .ref dk), (2, .ref mo), (3, .int (nI i))]) (hcl : cells + 3 ≤ room_1.cells) (hsl : slots + 10 ≤ room_1.slots) (hI : IV D cJ cZ dk mo s H locs) (nx : ∀ (H : Heap) (locs : List Loc), IV D cJ cZ dk mo s H locs → W p l e room_1 s m #[Value.ref b] below meth c H locs (cells + 3) (slots + 10) Q (F0 m 1067 ls [])) : W p l e room_1 s m #[Value.ref b] below meth c H locs cells slots Q (F0 m 383 ls []) := by
  obtain ⟨C0, hX, hbl⟩ := id hF
  have hx := C0.1
  have hb := C0.2.1
  have hA : ∀ q : Nat, s.heap.size ≤ q → LA s q := fun _ h => h
  obtain ⟨N, hN⟩ : ∃ N : Nat, 100000 ≤ N := ⟨100000, Nat.le_refl _⟩
  have hc0 : cells ≤ room_1.cells := Nat.le_trans (Nat.le_add_right cells 3) hcl
  have hs0 : slots ≤ room_1.slots := Nat.le_trans (Nat.le_add_right slots 10) hsl
  obtain ⟨hS, hM⟩ := hI
  rcases hM with ⟨so, vo, a1, a2, a3, a4, a5, zS, zV, zx, zy, zi, zu, zv, zl, zpx, zpy, zip, zvu, zvv, hP, hD⟩ | ⟨so, vo, po, co, fo, a1, a2, a3, a4, a5, P, R, hh, ne, h, zt, zS, zV, zx, zy, zi, zu, zv, zl, zpx, zpy, zip, zvu, zvv, pP, h0, hR, hH, hP, hD, sR, vR⟩
  · have hP : va_P D vwCl ((wN cJ dk so vo zS zV) ++ (wM cJ cZ mo a1 a2 a3 a4 a5 0 0 0 zx zy zi zu zv zl zpx zpy zip zvu zvv)) H := hP
    have hD : va_D (LA s) ((wN cJ dk so vo zS zV) ++ (wM cJ cZ mo a1 a2 a3 a4 a5 0 0 0 zx zy zi zu zv zl zpx zpy zip zvu zvv)) := hD
    refine lv_aload_n hx hb dL_law_383 rfl (lv_at hl 1 rfl) ?_
    refine sc_ld (k := 1) hF hS hl (by omega) hL dL_law_384 dL_law_385 dL_law_386 (by decide) dL_law_387 dL_law_388 ?_
    refine sc_ld (k := 2) hF hS hl (by omega) hL dL_law_389 dL_law_390 dL_law_391 (by decide) dL_law_392 dL_law_393 ?_
    refine sc_ll (k := 3) hF hS hl (by omega) hL dL_law_394 dL_law_395 dL_law_396 dL_law_397 dL_law_398 dL_law_399 dL_law_400 dL_law_402 dL_law_403 dL_law_404 dL_law_405 dL_law_406 dL_law_407 dL_law_408 (by decide) (by decide) dL_law_409 lk36 dL_law_412 dL_law_413 ?_
    refine ki (kV (As := [.int (xs (i + 1)), .int (xs (i + 2)), .long (lw2 (xs (i + 3)) (xs (i + 4)))]) (rest := []) C0 (kX3_times_null l D cJ cZ dk so vo zS zV (xs (i + 1)) (xs (i + 2)) (lw2 (xs (i + 3)) (xs (i + 4))) (-3) rfl) gL_law_X3_times rfl ⟨rfl, rfl⟩ hdX3_times ⟨Nat.le_of_ble_eq_true rfl, Nat.le_of_ble_eq_true rfl⟩ 3 0 rfl rfl rfl (hP.sub [0, 1, 2] rfl) hE hl rfl rfl (Nat.le_of_ble_eq_true rfl) dL_law_414 hc0 hs0) ?_
    refine lv_aload_n hx hb dL_law_417 rfl (lv_at hl 2 rfl) ?_
    refine sc_ld (k := 1) hF hS hl (by omega) hL dL_law_418 dL_law_419 dL_law_420 (by decide) dL_law_421 dL_law_422 ?_
    refine sc_ld (k := 2) hF hS hl (by omega) hL dL_law_423 dL_law_424 dL_law_425 (by decide) dL_law_426 dL_law_427 ?_
    refine sc_ll (k := 3) hF hS hl (by omega) hL dL_law_428 dL_law_429 dL_law_430 dL_law_431 dL_law_432 dL_law_433 dL_law_434 dL_law_436 dL_law_437 dL_law_438 dL_law_439 dL_law_440 dL_law_441 dL_law_442 (by decide) (by decide) dL_law_443 lk36 dL_law_446 dL_law_447 ?_
    refine kE (wc := (wM cJ cZ mo a1 a2 a3 a4 a5 0 0 0 zx zy zi zu zv zl zpx zpy zip zvu zvv)) (wr := (wN cJ dk so vo zS zV)) [3, 4, 5, 6, 7, 8] [0, 1, 2] hP hD hS hA rfl rfl rfl (by decide) rfl (eV (As := [.int (xs (i + 1)), .int (xs (i + 2)), .long (lw2 (xs (i + 3)) (xs (i + 4)))]) (rest := [.int (-3)]) C0 (kX4_times l D cJ cZ mo a1 a2 a3 a4 a5 N 0 0 0 zx zy zi zu zv zl zpx zpy zip zvu zvv (xs (i + 1)) (xs (i + 2)) (lw2 (xs (i + 3)) (xs (i + 4))) H.size (-3) zx zy zi zpx zpy zip (by unfold fX4_times; exact if_pos rfl)) gL_law_X4_times rfl ⟨rfl, rfl⟩ hdX4_times ⟨Nat.le_of_ble_eq_true rfl, Nat.le_of_ble_eq_true rfl⟩ 4 0 rfl rfl rfl (hP.sub [3, 4, 5, 6, 7, 8] rfl) (hD.sub [3, 4, 5, 6, 7, 8] rfl rfl) hE hl rfl rfl (Nat.le_of_ble_eq_true rfl) dL_law_448 ⟨hc0, hs0⟩) (fun H locs hP hD hS => ?_)
    refine W.eq (g2 := F0 m 451 ls [.int (-3), .int (-3)]) rfl ?_
    refine lv_icmp_eq (tgt := 1067) hx hb dL_law_451 (by decide) (fun _ => ?_) (fun cx => absurd rfl cx)
    exact W.widen (by omega) (by omega) (nx _ _ ⟨hS, .inl ⟨so, vo, a1, a2, a3, a4, a5, zS, zV, zx, zy, zi, zu, zv, zl, zpx, zpy, zip, zvu, zvv, hP, hD⟩⟩)
  · obtain ⟨r, czS, mzx, mzy, mzi, mzpx, mzpy, mzip, k1, k2, k3⟩ := g_times h pP hN sR zx zy zi (xs (i + 1)) (xs (i + 2)) (lw2 (xs (i + 3)) (xs (i + 4)))
    have hP : va_P D vwCl ((wF cJ dk so vo po co fo (lN P) (lN R) (lN hh) (ept (tT h hh 1).1) zt zS zV) ++ (wM cJ cZ mo a1 a2 a3 a4 a5 (lN P) (lN R) (lN hh) zx zy zi zu zv zl zpx zpy zip zvu zvv)) H := hP
    have hD : va_D (LA s) ((wF cJ dk so vo po co fo (lN P) (lN R) (lN hh) (ept (tT h hh 1).1) zt zS zV) ++ (wM cJ cZ mo a1 a2 a3 a4 a5 (lN P) (lN R) (lN hh) zx zy zi zu zv zl zpx zpy zip zvu zvv)) := hD
    refine lv_aload_n hx hb dL_law_383 rfl (lv_at hl 1 rfl) ?_
    refine sc_ld (k := 1) hF hS hl (by omega) hL dL_law_384 dL_law_385 dL_law_386 (by decide) dL_law_387 dL_law_388 ?_
    refine sc_ld (k := 2) hF hS hl (by omega) hL dL_law_389 dL_law_390 dL_law_391 (by decide) dL_law_392 dL_law_393 ?_
    refine sc_ll (k := 3) hF hS hl (by omega) hL dL_law_394 dL_law_395 dL_law_396 dL_law_397 dL_law_398 dL_law_399 dL_law_400 dL_law_402 dL_law_403 dL_law_404 dL_law_405 dL_law_406 dL_law_407 dL_law_408 (by decide) (by decide) dL_law_409 lk36 dL_law_412 dL_law_413 ?_
    refine kE (wc := (wF cJ dk so vo po co fo (lN P) (lN R) (lN hh) (ept (tT h hh 1).1) zt zS zV)) (wr := (wM cJ cZ mo a1 a2 a3 a4 a5 (lN P) (lN R) (lN hh) zx zy zi zu zv zl zpx zpy zip zvu zvv)) [0, 1, 2, 3, 4, 5] [6, 7, 8, 9, 10, 11] hP hD hS hA rfl rfl rfl (by decide) rfl (eV (As := [.int (xs (i + 1)), .int (xs (i + 2)), .long (lw2 (xs (i + 3)) (xs (i + 4)))]) (rest := []) C0 (kX3_times l D cJ cZ dk so vo po co fo N (lN P) (lN R) (lN hh) (ept (tT h hh 1).1) zt zS zV (xs (i + 1)) (xs (i + 2)) (lw2 (xs (i + 3)) (xs (i + 4))) H.size r czS k1) gL_law_X3_times rfl ⟨rfl, rfl⟩ hdX3_times ⟨Nat.le_of_ble_eq_true rfl, Nat.le_of_ble_eq_true rfl⟩ 3 0 rfl rfl rfl (hP.sub [0, 1, 2, 3, 4, 5] rfl) (hD.sub [0, 1, 2, 3, 4, 5] rfl rfl) hE hl rfl rfl (Nat.le_of_ble_eq_true rfl) dL_law_414 ⟨hc0, hs0⟩) (fun H locs hP hD hS => ?_)
    have hP : va_P D vwCl ((wF cJ dk so vo po co fo (lN P) (lN R) (lN hh) (ept (tT h hh 1).1) zt czS zV) ++ (wM cJ cZ mo a1 a2 a3 a4 a5 (lN P) (lN R) (lN hh) zx zy zi zu zv zl zpx zpy zip zvu zvv)) H := hP.sub [6, 7, 8, 9, 10, 11, 0, 1, 2, 3, 4, 5] rfl
    have hD : va_D (LA s) ((wF cJ dk so vo po co fo (lN P) (lN R) (lN hh) (ept (tT h hh 1).1) zt czS zV) ++ (wM cJ cZ mo a1 a2 a3 a4 a5 (lN P) (lN R) (lN hh) zx zy zi zu zv zl zpx zpy zip zvu zvv)) := hD.sub [6, 7, 8, 9, 10, 11, 0, 1, 2, 3, 4, 5] rfl rfl
    refine W.eq (g2 := F0 m 417 ls [.int r]) rfl ?_
    refine lv_aload_n hx hb dL_law_417 rfl (lv_at hl 2 rfl) ?_
    refine sc_ld (k := 1) hF hS hl (by omega) hL dL_law_418 dL_law_419 dL_law_420 (by decide) dL_law_421 dL_law_422 ?_
    refine sc_ld (k := 2) hF hS hl (by omega) hL dL_law_423 dL_law_424 dL_law_425 (by decide) dL_law_426 dL_law_427 ?_
    refine sc_ll (k := 3) hF hS hl (by omega) hL dL_law_428 dL_law_429 dL_law_430 dL_law_431 dL_law_432 dL_law_433 dL_law_434 dL_law_436 dL_law_437 dL_law_438 dL_law_439 dL_law_440 dL_law_441 dL_law_442 (by decide) (by decide) dL_law_443 lk36 dL_law_446 dL_law_447 ?_
    refine kE (wc := (wM cJ cZ mo a1 a2 a3 a4 a5 (lN P) (lN R) (lN hh) zx zy zi zu zv zl zpx zpy zip zvu zvv)) (wr := (wF cJ dk so vo po co fo (lN P) (lN R) (lN hh) (ept (tT h hh 1).1) zt czS zV)) [6, 7, 8, 9, 10, 11] [0, 1, 2, 3, 4, 5] hP hD hS hA rfl rfl rfl (by decide) rfl (eV (As := [.int (xs (i + 1)), .int (xs (i + 2)), .long (lw2 (xs (i + 3)) (xs (i + 4)))]) (rest := [.int r]) C0 (kX4_times l D cJ cZ mo a1 a2 a3 a4 a5 N (lN P) (lN R) (lN hh) zx zy zi zu zv zl zpx zpy zip zvu zvv (xs (i + 1)) (xs (i + 2)) (lw2 (xs (i + 3)) (xs (i + 4))) H.size r mzx mzy mzi mzpx mzpy mzip k2) gL_law_X4_times rfl ⟨rfl, rfl⟩ hdX4_times ⟨Nat.le_of_ble_eq_true rfl, Nat.le_of_ble_eq_true rfl⟩ 4 0 rfl rfl rfl (hP.sub [6, 7, 8, 9, 10, 11] rfl) (hD.sub [6, 7, 8, 9, 10, 11] rfl rfl) hE hl rfl rfl (Nat.le_of_ble_eq_true rfl) dL_law_448 ⟨hc0, hs0⟩) (fun H locs hP hD hS => ?_)
    refine W.eq (g2 := F0 m 451 ls [.int r, .int r]) rfl ?_
    refine lv_icmp_eq (tgt := 1067) hx hb dL_law_451 (by decide) (fun _ => ?_) (fun cx => absurd rfl cx)
    exact W.widen (by omega) (by omega) (nx _ _ ⟨hS, .inr ⟨so, vo, po, co, fo, a1, a2, a3, a4, a5, P, R, hh, ne, h, zt, czS, zV, mzx, mzy, mzi, zu, zv, zl, mzpx, mzpy, mzip, zvu, zvv, pP, h0, hR, hH, hP, hD, k3, vR⟩⟩)
set_option maxHeartbeats 4000000 in
set_option maxRecDepth 100000 in
theorem cs_at (hF : LF p s m c b L xs) (hE : EV D cJ cZ s) (hL : L ≤ 3072) (hi : i + 6 ≤ L) (hl : lv_has ls 4 [(0, .ref b), (1, .ref dk), (2, .ref mo), (3, .int (nI i))]) (hcl : cells + 3 ≤ room_1.cells) (hsl : slots + 10 ≤ room_1.slots) (hI : IV D cJ cZ dk mo s H locs) (nx : ∀ (H : Heap) (locs : List Loc), IV D cJ cZ dk mo s H locs → W p l e room_1 s m #[Value.ref b] below meth c H locs (cells + 3) (slots + 10) Q (F0 m 1067 ls [])) : W p l e room_1 s m #[Value.ref b] below meth c H locs cells slots Q (F0 m 456 ls []) := by
  obtain ⟨C0, hX, hbl⟩ := id hF
  have hx := C0.1
  have hb := C0.2.1
  have hA : ∀ q : Nat, s.heap.size ≤ q → LA s q := fun _ h => h
  obtain ⟨N, hN⟩ : ∃ N : Nat, 100000 ≤ N := ⟨100000, Nat.le_refl _⟩
  have hc0 : cells ≤ room_1.cells := Nat.le_trans (Nat.le_add_right cells 3) hcl
  have hs0 : slots ≤ room_1.slots := Nat.le_trans (Nat.le_add_right slots 10) hsl
  obtain ⟨hS, hM⟩ := hI
  rcases hM with ⟨so, vo, a1, a2, a3, a4, a5, zS, zV, zx, zy, zi, zu, zv, zl, zpx, zpy, zip, zvu, zvv, hP, hD⟩ | ⟨so, vo, po, co, fo, a1, a2, a3, a4, a5, P, R, hh, ne, h, zt, zS, zV, zx, zy, zi, zu, zv, zl, zpx, zpy, zip, zvu, zvv, pP, h0, hR, hH, hP, hD, sR, vR⟩
  · have hP : va_P D vwCl ((wN cJ dk so vo zS zV) ++ (wM cJ cZ mo a1 a2 a3 a4 a5 0 0 0 zx zy zi zu zv zl zpx zpy zip zvu zvv)) H := hP
    have hD : va_D (LA s) ((wN cJ dk so vo zS zV) ++ (wM cJ cZ mo a1 a2 a3 a4 a5 0 0 0 zx zy zi zu zv zl zpx zpy zip zvu zvv)) := hD
    refine lv_aload_n hx hb dL_law_456 rfl (lv_at hl 1 rfl) ?_
    refine sc_ld (k := 1) hF hS hl (by omega) hL dL_law_457 dL_law_458 dL_law_459 (by decide) dL_law_460 dL_law_461 ?_
    refine sc_ld (k := 2) hF hS hl (by omega) hL dL_law_462 dL_law_463 dL_law_464 (by decide) dL_law_465 dL_law_466 ?_
    refine ki (kV (As := [.int (xs (i + 1)), .int (xs (i + 2))]) (rest := []) C0 (kX3_at_null l D cJ cZ dk so vo zS zV (xs (i + 1)) (xs (i + 2)) (-3) rfl) gL_law_X3_at rfl ⟨rfl, rfl⟩ hdX3_at ⟨Nat.le_of_ble_eq_true rfl, Nat.le_of_ble_eq_true rfl⟩ 3 0 rfl rfl rfl (hP.sub [0, 1, 2] rfl) hE hl rfl rfl (Nat.le_of_ble_eq_true rfl) dL_law_467 hc0 hs0) ?_
    refine lv_aload_n hx hb dL_law_470 rfl (lv_at hl 2 rfl) ?_
    refine sc_ld (k := 1) hF hS hl (by omega) hL dL_law_471 dL_law_472 dL_law_473 (by decide) dL_law_474 dL_law_475 ?_
    refine sc_ld (k := 2) hF hS hl (by omega) hL dL_law_476 dL_law_477 dL_law_478 (by decide) dL_law_479 dL_law_480 ?_
    refine ki (kV (As := [.int (xs (i + 1)), .int (xs (i + 2))]) (rest := [.int (-3)]) C0 (kX4_at l D cJ cZ mo a1 a2 a3 a4 a5 0 0 0 zx zy zi zu zv zl zpx zpy zip zvu zvv (xs (i + 1)) (xs (i + 2)) (-3) (by unfold fX4_at; exact if_pos rfl)) gL_law_X4_at rfl ⟨rfl, rfl⟩ hdX4_at ⟨Nat.le_of_ble_eq_true rfl, Nat.le_of_ble_eq_true rfl⟩ 4 0 rfl rfl rfl (hP.sub [3, 4, 5, 6, 7, 8] rfl) hE hl rfl rfl (Nat.le_of_ble_eq_true rfl) dL_law_481 hc0 hs0) ?_
    refine lv_icmp_eq (tgt := 1067) hx hb dL_law_484 (by decide) (fun _ => ?_) (fun cx => absurd rfl cx)
    exact W.widen (by omega) (by omega) (nx _ _ ⟨hS, .inl ⟨so, vo, a1, a2, a3, a4, a5, zS, zV, zx, zy, zi, zu, zv, zl, zpx, zpy, zip, zvu, zvv, hP, hD⟩⟩)
  · obtain ⟨r, k1, k2⟩ := g_at pP sR (xs (i + 1)) (xs (i + 2))
    have hP : va_P D vwCl ((wF cJ dk so vo po co fo (lN P) (lN R) (lN hh) (ept (tT h hh 1).1) zt zS zV) ++ (wM cJ cZ mo a1 a2 a3 a4 a5 (lN P) (lN R) (lN hh) zx zy zi zu zv zl zpx zpy zip zvu zvv)) H := hP
    have hD : va_D (LA s) ((wF cJ dk so vo po co fo (lN P) (lN R) (lN hh) (ept (tT h hh 1).1) zt zS zV) ++ (wM cJ cZ mo a1 a2 a3 a4 a5 (lN P) (lN R) (lN hh) zx zy zi zu zv zl zpx zpy zip zvu zvv)) := hD
    refine lv_aload_n hx hb dL_law_456 rfl (lv_at hl 1 rfl) ?_
    refine sc_ld (k := 1) hF hS hl (by omega) hL dL_law_457 dL_law_458 dL_law_459 (by decide) dL_law_460 dL_law_461 ?_
    refine sc_ld (k := 2) hF hS hl (by omega) hL dL_law_462 dL_law_463 dL_law_464 (by decide) dL_law_465 dL_law_466 ?_
    refine ki (kV (As := [.int (xs (i + 1)), .int (xs (i + 2))]) (rest := []) C0 (kX3_at l D cJ cZ dk so vo po co fo (lN P) (lN R) (lN hh) (ept (tT h hh 1).1) zt zS zV (xs (i + 1)) (xs (i + 2)) r k1) gL_law_X3_at rfl ⟨rfl, rfl⟩ hdX3_at ⟨Nat.le_of_ble_eq_true rfl, Nat.le_of_ble_eq_true rfl⟩ 3 0 rfl rfl rfl (hP.sub [0, 1, 2, 3, 4, 5] rfl) hE hl rfl rfl (Nat.le_of_ble_eq_true rfl) dL_law_467 hc0 hs0) ?_
    refine lv_aload_n hx hb dL_law_470 rfl (lv_at hl 2 rfl) ?_
    refine sc_ld (k := 1) hF hS hl (by omega) hL dL_law_471 dL_law_472 dL_law_473 (by decide) dL_law_474 dL_law_475 ?_
    refine sc_ld (k := 2) hF hS hl (by omega) hL dL_law_476 dL_law_477 dL_law_478 (by decide) dL_law_479 dL_law_480 ?_
    refine ki (kV (As := [.int (xs (i + 1)), .int (xs (i + 2))]) (rest := [.int r]) C0 (kX4_at l D cJ cZ mo a1 a2 a3 a4 a5 (lN P) (lN R) (lN hh) zx zy zi zu zv zl zpx zpy zip zvu zvv (xs (i + 1)) (xs (i + 2)) r k2) gL_law_X4_at rfl ⟨rfl, rfl⟩ hdX4_at ⟨Nat.le_of_ble_eq_true rfl, Nat.le_of_ble_eq_true rfl⟩ 4 0 rfl rfl rfl (hP.sub [6, 7, 8, 9, 10, 11] rfl) hE hl rfl rfl (Nat.le_of_ble_eq_true rfl) dL_law_481 hc0 hs0) ?_
    refine lv_icmp_eq (tgt := 1067) hx hb dL_law_484 (by decide) (fun _ => ?_) (fun cx => absurd rfl cx)
    exact W.widen (by omega) (by omega) (nx _ _ ⟨hS, .inr ⟨so, vo, po, co, fo, a1, a2, a3, a4, a5, P, R, hh, ne, h, zt, zS, zV, zx, zy, zi, zu, zv, zl, zpx, zpy, zip, zvu, zvv, pP, h0, hR, hH, hP, hD, sR, vR⟩⟩)
set_option maxHeartbeats 4000000 in
set_option maxRecDepth 100000 in
theorem cs_order (hF : LF p s m c b L xs) (hE : EV D cJ cZ s) (hL : L ≤ 3072) (hi : i + 6 ≤ L) (hl : lv_has ls 4 [(0, .ref b), (1, .ref dk), (2, .ref mo), (3, .int (nI i))]) (hcl : cells + 3 ≤ room_1.cells) (hsl : slots + 10 ≤ room_1.slots) (hI : IV D cJ cZ dk mo s H locs) (nx : ∀ (H : Heap) (locs : List Loc), IV D cJ cZ dk mo s H locs → W p l e room_1 s m #[Value.ref b] below meth c H locs (cells + 3) (slots + 10) Q (F0 m 1067 ls [])) : W p l e room_1 s m #[Value.ref b] below meth c H locs cells slots Q (F0 m 489 ls []) := by
  obtain ⟨C0, hX, hbl⟩ := id hF
  have hx := C0.1
  have hb := C0.2.1
  have hA : ∀ q : Nat, s.heap.size ≤ q → LA s q := fun _ h => h
  obtain ⟨N, hN⟩ : ∃ N : Nat, 100000 ≤ N := ⟨100000, Nat.le_refl _⟩
  have hc0 : cells ≤ room_1.cells := Nat.le_trans (Nat.le_add_right cells 3) hcl
  have hs0 : slots ≤ room_1.slots := Nat.le_trans (Nat.le_add_right slots 10) hsl
  obtain ⟨hS, hM⟩ := hI
  rcases hM with ⟨so, vo, a1, a2, a3, a4, a5, zS, zV, zx, zy, zi, zu, zv, zl, zpx, zpy, zip, zvu, zvv, hP, hD⟩ | ⟨so, vo, po, co, fo, a1, a2, a3, a4, a5, P, R, hh, ne, h, zt, zS, zV, zx, zy, zi, zu, zv, zl, zpx, zpy, zip, zvu, zvv, pP, h0, hR, hH, hP, hD, sR, vR⟩
  · have hP : va_P D vwCl ((wN cJ dk so vo zS zV) ++ (wM cJ cZ mo a1 a2 a3 a4 a5 0 0 0 zx zy zi zu zv zl zpx zpy zip zvu zvv)) H := hP
    have hD : va_D (LA s) ((wN cJ dk so vo zS zV) ++ (wM cJ cZ mo a1 a2 a3 a4 a5 0 0 0 zx zy zi zu zv zl zpx zpy zip zvu zvv)) := hD
    refine lv_aload_n hx hb dL_law_489 rfl (lv_at hl 1 rfl) ?_
    refine sc_ld (k := 1) hF hS hl (by omega) hL dL_law_490 dL_law_491 dL_law_492 (by decide) dL_law_493 dL_law_494 ?_
    refine ki (kV (As := [.int (xs (i + 1))]) (rest := []) C0 (kX3_order_null l D cJ cZ dk so vo zS zV (xs (i + 1)) (-3) rfl) gL_law_X3_order rfl ⟨rfl, rfl⟩ hdX3_order ⟨Nat.le_of_ble_eq_true rfl, Nat.le_of_ble_eq_true rfl⟩ 3 0 rfl rfl rfl (hP.sub [0, 1, 2] rfl) hE hl rfl rfl (Nat.le_of_ble_eq_true rfl) dL_law_495 hc0 hs0) ?_
    refine lv_aload_n hx hb dL_law_498 rfl (lv_at hl 2 rfl) ?_
    refine sc_ld (k := 1) hF hS hl (by omega) hL dL_law_499 dL_law_500 dL_law_501 (by decide) dL_law_502 dL_law_503 ?_
    refine kE (wc := (wM cJ cZ mo a1 a2 a3 a4 a5 0 0 0 zx zy zi zu zv zl zpx zpy zip zvu zvv)) (wr := (wN cJ dk so vo zS zV)) [3, 4, 5, 6, 7, 8] [0, 1, 2] hP hD hS hA rfl rfl rfl (by decide) rfl (eV (As := [.int (xs (i + 1))]) (rest := [.int (-3)]) C0 (kX4_order l D cJ cZ mo a1 a2 a3 a4 a5 N 0 0 0 zx zy zi zu zv zl zpx zpy zip zvu zvv (xs (i + 1)) H.size (-3) zx zy zi (by unfold fX4_order; exact if_pos rfl)) gL_law_X4_order rfl ⟨rfl, rfl⟩ hdX4_order ⟨Nat.le_of_ble_eq_true rfl, Nat.le_of_ble_eq_true rfl⟩ 4 0 rfl rfl rfl (hP.sub [3, 4, 5, 6, 7, 8] rfl) (hD.sub [3, 4, 5, 6, 7, 8] rfl rfl) hE hl rfl rfl (Nat.le_of_ble_eq_true rfl) dL_law_504 ⟨hc0, hs0⟩) (fun H locs hP hD hS => ?_)
    refine W.eq (g2 := F0 m 507 ls [.int (-3), .int (-3)]) rfl ?_
    refine lv_icmp_eq (tgt := 1067) hx hb dL_law_507 (by decide) (fun _ => ?_) (fun cx => absurd rfl cx)
    exact W.widen (by omega) (by omega) (nx _ _ ⟨hS, .inl ⟨so, vo, a1, a2, a3, a4, a5, zS, zV, zx, zy, zi, zu, zv, zl, zpx, zpy, zip, zvu, zvv, hP, hD⟩⟩)
  · obtain ⟨r, mzx, mzy, mzi, k1, k2⟩ := g_order h pP hN sR zx zy zi (xs (i + 1))
    have hP : va_P D vwCl ((wF cJ dk so vo po co fo (lN P) (lN R) (lN hh) (ept (tT h hh 1).1) zt zS zV) ++ (wM cJ cZ mo a1 a2 a3 a4 a5 (lN P) (lN R) (lN hh) zx zy zi zu zv zl zpx zpy zip zvu zvv)) H := hP
    have hD : va_D (LA s) ((wF cJ dk so vo po co fo (lN P) (lN R) (lN hh) (ept (tT h hh 1).1) zt zS zV) ++ (wM cJ cZ mo a1 a2 a3 a4 a5 (lN P) (lN R) (lN hh) zx zy zi zu zv zl zpx zpy zip zvu zvv)) := hD
    refine lv_aload_n hx hb dL_law_489 rfl (lv_at hl 1 rfl) ?_
    refine sc_ld (k := 1) hF hS hl (by omega) hL dL_law_490 dL_law_491 dL_law_492 (by decide) dL_law_493 dL_law_494 ?_
    refine ki (kV (As := [.int (xs (i + 1))]) (rest := []) C0 (kX3_order l D cJ cZ dk so vo po co fo N (lN P) (lN R) (lN hh) (ept (tT h hh 1).1) zt zS zV (xs (i + 1)) r k1) gL_law_X3_order rfl ⟨rfl, rfl⟩ hdX3_order ⟨Nat.le_of_ble_eq_true rfl, Nat.le_of_ble_eq_true rfl⟩ 3 0 rfl rfl rfl (hP.sub [0, 1, 2, 3, 4, 5] rfl) hE hl rfl rfl (Nat.le_of_ble_eq_true rfl) dL_law_495 hc0 hs0) ?_
    refine lv_aload_n hx hb dL_law_498 rfl (lv_at hl 2 rfl) ?_
    refine sc_ld (k := 1) hF hS hl (by omega) hL dL_law_499 dL_law_500 dL_law_501 (by decide) dL_law_502 dL_law_503 ?_
    refine kE (wc := (wM cJ cZ mo a1 a2 a3 a4 a5 (lN P) (lN R) (lN hh) zx zy zi zu zv zl zpx zpy zip zvu zvv)) (wr := (wF cJ dk so vo po co fo (lN P) (lN R) (lN hh) (ept (tT h hh 1).1) zt zS zV)) [6, 7, 8, 9, 10, 11] [0, 1, 2, 3, 4, 5] hP hD hS hA rfl rfl rfl (by decide) rfl (eV (As := [.int (xs (i + 1))]) (rest := [.int r]) C0 (kX4_order l D cJ cZ mo a1 a2 a3 a4 a5 N (lN P) (lN R) (lN hh) zx zy zi zu zv zl zpx zpy zip zvu zvv (xs (i + 1)) H.size r mzx mzy mzi k2) gL_law_X4_order rfl ⟨rfl, rfl⟩ hdX4_order ⟨Nat.le_of_ble_eq_true rfl, Nat.le_of_ble_eq_true rfl⟩ 4 0 rfl rfl rfl (hP.sub [6, 7, 8, 9, 10, 11] rfl) (hD.sub [6, 7, 8, 9, 10, 11] rfl rfl) hE hl rfl rfl (Nat.le_of_ble_eq_true rfl) dL_law_504 ⟨hc0, hs0⟩) (fun H locs hP hD hS => ?_)
    refine W.eq (g2 := F0 m 507 ls [.int r, .int r]) rfl ?_
    refine lv_icmp_eq (tgt := 1067) hx hb dL_law_507 (by decide) (fun _ => ?_) (fun cx => absurd rfl cx)
    exact W.widen (by omega) (by omega) (nx _ _ ⟨hS, .inr ⟨so, vo, po, co, fo, a1, a2, a3, a4, a5, P, R, hh, ne, h, zt, zS, zV, mzx, mzy, mzi, zu, zv, zl, zpx, zpy, zip, zvu, zvv, pP, h0, hR, hH, hP, hD, sR, vR⟩⟩)
set_option maxHeartbeats 4000000 in
set_option maxRecDepth 100000 in
theorem cs_write (hF : LF p s m c b L xs) (hE : EV D cJ cZ s) (hL : L ≤ 3072) (hi : i + 6 ≤ L) (hl : lv_has ls 4 [(0, .ref b), (1, .ref dk), (2, .ref mo), (3, .int (nI i))]) (hcl : cells + 3 ≤ room_1.cells) (hsl : slots + 10 ≤ room_1.slots) (hI : IV D cJ cZ dk mo s H locs) (nx : ∀ (H : Heap) (locs : List Loc), IV D cJ cZ dk mo s H locs → W p l e room_1 s m #[Value.ref b] below meth c H locs (cells + 3) (slots + 10) Q (F0 m 1067 ls [])) : W p l e room_1 s m #[Value.ref b] below meth c H locs cells slots Q (F0 m 512 ls []) := by
  obtain ⟨C0, hX, hbl⟩ := id hF
  have hx := C0.1
  have hb := C0.2.1
  have hA : ∀ q : Nat, s.heap.size ≤ q → LA s q := fun _ h => h
  obtain ⟨N, hN⟩ : ∃ N : Nat, 100000 ≤ N := ⟨100000, Nat.le_refl _⟩
  have hc0 : cells ≤ room_1.cells := Nat.le_trans (Nat.le_add_right cells 3) hcl
  have hs0 : slots ≤ room_1.slots := Nat.le_trans (Nat.le_add_right slots 10) hsl
  obtain ⟨hS, hM⟩ := hI
  rcases hM with ⟨so, vo, a1, a2, a3, a4, a5, zS, zV, zx, zy, zi, zu, zv, zl, zpx, zpy, zip, zvu, zvv, hP, hD⟩ | ⟨so, vo, po, co, fo, a1, a2, a3, a4, a5, P, R, hh, ne, h, zt, zS, zV, zx, zy, zi, zu, zv, zl, zpx, zpy, zip, zvu, zvv, pP, h0, hR, hH, hP, hD, sR, vR⟩
  · have hP : va_P D vwCl ((wN cJ dk so vo zS zV) ++ (wM cJ cZ mo a1 a2 a3 a4 a5 0 0 0 zx zy zi zu zv zl zpx zpy zip zvu zvv)) H := hP
    have hD : va_D (LA s) ((wN cJ dk so vo zS zV) ++ (wM cJ cZ mo a1 a2 a3 a4 a5 0 0 0 zx zy zi zu zv zl zpx zpy zip zvu zvv)) := hD
    refine lv_aload_n hx hb dL_law_512 rfl (lv_at hl 1 rfl) ?_
    refine sc_ld (k := 1) hF hS hl (by omega) hL dL_law_513 dL_law_514 dL_law_515 (by decide) dL_law_516 dL_law_517 ?_
    refine kl (kV (As := [.int (xs (i + 1))]) (rest := []) C0 (kX3_write_null l D cJ cZ dk so vo zS zV (xs (i + 1)) (-3) rfl) gL_law_X3_write rfl ⟨rfl, rfl⟩ hdX3_write ⟨Nat.le_of_ble_eq_true rfl, Nat.le_of_ble_eq_true rfl⟩ 3 0 rfl rfl rfl (hP.sub [0, 1, 2] rfl) hE hl rfl rfl (Nat.le_of_ble_eq_true rfl) dL_law_518 hc0 hs0) ?_
    refine lv_aload_n hx hb dL_law_521 rfl (lv_at hl 2 rfl) ?_
    refine sc_ld (k := 1) hF hS hl (by omega) hL dL_law_522 dL_law_523 dL_law_524 (by decide) dL_law_525 dL_law_526 ?_
    refine kl (kV (As := [.int (xs (i + 1))]) (rest := [.long (-3)]) C0 (kX4_write l D cJ cZ mo a1 a2 a3 a4 a5 0 0 0 zx zy zi zu zv zl zpx zpy zip zvu zvv (xs (i + 1)) (-3) (by unfold fX4_write; exact if_pos rfl)) gL_law_X4_write rfl ⟨rfl, rfl⟩ hdX4_write ⟨Nat.le_of_ble_eq_true rfl, Nat.le_of_ble_eq_true rfl⟩ 4 0 rfl rfl rfl (hP.sub [3, 4, 5, 6, 7, 8] rfl) hE hl rfl rfl (Nat.le_of_ble_eq_true rfl) dL_law_527 hc0 hs0) ?_
    refine lc_eq (tgt := 1067) hx hb dL_law_530 dL_law_531 (by decide) (fun _ => ?_) (fun cx => absurd rfl cx)
    exact W.widen (by omega) (by omega) (nx _ _ ⟨hS, .inl ⟨so, vo, a1, a2, a3, a4, a5, zS, zV, zx, zy, zi, zu, zv, zl, zpx, zpy, zip, zvu, zvv, hP, hD⟩⟩)
  · obtain ⟨r, k1, k2⟩ := g_write pP sR (xs (i + 1))
    have hP : va_P D vwCl ((wF cJ dk so vo po co fo (lN P) (lN R) (lN hh) (ept (tT h hh 1).1) zt zS zV) ++ (wM cJ cZ mo a1 a2 a3 a4 a5 (lN P) (lN R) (lN hh) zx zy zi zu zv zl zpx zpy zip zvu zvv)) H := hP
    have hD : va_D (LA s) ((wF cJ dk so vo po co fo (lN P) (lN R) (lN hh) (ept (tT h hh 1).1) zt zS zV) ++ (wM cJ cZ mo a1 a2 a3 a4 a5 (lN P) (lN R) (lN hh) zx zy zi zu zv zl zpx zpy zip zvu zvv)) := hD
    refine lv_aload_n hx hb dL_law_512 rfl (lv_at hl 1 rfl) ?_
    refine sc_ld (k := 1) hF hS hl (by omega) hL dL_law_513 dL_law_514 dL_law_515 (by decide) dL_law_516 dL_law_517 ?_
    refine kl (kV (As := [.int (xs (i + 1))]) (rest := []) C0 (kX3_write l D cJ cZ dk so vo po co fo (lN P) (lN R) (lN hh) (ept (tT h hh 1).1) zt zS zV (xs (i + 1)) r k1) gL_law_X3_write rfl ⟨rfl, rfl⟩ hdX3_write ⟨Nat.le_of_ble_eq_true rfl, Nat.le_of_ble_eq_true rfl⟩ 3 0 rfl rfl rfl (hP.sub [0, 1, 2, 3, 4, 5] rfl) hE hl rfl rfl (Nat.le_of_ble_eq_true rfl) dL_law_518 hc0 hs0) ?_
    refine lv_aload_n hx hb dL_law_521 rfl (lv_at hl 2 rfl) ?_
    refine sc_ld (k := 1) hF hS hl (by omega) hL dL_law_522 dL_law_523 dL_law_524 (by decide) dL_law_525 dL_law_526 ?_
    refine kl (kV (As := [.int (xs (i + 1))]) (rest := [.long r]) C0 (kX4_write l D cJ cZ mo a1 a2 a3 a4 a5 (lN P) (lN R) (lN hh) zx zy zi zu zv zl zpx zpy zip zvu zvv (xs (i + 1)) r k2) gL_law_X4_write rfl ⟨rfl, rfl⟩ hdX4_write ⟨Nat.le_of_ble_eq_true rfl, Nat.le_of_ble_eq_true rfl⟩ 4 0 rfl rfl rfl (hP.sub [6, 7, 8, 9, 10, 11] rfl) hE hl rfl rfl (Nat.le_of_ble_eq_true rfl) dL_law_527 hc0 hs0) ?_
    refine lc_eq (tgt := 1067) hx hb dL_law_530 dL_law_531 (by decide) (fun _ => ?_) (fun cx => absurd rfl cx)
    exact W.widen (by omega) (by omega) (nx _ _ ⟨hS, .inr ⟨so, vo, po, co, fo, a1, a2, a3, a4, a5, P, R, hh, ne, h, zt, zS, zV, zx, zy, zi, zu, zv, zl, zpx, zpy, zip, zvu, zvv, pP, h0, hR, hH, hP, hD, sR, vR⟩⟩)
end
