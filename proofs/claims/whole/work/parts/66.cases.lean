section
variable {p : Program} {l : Launch} {e : Env} {s : State} {m : MethodId} {below : List Frame} {meth : Method} {c : Code} {b L : Nat} {xs : Nat → Int32} {D : va_G} {cJ cZ : ClassId} {H : Heap} {locs : List Loc} {cells slots : Nat} {Q : State → Prop} {ls : Array Slot} {dk mo i : Nat}
set_option maxHeartbeats 4000000 in
set_option maxRecDepth 100000 in
theorem cs_read (hF : LF p s m c b L xs) (hE : EV D cJ cZ s) (hL : L ≤ 3072) (hi : i + 6 ≤ L) (hl : lv_has ls 4 [(0, .ref b), (1, .ref dk), (2, .ref mo), (3, .int (nI i))]) (hcl : cells + 3 ≤ room_1.cells) (hsl : slots + 10 ≤ room_1.slots) (hI : IV D cJ cZ dk mo s H locs) (nx : ∀ (H : Heap) (locs : List Loc), IV D cJ cZ dk mo s H locs → W p l e room_1 s m #[Value.ref b] below meth c H locs (cells + 3) (slots + 10) Q (F0 m 1067 ls [])) : W p l e room_1 s m #[Value.ref b] below meth c H locs cells slots Q (F0 m 536 ls []) := by
  obtain ⟨C0, hX, hbl⟩ := id hF
  have hx := C0.1
  have hb := C0.2.1
  have hA : ∀ q : Nat, s.heap.size ≤ q → LA s q := fun _ h => h
  obtain ⟨N, hN⟩ : ∃ N : Nat, 100000 ≤ N := ⟨100000, Nat.le_refl _⟩
  have hc0 : cells ≤ room_1.cells := Nat.le_trans (Nat.le_add_right cells 3) hcl
  have hs0 : slots ≤ room_1.slots := Nat.le_trans (Nat.le_add_right slots 10) hsl
  obtain ⟨hS, hM⟩ := hI
  rcases hM with ⟨so, vo, a1, a2, a3, a4, a5, zS, zV, zx, zy, zi, zu, zv, zl, zpx, zpy, zip, zvu, zvv, hP, hD⟩ | ⟨so, vo, po, co, fo, a1, a2, a3, a4, a5, P, R, hh, ne, h, zt, zS, zV, zx, zy, zi, zu, zv, zl, zpx, zpy, zip, zvu, zvv, pP, h0, hR, hH, hP, hD, sR, vR⟩
  · have hP : va_P D vwCl ((wN cJ dk so vo zS zV) ++ (wM cJ cZ mo a1 a2 a3 a4 a5 0 0 0 zx zy zi zu zv zl zpx zpy zip zvu zvv)) H := hP
    have hD : va_D (LA s) ((wN cJ dk so vo zS zV) ++ (wM cJ cZ mo a1 a2 a3 a4 a5 0 0 0 zx zy zi zu zv zl zpx zpy zip zvu zvv)) := hD
    refine lv_aload_n hx hb dL_law_536 rfl (lv_at hl 1 rfl) ?_
    refine sc_ld (k := 1) hF hS hl (by omega) hL dL_law_537 dL_law_538 dL_law_539 (by decide) dL_law_540 dL_law_541 ?_
    refine sc_ll (k := 2) hF hS hl (by omega) hL dL_law_542 dL_law_543 dL_law_544 dL_law_545 dL_law_546 dL_law_547 dL_law_548 dL_law_550 dL_law_551 dL_law_552 dL_law_553 dL_law_554 dL_law_555 dL_law_556 (by decide) (by decide) dL_law_557 lk36 dL_law_560 dL_law_561 ?_
    refine ki (kV (As := [.int (xs (i + 1)), .long (lw2 (xs (i + 2)) (xs (i + 3)))]) (rest := []) C0 (kX3_read_null l D cJ cZ dk so vo zS zV (xs (i + 1)) (lw2 (xs (i + 2)) (xs (i + 3))) (-3) rfl) gL_law_X3_read rfl ⟨rfl, rfl⟩ hdX3_read ⟨Nat.le_of_ble_eq_true rfl, Nat.le_of_ble_eq_true rfl⟩ 3 0 rfl rfl rfl (hP.sub [0, 1, 2] rfl) hE hl rfl rfl (Nat.le_of_ble_eq_true rfl) dL_law_562 hc0 hs0) ?_
    refine lv_aload_n hx hb dL_law_565 rfl (lv_at hl 2 rfl) ?_
    refine sc_ld (k := 1) hF hS hl (by omega) hL dL_law_566 dL_law_567 dL_law_568 (by decide) dL_law_569 dL_law_570 ?_
    refine sc_ll (k := 2) hF hS hl (by omega) hL dL_law_571 dL_law_572 dL_law_573 dL_law_574 dL_law_575 dL_law_576 dL_law_577 dL_law_579 dL_law_580 dL_law_581 dL_law_582 dL_law_583 dL_law_584 dL_law_585 (by decide) (by decide) dL_law_586 lk36 dL_law_589 dL_law_590 ?_
    refine kE (wc := (wM cJ cZ mo a1 a2 a3 a4 a5 0 0 0 zx zy zi zu zv zl zpx zpy zip zvu zvv)) (wr := (wN cJ dk so vo zS zV)) [3, 4, 5, 6, 7, 8] [0, 1, 2] hP hD hS hA rfl rfl rfl (by decide) rfl (eV (As := [.int (xs (i + 1)), .long (lw2 (xs (i + 2)) (xs (i + 3)))]) (rest := [.int (-3)]) C0 (kX4_read l D cJ cZ mo a1 a2 a3 a4 a5 N 0 0 0 zx zy zi zu zv zl zpx zpy zip zvu zvv (xs (i + 1)) (lw2 (xs (i + 2)) (xs (i + 3))) H.size (-3) zpx zpy zip (by unfold fX4_read; exact if_pos rfl)) gL_law_X4_read rfl ⟨rfl, rfl⟩ hdX4_read ⟨Nat.le_of_ble_eq_true rfl, Nat.le_of_ble_eq_true rfl⟩ 4 0 rfl rfl rfl (hP.sub [3, 4, 5, 6, 7, 8] rfl) (hD.sub [3, 4, 5, 6, 7, 8] rfl rfl) hE hl rfl rfl (Nat.le_of_ble_eq_true rfl) dL_law_591 ⟨hc0, hs0⟩) (fun H locs hP hD hS => ?_)
    refine W.eq (g2 := F0 m 594 ls [.int (-3), .int (-3)]) rfl ?_
    refine lv_icmp_eq (tgt := 1067) hx hb dL_law_594 (by decide) (fun _ => ?_) (fun cx => absurd rfl cx)
    exact W.widen (by omega) (by omega) (nx _ _ ⟨hS, .inl ⟨so, vo, a1, a2, a3, a4, a5, zS, zV, zx, zy, zi, zu, zv, zl, zpx, zpy, zip, zvu, zvv, hP, hD⟩⟩)
  · obtain ⟨r, czS, mzpx, mzpy, mzip, k1, k2, k3⟩ := g_read h pP hN sR (xs (i + 1)) (lw2 (xs (i + 2)) (xs (i + 3)))
    have hP : va_P D vwCl ((wF cJ dk so vo po co fo (lN P) (lN R) (lN hh) (ept (tT h hh 1).1) zt zS zV) ++ (wM cJ cZ mo a1 a2 a3 a4 a5 (lN P) (lN R) (lN hh) zx zy zi zu zv zl zpx zpy zip zvu zvv)) H := hP
    have hD : va_D (LA s) ((wF cJ dk so vo po co fo (lN P) (lN R) (lN hh) (ept (tT h hh 1).1) zt zS zV) ++ (wM cJ cZ mo a1 a2 a3 a4 a5 (lN P) (lN R) (lN hh) zx zy zi zu zv zl zpx zpy zip zvu zvv)) := hD
    refine lv_aload_n hx hb dL_law_536 rfl (lv_at hl 1 rfl) ?_
    refine sc_ld (k := 1) hF hS hl (by omega) hL dL_law_537 dL_law_538 dL_law_539 (by decide) dL_law_540 dL_law_541 ?_
    refine sc_ll (k := 2) hF hS hl (by omega) hL dL_law_542 dL_law_543 dL_law_544 dL_law_545 dL_law_546 dL_law_547 dL_law_548 dL_law_550 dL_law_551 dL_law_552 dL_law_553 dL_law_554 dL_law_555 dL_law_556 (by decide) (by decide) dL_law_557 lk36 dL_law_560 dL_law_561 ?_
    refine kE (wc := (wF cJ dk so vo po co fo (lN P) (lN R) (lN hh) (ept (tT h hh 1).1) zt zS zV)) (wr := (wM cJ cZ mo a1 a2 a3 a4 a5 (lN P) (lN R) (lN hh) zx zy zi zu zv zl zpx zpy zip zvu zvv)) [0, 1, 2, 3, 4, 5] [6, 7, 8, 9, 10, 11] hP hD hS hA rfl rfl rfl (by decide) rfl (eV (As := [.int (xs (i + 1)), .long (lw2 (xs (i + 2)) (xs (i + 3)))]) (rest := []) C0 (kX3_read l D cJ cZ dk so vo po co fo N (lN P) (lN R) (lN hh) (ept (tT h hh 1).1) zt zS zV (xs (i + 1)) (lw2 (xs (i + 2)) (xs (i + 3))) H.size r czS k1) gL_law_X3_read rfl ⟨rfl, rfl⟩ hdX3_read ⟨Nat.le_of_ble_eq_true rfl, Nat.le_of_ble_eq_true rfl⟩ 3 0 rfl rfl rfl (hP.sub [0, 1, 2, 3, 4, 5] rfl) (hD.sub [0, 1, 2, 3, 4, 5] rfl rfl) hE hl rfl rfl (Nat.le_of_ble_eq_true rfl) dL_law_562 ⟨hc0, hs0⟩) (fun H locs hP hD hS => ?_)
    have hP : va_P D vwCl ((wF cJ dk so vo po co fo (lN P) (lN R) (lN hh) (ept (tT h hh 1).1) zt czS zV) ++ (wM cJ cZ mo a1 a2 a3 a4 a5 (lN P) (lN R) (lN hh) zx zy zi zu zv zl zpx zpy zip zvu zvv)) H := hP.sub [6, 7, 8, 9, 10, 11, 0, 1, 2, 3, 4, 5] rfl
    have hD : va_D (LA s) ((wF cJ dk so vo po co fo (lN P) (lN R) (lN hh) (ept (tT h hh 1).1) zt czS zV) ++ (wM cJ cZ mo a1 a2 a3 a4 a5 (lN P) (lN R) (lN hh) zx zy zi zu zv zl zpx zpy zip zvu zvv)) := hD.sub [6, 7, 8, 9, 10, 11, 0, 1, 2, 3, 4, 5] rfl rfl
    refine W.eq (g2 := F0 m 565 ls [.int r]) rfl ?_
    refine lv_aload_n hx hb dL_law_565 rfl (lv_at hl 2 rfl) ?_
    refine sc_ld (k := 1) hF hS hl (by omega) hL dL_law_566 dL_law_567 dL_law_568 (by decide) dL_law_569 dL_law_570 ?_
    refine sc_ll (k := 2) hF hS hl (by omega) hL dL_law_571 dL_law_572 dL_law_573 dL_law_574 dL_law_575 dL_law_576 dL_law_577 dL_law_579 dL_law_580 dL_law_581 dL_law_582 dL_law_583 dL_law_584 dL_law_585 (by decide) (by decide) dL_law_586 lk36 dL_law_589 dL_law_590 ?_
    refine kE (wc := (wM cJ cZ mo a1 a2 a3 a4 a5 (lN P) (lN R) (lN hh) zx zy zi zu zv zl zpx zpy zip zvu zvv)) (wr := (wF cJ dk so vo po co fo (lN P) (lN R) (lN hh) (ept (tT h hh 1).1) zt czS zV)) [6, 7, 8, 9, 10, 11] [0, 1, 2, 3, 4, 5] hP hD hS hA rfl rfl rfl (by decide) rfl (eV (As := [.int (xs (i + 1)), .long (lw2 (xs (i + 2)) (xs (i + 3)))]) (rest := [.int r]) C0 (kX4_read l D cJ cZ mo a1 a2 a3 a4 a5 N (lN P) (lN R) (lN hh) zx zy zi zu zv zl zpx zpy zip zvu zvv (xs (i + 1)) (lw2 (xs (i + 2)) (xs (i + 3))) H.size r mzpx mzpy mzip k2) gL_law_X4_read rfl ⟨rfl, rfl⟩ hdX4_read ⟨Nat.le_of_ble_eq_true rfl, Nat.le_of_ble_eq_true rfl⟩ 4 0 rfl rfl rfl (hP.sub [6, 7, 8, 9, 10, 11] rfl) (hD.sub [6, 7, 8, 9, 10, 11] rfl rfl) hE hl rfl rfl (Nat.le_of_ble_eq_true rfl) dL_law_591 ⟨hc0, hs0⟩) (fun H locs hP hD hS => ?_)
    refine W.eq (g2 := F0 m 594 ls [.int r, .int r]) rfl ?_
    refine lv_icmp_eq (tgt := 1067) hx hb dL_law_594 (by decide) (fun _ => ?_) (fun cx => absurd rfl cx)
    exact W.widen (by omega) (by omega) (nx _ _ ⟨hS, .inr ⟨so, vo, po, co, fo, a1, a2, a3, a4, a5, P, R, hh, ne, h, zt, czS, zV, zx, zy, zi, zu, zv, zl, mzpx, mzpy, mzip, zvu, zvv, pP, h0, hR, hH, hP, hD, k3, vR⟩⟩)
set_option maxHeartbeats 4000000 in
set_option maxRecDepth 100000 in
theorem cs_pair (hF : LF p s m c b L xs) (hE : EV D cJ cZ s) (hL : L ≤ 3072) (hi : i + 6 ≤ L) (hl : lv_has ls 4 [(0, .ref b), (1, .ref dk), (2, .ref mo), (3, .int (nI i))]) (hcl : cells + 3 ≤ room_1.cells) (hsl : slots + 10 ≤ room_1.slots) (hI : IV D cJ cZ dk mo s H locs) (nx : ∀ (H : Heap) (locs : List Loc), IV D cJ cZ dk mo s H locs → W p l e room_1 s m #[Value.ref b] below meth c H locs (cells + 3) (slots + 10) Q (F0 m 1067 ls [])) : W p l e room_1 s m #[Value.ref b] below meth c H locs cells slots Q (F0 m 599 ls []) := by
  obtain ⟨C0, hX, hbl⟩ := id hF
  have hx := C0.1
  have hb := C0.2.1
  have hA : ∀ q : Nat, s.heap.size ≤ q → LA s q := fun _ h => h
  obtain ⟨N, hN⟩ : ∃ N : Nat, 100000 ≤ N := ⟨100000, Nat.le_refl _⟩
  have hc0 : cells ≤ room_1.cells := Nat.le_trans (Nat.le_add_right cells 3) hcl
  have hs0 : slots ≤ room_1.slots := Nat.le_trans (Nat.le_add_right slots 10) hsl
  obtain ⟨hS, hM⟩ := hI
  rcases hM with ⟨so, vo, a1, a2, a3, a4, a5, zS, zV, zx, zy, zi, zu, zv, zl, zpx, zpy, zip, zvu, zvv, hP, hD⟩ | ⟨so, vo, po, co, fo, a1, a2, a3, a4, a5, P, R, hh, ne, h, zt, zS, zV, zx, zy, zi, zu, zv, zl, zpx, zpy, zip, zvu, zvv, pP, h0, hR, hH, hP, hD, sR, vR⟩
  · have hP : va_P D vwCl ((wN cJ dk so vo zS zV) ++ (wM cJ cZ mo a1 a2 a3 a4 a5 0 0 0 zx zy zi zu zv zl zpx zpy zip zvu zvv)) H := hP
    have hD : va_D (LA s) ((wN cJ dk so vo zS zV) ++ (wM cJ cZ mo a1 a2 a3 a4 a5 0 0 0 zx zy zi zu zv zl zpx zpy zip zvu zvv)) := hD
    refine lv_aload_n hx hb dL_law_599 rfl (lv_at hl 1 rfl) ?_
    refine sc_ld (k := 1) hF hS hl (by omega) hL dL_law_600 dL_law_601 dL_law_602 (by decide) dL_law_603 dL_law_604 ?_
    refine sc_ld (k := 2) hF hS hl (by omega) hL dL_law_605 dL_law_606 dL_law_607 (by decide) dL_law_608 dL_law_609 ?_
    refine sc_ld (k := 3) hF hS hl (by omega) hL dL_law_610 dL_law_611 dL_law_612 (by decide) dL_law_613 dL_law_614 ?_
    refine ki (kV (As := [.int (xs (i + 1)), .int (xs (i + 2)), .int (xs (i + 3))]) (rest := []) C0 (kX3_pair_null l D cJ cZ dk so vo zS zV (xs (i + 1)) (xs (i + 2)) (xs (i + 3)) (-3) rfl) gL_law_X3_pair rfl ⟨rfl, rfl⟩ hdX3_pair ⟨Nat.le_of_ble_eq_true rfl, Nat.le_of_ble_eq_true rfl⟩ 3 0 rfl rfl rfl (hP.sub [0, 1, 2] rfl) hE hl rfl rfl (Nat.le_of_ble_eq_true rfl) dL_law_615 hc0 hs0) ?_
    refine lv_aload_n hx hb dL_law_618 rfl (lv_at hl 2 rfl) ?_
    refine sc_ld (k := 1) hF hS hl (by omega) hL dL_law_619 dL_law_620 dL_law_621 (by decide) dL_law_622 dL_law_623 ?_
    refine sc_ld (k := 2) hF hS hl (by omega) hL dL_law_624 dL_law_625 dL_law_626 (by decide) dL_law_627 dL_law_628 ?_
    refine sc_ld (k := 3) hF hS hl (by omega) hL dL_law_629 dL_law_630 dL_law_631 (by decide) dL_law_632 dL_law_633 ?_
    refine kE (wc := (wM cJ cZ mo a1 a2 a3 a4 a5 0 0 0 zx zy zi zu zv zl zpx zpy zip zvu zvv)) (wr := (wN cJ dk so vo zS zV)) [3, 4, 5, 6, 7, 8] [0, 1, 2] hP hD hS hA rfl rfl rfl (by decide) rfl (eV (As := [.int (xs (i + 1)), .int (xs (i + 2)), .int (xs (i + 3))]) (rest := [.int (-3)]) C0 (kX4_pair l D cJ cZ mo a1 a2 a3 a4 a5 N 0 0 0 zx zy zi zu zv zl zpx zpy zip zvu zvv (xs (i + 1)) (xs (i + 2)) (xs (i + 3)) H.size (-3) zx zy zi zu zv zl zvu zvv (by unfold fX4_pair; exact if_pos rfl)) gL_law_X4_pair rfl ⟨rfl, rfl⟩ hdX4_pair ⟨Nat.le_of_ble_eq_true rfl, Nat.le_of_ble_eq_true rfl⟩ 4 0 rfl rfl rfl (hP.sub [3, 4, 5, 6, 7, 8] rfl) (hD.sub [3, 4, 5, 6, 7, 8] rfl rfl) hE hl rfl rfl (Nat.le_of_ble_eq_true rfl) dL_law_634 ⟨hc0, hs0⟩) (fun H locs hP hD hS => ?_)
    refine W.eq (g2 := F0 m 637 ls [.int (-3), .int (-3)]) rfl ?_
    refine lv_icmp_eq (tgt := 1067) hx hb dL_law_637 (by decide) (fun _ => ?_) (fun cx => absurd rfl cx)
    exact W.widen (by omega) (by omega) (nx _ _ ⟨hS, .inl ⟨so, vo, a1, a2, a3, a4, a5, zS, zV, zx, zy, zi, zu, zv, zl, zpx, zpy, zip, zvu, zvv, hP, hD⟩⟩)
  · obtain ⟨hbt, hr⟩ := RB_of h0 hR
    obtain ⟨r, czV, mzx, mzy, mzi, mzu, mzv, mzl, mzvu, mzvv, k1, k2, k3⟩ := g_pair h pP hN hr sR vR zx zy zu zv zi zl (xs (i + 1)) (xs (i + 2)) (xs (i + 3))
    have hP : va_P D vwCl ((wF cJ dk so vo po co fo (lN P) (lN R) (lN hh) (ept (tT h hh 1).1) zt zS zV) ++ (wM cJ cZ mo a1 a2 a3 a4 a5 (lN P) (lN R) (lN hh) zx zy zi zu zv zl zpx zpy zip zvu zvv)) H := hP
    have hD : va_D (LA s) ((wF cJ dk so vo po co fo (lN P) (lN R) (lN hh) (ept (tT h hh 1).1) zt zS zV) ++ (wM cJ cZ mo a1 a2 a3 a4 a5 (lN P) (lN R) (lN hh) zx zy zi zu zv zl zpx zpy zip zvu zvv)) := hD
    refine lv_aload_n hx hb dL_law_599 rfl (lv_at hl 1 rfl) ?_
    refine sc_ld (k := 1) hF hS hl (by omega) hL dL_law_600 dL_law_601 dL_law_602 (by decide) dL_law_603 dL_law_604 ?_
    refine sc_ld (k := 2) hF hS hl (by omega) hL dL_law_605 dL_law_606 dL_law_607 (by decide) dL_law_608 dL_law_609 ?_
    refine sc_ld (k := 3) hF hS hl (by omega) hL dL_law_610 dL_law_611 dL_law_612 (by decide) dL_law_613 dL_law_614 ?_
    refine kE (wc := (wF cJ dk so vo po co fo (lN P) (lN R) (lN hh) (ept (tT h hh 1).1) zt zS zV)) (wr := (wM cJ cZ mo a1 a2 a3 a4 a5 (lN P) (lN R) (lN hh) zx zy zi zu zv zl zpx zpy zip zvu zvv)) [0, 1, 2, 3, 4, 5] [6, 7, 8, 9, 10, 11] hP hD hS hA rfl rfl rfl (by decide) rfl (eV (As := [.int (xs (i + 1)), .int (xs (i + 2)), .int (xs (i + 3))]) (rest := []) C0 (kX3_pair l D cJ cZ dk so vo po co fo N (lN P) (lN R) (lN hh) (ept (tT h hh 1).1) zt zS zV (xs (i + 1)) (xs (i + 2)) (xs (i + 3)) H.size r czV k1) gL_law_X3_pair rfl ⟨rfl, rfl⟩ hdX3_pair ⟨Nat.le_of_ble_eq_true rfl, Nat.le_of_ble_eq_true rfl⟩ 3 0 rfl rfl rfl (hP.sub [0, 1, 2, 3, 4, 5] rfl) (hD.sub [0, 1, 2, 3, 4, 5] rfl rfl) hE hl rfl rfl (Nat.le_of_ble_eq_true rfl) dL_law_615 ⟨hc0, hs0⟩) (fun H locs hP hD hS => ?_)
    have hP : va_P D vwCl ((wF cJ dk so vo po co fo (lN P) (lN R) (lN hh) (ept (tT h hh 1).1) zt zS czV) ++ (wM cJ cZ mo a1 a2 a3 a4 a5 (lN P) (lN R) (lN hh) zx zy zi zu zv zl zpx zpy zip zvu zvv)) H := hP.sub [6, 7, 8, 9, 10, 11, 0, 1, 2, 3, 4, 5] rfl
    have hD : va_D (LA s) ((wF cJ dk so vo po co fo (lN P) (lN R) (lN hh) (ept (tT h hh 1).1) zt zS czV) ++ (wM cJ cZ mo a1 a2 a3 a4 a5 (lN P) (lN R) (lN hh) zx zy zi zu zv zl zpx zpy zip zvu zvv)) := hD.sub [6, 7, 8, 9, 10, 11, 0, 1, 2, 3, 4, 5] rfl rfl
    refine W.eq (g2 := F0 m 618 ls [.int r]) rfl ?_
    refine lv_aload_n hx hb dL_law_618 rfl (lv_at hl 2 rfl) ?_
    refine sc_ld (k := 1) hF hS hl (by omega) hL dL_law_619 dL_law_620 dL_law_621 (by decide) dL_law_622 dL_law_623 ?_
    refine sc_ld (k := 2) hF hS hl (by omega) hL dL_law_624 dL_law_625 dL_law_626 (by decide) dL_law_627 dL_law_628 ?_
    refine sc_ld (k := 3) hF hS hl (by omega) hL dL_law_629 dL_law_630 dL_law_631 (by decide) dL_law_632 dL_law_633 ?_
    refine kE (wc := (wM cJ cZ mo a1 a2 a3 a4 a5 (lN P) (lN R) (lN hh) zx zy zi zu zv zl zpx zpy zip zvu zvv)) (wr := (wF cJ dk so vo po co fo (lN P) (lN R) (lN hh) (ept (tT h hh 1).1) zt zS czV)) [6, 7, 8, 9, 10, 11] [0, 1, 2, 3, 4, 5] hP hD hS hA rfl rfl rfl (by decide) rfl (eV (As := [.int (xs (i + 1)), .int (xs (i + 2)), .int (xs (i + 3))]) (rest := [.int r]) C0 (kX4_pair l D cJ cZ mo a1 a2 a3 a4 a5 N (lN P) (lN R) (lN hh) zx zy zi zu zv zl zpx zpy zip zvu zvv (xs (i + 1)) (xs (i + 2)) (xs (i + 3)) H.size r mzx mzy mzi mzu mzv mzl mzvu mzvv k2) gL_law_X4_pair rfl ⟨rfl, rfl⟩ hdX4_pair ⟨Nat.le_of_ble_eq_true rfl, Nat.le_of_ble_eq_true rfl⟩ 4 0 rfl rfl rfl (hP.sub [6, 7, 8, 9, 10, 11] rfl) (hD.sub [6, 7, 8, 9, 10, 11] rfl rfl) hE hl rfl rfl (Nat.le_of_ble_eq_true rfl) dL_law_634 ⟨hc0, hs0⟩) (fun H locs hP hD hS => ?_)
    refine W.eq (g2 := F0 m 637 ls [.int r, .int r]) rfl ?_
    refine lv_icmp_eq (tgt := 1067) hx hb dL_law_637 (by decide) (fun _ => ?_) (fun cx => absurd rfl cx)
    exact W.widen (by omega) (by omega) (nx _ _ ⟨hS, .inr ⟨so, vo, po, co, fo, a1, a2, a3, a4, a5, P, R, hh, ne, h, zt, zS, czV, mzx, mzy, mzi, mzu, mzv, mzl, zpx, zpy, zip, mzvu, mzvv, pP, h0, hR, hH, hP, hD, sR, k3⟩⟩)
set_option maxHeartbeats 4000000 in
set_option maxRecDepth 100000 in
theorem cs_multiply (hF : LF p s m c b L xs) (hE : EV D cJ cZ s) (hL : L ≤ 3072) (hi : i + 6 ≤ L) (hl : lv_has ls 4 [(0, .ref b), (1, .ref dk), (2, .ref mo), (3, .int (nI i))]) (hcl : cells + 3 ≤ room_1.cells) (hsl : slots + 10 ≤ room_1.slots) (hI : IV D cJ cZ dk mo s H locs) (nx : ∀ (H : Heap) (locs : List Loc), IV D cJ cZ dk mo s H locs → W p l e room_1 s m #[Value.ref b] below meth c H locs (cells + 3) (slots + 10) Q (F0 m 1067 ls [])) : W p l e room_1 s m #[Value.ref b] below meth c H locs cells slots Q (F0 m 642 ls []) := by
  obtain ⟨C0, hX, hbl⟩ := id hF
  have hx := C0.1
  have hb := C0.2.1
  have hA : ∀ q : Nat, s.heap.size ≤ q → LA s q := fun _ h => h
  obtain ⟨N, hN⟩ : ∃ N : Nat, 100000 ≤ N := ⟨100000, Nat.le_refl _⟩
  have hc0 : cells ≤ room_1.cells := Nat.le_trans (Nat.le_add_right cells 3) hcl
  have hs0 : slots ≤ room_1.slots := Nat.le_trans (Nat.le_add_right slots 10) hsl
  obtain ⟨hS, hM⟩ := hI
  rcases hM with ⟨so, vo, a1, a2, a3, a4, a5, zS, zV, zx, zy, zi, zu, zv, zl, zpx, zpy, zip, zvu, zvv, hP, hD⟩ | ⟨so, vo, po, co, fo, a1, a2, a3, a4, a5, P, R, hh, ne, h, zt, zS, zV, zx, zy, zi, zu, zv, zl, zpx, zpy, zip, zvu, zvv, pP, h0, hR, hH, hP, hD, sR, vR⟩
  · have hP : va_P D vwCl ((wN cJ dk so vo zS zV) ++ (wM cJ cZ mo a1 a2 a3 a4 a5 0 0 0 zx zy zi zu zv zl zpx zpy zip zvu zvv)) H := hP
    have hD : va_D (LA s) ((wN cJ dk so vo zS zV) ++ (wM cJ cZ mo a1 a2 a3 a4 a5 0 0 0 zx zy zi zu zv zl zpx zpy zip zvu zvv)) := hD
    refine lv_aload_n hx hb dL_law_642 rfl (lv_at hl 1 rfl) ?_
    refine sc_ld (k := 1) hF hS hl (by omega) hL dL_law_643 dL_law_644 dL_law_645 (by decide) dL_law_646 dL_law_647 ?_
    refine sc_ld (k := 2) hF hS hl (by omega) hL dL_law_648 dL_law_649 dL_law_650 (by decide) dL_law_651 dL_law_652 ?_
    refine sc_ld (k := 3) hF hS hl (by omega) hL dL_law_653 dL_law_654 dL_law_655 (by decide) dL_law_656 dL_law_657 ?_
    refine ki (kV (As := [.int (xs (i + 1)), .int (xs (i + 2)), .int (xs (i + 3))]) (rest := []) C0 (kX3_multiply_null l D cJ cZ dk so vo zS zV (xs (i + 1)) (xs (i + 2)) (xs (i + 3)) (-3) rfl) gL_law_X3_multiply rfl ⟨rfl, rfl⟩ hdX3_multiply ⟨Nat.le_of_ble_eq_true rfl, Nat.le_of_ble_eq_true rfl⟩ 3 0 rfl rfl rfl (hP.sub [0, 1, 2] rfl) hE hl rfl rfl (Nat.le_of_ble_eq_true rfl) dL_law_658 hc0 hs0) ?_
    refine lv_aload_n hx hb dL_law_661 rfl (lv_at hl 2 rfl) ?_
    refine sc_ld (k := 1) hF hS hl (by omega) hL dL_law_662 dL_law_663 dL_law_664 (by decide) dL_law_665 dL_law_666 ?_
    refine sc_ld (k := 2) hF hS hl (by omega) hL dL_law_667 dL_law_668 dL_law_669 (by decide) dL_law_670 dL_law_671 ?_
    refine sc_ld (k := 3) hF hS hl (by omega) hL dL_law_672 dL_law_673 dL_law_674 (by decide) dL_law_675 dL_law_676 ?_
    refine kE (wc := (wM cJ cZ mo a1 a2 a3 a4 a5 0 0 0 zx zy zi zu zv zl zpx zpy zip zvu zvv)) (wr := (wN cJ dk so vo zS zV)) [3, 4, 5, 6, 7, 8] [0, 1, 2] hP hD hS hA rfl rfl rfl (by decide) rfl (eV (As := [.int (xs (i + 1)), .int (xs (i + 2)), .int (xs (i + 3))]) (rest := [.int (-3)]) C0 (kX4_multiply l D cJ cZ mo a1 a2 a3 a4 a5 0 0 0 zx zy zi zu zv zl zpx zpy zip zvu zvv (xs (i + 1)) (xs (i + 2)) (xs (i + 3)) H.size (-3) zu zv zvu zvv (by unfold fX4_multiply; exact if_pos rfl)) gL_law_X4_multiply rfl ⟨rfl, rfl⟩ hdX4_multiply ⟨Nat.le_of_ble_eq_true rfl, Nat.le_of_ble_eq_true rfl⟩ 4 0 rfl rfl rfl (hP.sub [3, 4, 5, 6, 7, 8] rfl) (hD.sub [3, 4, 5, 6, 7, 8] rfl rfl) hE hl rfl rfl (Nat.le_of_ble_eq_true rfl) dL_law_677 ⟨hc0, hs0⟩) (fun H locs hP hD hS => ?_)
    refine W.eq (g2 := F0 m 680 ls [.int (-3), .int (-3)]) rfl ?_
    refine lv_icmp_eq (tgt := 1067) hx hb dL_law_680 (by decide) (fun _ => ?_) (fun cx => absurd rfl cx)
    exact W.widen (by omega) (by omega) (nx _ _ ⟨hS, .inl ⟨so, vo, a1, a2, a3, a4, a5, zS, zV, zx, zy, zi, zu, zv, zl, zpx, zpy, zip, zvu, zvv, hP, hD⟩⟩)
  · obtain ⟨r, czV, mzu, mzv, mzvu, mzvv, k1, k2, k3⟩ := g_multiply h pP vR zu zv (xs (i + 1)) (xs (i + 2)) (xs (i + 3))
    have hP : va_P D vwCl ((wF cJ dk so vo po co fo (lN P) (lN R) (lN hh) (ept (tT h hh 1).1) zt zS zV) ++ (wM cJ cZ mo a1 a2 a3 a4 a5 (lN P) (lN R) (lN hh) zx zy zi zu zv zl zpx zpy zip zvu zvv)) H := hP
    have hD : va_D (LA s) ((wF cJ dk so vo po co fo (lN P) (lN R) (lN hh) (ept (tT h hh 1).1) zt zS zV) ++ (wM cJ cZ mo a1 a2 a3 a4 a5 (lN P) (lN R) (lN hh) zx zy zi zu zv zl zpx zpy zip zvu zvv)) := hD
    refine lv_aload_n hx hb dL_law_642 rfl (lv_at hl 1 rfl) ?_
    refine sc_ld (k := 1) hF hS hl (by omega) hL dL_law_643 dL_law_644 dL_law_645 (by decide) dL_law_646 dL_law_647 ?_
    refine sc_ld (k := 2) hF hS hl (by omega) hL dL_law_648 dL_law_649 dL_law_650 (by decide) dL_law_651 dL_law_652 ?_
    refine sc_ld (k := 3) hF hS hl (by omega) hL dL_law_653 dL_law_654 dL_law_655 (by decide) dL_law_656 dL_law_657 ?_
    refine kE (wc := (wF cJ dk so vo po co fo (lN P) (lN R) (lN hh) (ept (tT h hh 1).1) zt zS zV)) (wr := (wM cJ cZ mo a1 a2 a3 a4 a5 (lN P) (lN R) (lN hh) zx zy zi zu zv zl zpx zpy zip zvu zvv)) [0, 1, 2, 3, 4, 5] [6, 7, 8, 9, 10, 11] hP hD hS hA rfl rfl rfl (by decide) rfl (eV (As := [.int (xs (i + 1)), .int (xs (i + 2)), .int (xs (i + 3))]) (rest := []) C0 (kX3_multiply l D cJ cZ dk so vo po co fo (lN P) (lN R) (lN hh) (ept (tT h hh 1).1) zt zS zV (xs (i + 1)) (xs (i + 2)) (xs (i + 3)) H.size r czV k1) gL_law_X3_multiply rfl ⟨rfl, rfl⟩ hdX3_multiply ⟨Nat.le_of_ble_eq_true rfl, Nat.le_of_ble_eq_true rfl⟩ 3 0 rfl rfl rfl (hP.sub [0, 1, 2, 3, 4, 5] rfl) (hD.sub [0, 1, 2, 3, 4, 5] rfl rfl) hE hl rfl rfl (Nat.le_of_ble_eq_true rfl) dL_law_658 ⟨hc0, hs0⟩) (fun H locs hP hD hS => ?_)
    have hP : va_P D vwCl ((wF cJ dk so vo po co fo (lN P) (lN R) (lN hh) (ept (tT h hh 1).1) zt zS czV) ++ (wM cJ cZ mo a1 a2 a3 a4 a5 (lN P) (lN R) (lN hh) zx zy zi zu zv zl zpx zpy zip zvu zvv)) H := hP.sub [6, 7, 8, 9, 10, 11, 0, 1, 2, 3, 4, 5] rfl
    have hD : va_D (LA s) ((wF cJ dk so vo po co fo (lN P) (lN R) (lN hh) (ept (tT h hh 1).1) zt zS czV) ++ (wM cJ cZ mo a1 a2 a3 a4 a5 (lN P) (lN R) (lN hh) zx zy zi zu zv zl zpx zpy zip zvu zvv)) := hD.sub [6, 7, 8, 9, 10, 11, 0, 1, 2, 3, 4, 5] rfl rfl
    refine W.eq (g2 := F0 m 661 ls [.int r]) rfl ?_
    refine lv_aload_n hx hb dL_law_661 rfl (lv_at hl 2 rfl) ?_
    refine sc_ld (k := 1) hF hS hl (by omega) hL dL_law_662 dL_law_663 dL_law_664 (by decide) dL_law_665 dL_law_666 ?_
    refine sc_ld (k := 2) hF hS hl (by omega) hL dL_law_667 dL_law_668 dL_law_669 (by decide) dL_law_670 dL_law_671 ?_
    refine sc_ld (k := 3) hF hS hl (by omega) hL dL_law_672 dL_law_673 dL_law_674 (by decide) dL_law_675 dL_law_676 ?_
    refine kE (wc := (wM cJ cZ mo a1 a2 a3 a4 a5 (lN P) (lN R) (lN hh) zx zy zi zu zv zl zpx zpy zip zvu zvv)) (wr := (wF cJ dk so vo po co fo (lN P) (lN R) (lN hh) (ept (tT h hh 1).1) zt zS czV)) [6, 7, 8, 9, 10, 11] [0, 1, 2, 3, 4, 5] hP hD hS hA rfl rfl rfl (by decide) rfl (eV (As := [.int (xs (i + 1)), .int (xs (i + 2)), .int (xs (i + 3))]) (rest := [.int r]) C0 (kX4_multiply l D cJ cZ mo a1 a2 a3 a4 a5 (lN P) (lN R) (lN hh) zx zy zi zu zv zl zpx zpy zip zvu zvv (xs (i + 1)) (xs (i + 2)) (xs (i + 3)) H.size r mzu mzv mzvu mzvv k2) gL_law_X4_multiply rfl ⟨rfl, rfl⟩ hdX4_multiply ⟨Nat.le_of_ble_eq_true rfl, Nat.le_of_ble_eq_true rfl⟩ 4 0 rfl rfl rfl (hP.sub [6, 7, 8, 9, 10, 11] rfl) (hD.sub [6, 7, 8, 9, 10, 11] rfl rfl) hE hl rfl rfl (Nat.le_of_ble_eq_true rfl) dL_law_677 ⟨hc0, hs0⟩) (fun H locs hP hD hS => ?_)
    refine W.eq (g2 := F0 m 680 ls [.int r, .int r]) rfl ?_
    refine lv_icmp_eq (tgt := 1067) hx hb dL_law_680 (by decide) (fun _ => ?_) (fun cx => absurd rfl cx)
    exact W.widen (by omega) (by omega) (nx _ _ ⟨hS, .inr ⟨so, vo, po, co, fo, a1, a2, a3, a4, a5, P, R, hh, ne, h, zt, zS, czV, zx, zy, zi, mzu, mzv, zl, zpx, zpy, zip, mzvu, mzvv, pP, h0, hR, hH, hP, hD, sR, k3⟩⟩)
set_option maxHeartbeats 4000000 in
set_option maxRecDepth 100000 in
theorem cs_power (hF : LF p s m c b L xs) (hE : EV D cJ cZ s) (hL : L ≤ 3072) (hi : i + 6 ≤ L) (hl : lv_has ls 4 [(0, .ref b), (1, .ref dk), (2, .ref mo), (3, .int (nI i))]) (hcl : cells + 3 ≤ room_1.cells) (hsl : slots + 10 ≤ room_1.slots) (hI : IV D cJ cZ dk mo s H locs) (nx : ∀ (H : Heap) (locs : List Loc), IV D cJ cZ dk mo s H locs → W p l e room_1 s m #[Value.ref b] below meth c H locs (cells + 3) (slots + 10) Q (F0 m 1067 ls [])) : W p l e room_1 s m #[Value.ref b] below meth c H locs cells slots Q (F0 m 685 ls []) := by
  obtain ⟨C0, hX, hbl⟩ := id hF
  have hx := C0.1
  have hb := C0.2.1
  have hA : ∀ q : Nat, s.heap.size ≤ q → LA s q := fun _ h => h
  obtain ⟨N, hN⟩ : ∃ N : Nat, 100000 ≤ N := ⟨100000, Nat.le_refl _⟩
  have hc0 : cells ≤ room_1.cells := Nat.le_trans (Nat.le_add_right cells 3) hcl
  have hs0 : slots ≤ room_1.slots := Nat.le_trans (Nat.le_add_right slots 10) hsl
  obtain ⟨hS, hM⟩ := hI
  rcases hM with ⟨so, vo, a1, a2, a3, a4, a5, zS, zV, zx, zy, zi, zu, zv, zl, zpx, zpy, zip, zvu, zvv, hP, hD⟩ | ⟨so, vo, po, co, fo, a1, a2, a3, a4, a5, P, R, hh, ne, h, zt, zS, zV, zx, zy, zi, zu, zv, zl, zpx, zpy, zip, zvu, zvv, pP, h0, hR, hH, hP, hD, sR, vR⟩
  · have hP : va_P D vwCl ((wN cJ dk so vo zS zV) ++ (wM cJ cZ mo a1 a2 a3 a4 a5 0 0 0 zx zy zi zu zv zl zpx zpy zip zvu zvv)) H := hP
    have hD : va_D (LA s) ((wN cJ dk so vo zS zV) ++ (wM cJ cZ mo a1 a2 a3 a4 a5 0 0 0 zx zy zi zu zv zl zpx zpy zip zvu zvv)) := hD
    refine lv_aload_n hx hb dL_law_685 rfl (lv_at hl 1 rfl) ?_
    refine sc_ld (k := 1) hF hS hl (by omega) hL dL_law_686 dL_law_687 dL_law_688 (by decide) dL_law_689 dL_law_690 ?_
    refine sc_ld (k := 2) hF hS hl (by omega) hL dL_law_691 dL_law_692 dL_law_693 (by decide) dL_law_694 dL_law_695 ?_
    refine sc_ll (k := 3) hF hS hl (by omega) hL dL_law_696 dL_law_697 dL_law_698 dL_law_699 dL_law_700 dL_law_701 dL_law_702 dL_law_704 dL_law_705 dL_law_706 dL_law_707 dL_law_708 dL_law_709 dL_law_710 (by decide) (by decide) dL_law_711 lk36 dL_law_714 dL_law_715 ?_
    refine ki (kV (As := [.int (xs (i + 1)), .int (xs (i + 2)), .long (lw2 (xs (i + 3)) (xs (i + 4)))]) (rest := []) C0 (kX3_power_null l D cJ cZ dk so vo zS zV (xs (i + 1)) (xs (i + 2)) (lw2 (xs (i + 3)) (xs (i + 4))) (-3) rfl) gL_law_X3_power rfl ⟨rfl, rfl⟩ hdX3_power ⟨Nat.le_of_ble_eq_true rfl, Nat.le_of_ble_eq_true rfl⟩ 3 0 rfl rfl rfl (hP.sub [0, 1, 2] rfl) hE hl rfl rfl (Nat.le_of_ble_eq_true rfl) dL_law_716 hc0 hs0) ?_
    refine lv_aload_n hx hb dL_law_719 rfl (lv_at hl 2 rfl) ?_
    refine sc_ld (k := 1) hF hS hl (by omega) hL dL_law_720 dL_law_721 dL_law_722 (by decide) dL_law_723 dL_law_724 ?_
    refine sc_ld (k := 2) hF hS hl (by omega) hL dL_law_725 dL_law_726 dL_law_727 (by decide) dL_law_728 dL_law_729 ?_
    refine sc_ll (k := 3) hF hS hl (by omega) hL dL_law_730 dL_law_731 dL_law_732 dL_law_733 dL_law_734 dL_law_735 dL_law_736 dL_law_738 dL_law_739 dL_law_740 dL_law_741 dL_law_742 dL_law_743 dL_law_744 (by decide) (by decide) dL_law_745 lk36 dL_law_748 dL_law_749 ?_
    refine kE (wc := (wM cJ cZ mo a1 a2 a3 a4 a5 0 0 0 zx zy zi zu zv zl zpx zpy zip zvu zvv)) (wr := (wN cJ dk so vo zS zV)) [3, 4, 5, 6, 7, 8] [0, 1, 2] hP hD hS hA rfl rfl rfl (by decide) rfl (eV (As := [.int (xs (i + 1)), .int (xs (i + 2)), .long (lw2 (xs (i + 3)) (xs (i + 4)))]) (rest := [.int (-3)]) C0 (kX4_power l D cJ cZ mo a1 a2 a3 a4 a5 N 0 0 0 zx zy zi zu zv zl zpx zpy zip zvu zvv (xs (i + 1)) (xs (i + 2)) (lw2 (xs (i + 3)) (xs (i + 4))) H.size (-3) zu zv zvu zvv (by unfold fX4_power; exact if_pos rfl)) gL_law_X4_power rfl ⟨rfl, rfl⟩ hdX4_power ⟨Nat.le_of_ble_eq_true rfl, Nat.le_of_ble_eq_true rfl⟩ 4 0 rfl rfl rfl (hP.sub [3, 4, 5, 6, 7, 8] rfl) (hD.sub [3, 4, 5, 6, 7, 8] rfl rfl) hE hl rfl rfl (Nat.le_of_ble_eq_true rfl) dL_law_750 ⟨hc0, hs0⟩) (fun H locs hP hD hS => ?_)
    refine W.eq (g2 := F0 m 753 ls [.int (-3), .int (-3)]) rfl ?_
    refine lv_icmp_eq (tgt := 1067) hx hb dL_law_753 (by decide) (fun _ => ?_) (fun cx => absurd rfl cx)
    exact W.widen (by omega) (by omega) (nx _ _ ⟨hS, .inl ⟨so, vo, a1, a2, a3, a4, a5, zS, zV, zx, zy, zi, zu, zv, zl, zpx, zpy, zip, zvu, zvv, hP, hD⟩⟩)
  · obtain ⟨r, czV, mzu, mzv, mzvu, mzvv, k1, k2, k3⟩ := g_power h pP hN vR zu zv (xs (i + 1)) (xs (i + 2)) (lw2 (xs (i + 3)) (xs (i + 4)))
    have hP : va_P D vwCl ((wF cJ dk so vo po co fo (lN P) (lN R) (lN hh) (ept (tT h hh 1).1) zt zS zV) ++ (wM cJ cZ mo a1 a2 a3 a4 a5 (lN P) (lN R) (lN hh) zx zy zi zu zv zl zpx zpy zip zvu zvv)) H := hP
    have hD : va_D (LA s) ((wF cJ dk so vo po co fo (lN P) (lN R) (lN hh) (ept (tT h hh 1).1) zt zS zV) ++ (wM cJ cZ mo a1 a2 a3 a4 a5 (lN P) (lN R) (lN hh) zx zy zi zu zv zl zpx zpy zip zvu zvv)) := hD
    refine lv_aload_n hx hb dL_law_685 rfl (lv_at hl 1 rfl) ?_
    refine sc_ld (k := 1) hF hS hl (by omega) hL dL_law_686 dL_law_687 dL_law_688 (by decide) dL_law_689 dL_law_690 ?_
    refine sc_ld (k := 2) hF hS hl (by omega) hL dL_law_691 dL_law_692 dL_law_693 (by decide) dL_law_694 dL_law_695 ?_
    refine sc_ll (k := 3) hF hS hl (by omega) hL dL_law_696 dL_law_697 dL_law_698 dL_law_699 dL_law_700 dL_law_701 dL_law_702 dL_law_704 dL_law_705 dL_law_706 dL_law_707 dL_law_708 dL_law_709 dL_law_710 (by decide) (by decide) dL_law_711 lk36 dL_law_714 dL_law_715 ?_
    refine kE (wc := (wF cJ dk so vo po co fo (lN P) (lN R) (lN hh) (ept (tT h hh 1).1) zt zS zV)) (wr := (wM cJ cZ mo a1 a2 a3 a4 a5 (lN P) (lN R) (lN hh) zx zy zi zu zv zl zpx zpy zip zvu zvv)) [0, 1, 2, 3, 4, 5] [6, 7, 8, 9, 10, 11] hP hD hS hA rfl rfl rfl (by decide) rfl (eV (As := [.int (xs (i + 1)), .int (xs (i + 2)), .long (lw2 (xs (i + 3)) (xs (i + 4)))]) (rest := []) C0 (kX3_power l D cJ cZ dk so vo po co fo N (lN P) (lN R) (lN hh) (ept (tT h hh 1).1) zt zS zV (xs (i + 1)) (xs (i + 2)) (lw2 (xs (i + 3)) (xs (i + 4))) H.size r czV k1) gL_law_X3_power rfl ⟨rfl, rfl⟩ hdX3_power ⟨Nat.le_of_ble_eq_true rfl, Nat.le_of_ble_eq_true rfl⟩ 3 0 rfl rfl rfl (hP.sub [0, 1, 2, 3, 4, 5] rfl) (hD.sub [0, 1, 2, 3, 4, 5] rfl rfl) hE hl rfl rfl (Nat.le_of_ble_eq_true rfl) dL_law_716 ⟨hc0, hs0⟩) (fun H locs hP hD hS => ?_)
    have hP : va_P D vwCl ((wF cJ dk so vo po co fo (lN P) (lN R) (lN hh) (ept (tT h hh 1).1) zt zS czV) ++ (wM cJ cZ mo a1 a2 a3 a4 a5 (lN P) (lN R) (lN hh) zx zy zi zu zv zl zpx zpy zip zvu zvv)) H := hP.sub [6, 7, 8, 9, 10, 11, 0, 1, 2, 3, 4, 5] rfl
    have hD : va_D (LA s) ((wF cJ dk so vo po co fo (lN P) (lN R) (lN hh) (ept (tT h hh 1).1) zt zS czV) ++ (wM cJ cZ mo a1 a2 a3 a4 a5 (lN P) (lN R) (lN hh) zx zy zi zu zv zl zpx zpy zip zvu zvv)) := hD.sub [6, 7, 8, 9, 10, 11, 0, 1, 2, 3, 4, 5] rfl rfl
    refine W.eq (g2 := F0 m 719 ls [.int r]) rfl ?_
    refine lv_aload_n hx hb dL_law_719 rfl (lv_at hl 2 rfl) ?_
    refine sc_ld (k := 1) hF hS hl (by omega) hL dL_law_720 dL_law_721 dL_law_722 (by decide) dL_law_723 dL_law_724 ?_
    refine sc_ld (k := 2) hF hS hl (by omega) hL dL_law_725 dL_law_726 dL_law_727 (by decide) dL_law_728 dL_law_729 ?_
    refine sc_ll (k := 3) hF hS hl (by omega) hL dL_law_730 dL_law_731 dL_law_732 dL_law_733 dL_law_734 dL_law_735 dL_law_736 dL_law_738 dL_law_739 dL_law_740 dL_law_741 dL_law_742 dL_law_743 dL_law_744 (by decide) (by decide) dL_law_745 lk36 dL_law_748 dL_law_749 ?_
    refine kE (wc := (wM cJ cZ mo a1 a2 a3 a4 a5 (lN P) (lN R) (lN hh) zx zy zi zu zv zl zpx zpy zip zvu zvv)) (wr := (wF cJ dk so vo po co fo (lN P) (lN R) (lN hh) (ept (tT h hh 1).1) zt zS czV)) [6, 7, 8, 9, 10, 11] [0, 1, 2, 3, 4, 5] hP hD hS hA rfl rfl rfl (by decide) rfl (eV (As := [.int (xs (i + 1)), .int (xs (i + 2)), .long (lw2 (xs (i + 3)) (xs (i + 4)))]) (rest := [.int r]) C0 (kX4_power l D cJ cZ mo a1 a2 a3 a4 a5 N (lN P) (lN R) (lN hh) zx zy zi zu zv zl zpx zpy zip zvu zvv (xs (i + 1)) (xs (i + 2)) (lw2 (xs (i + 3)) (xs (i + 4))) H.size r mzu mzv mzvu mzvv k2) gL_law_X4_power rfl ⟨rfl, rfl⟩ hdX4_power ⟨Nat.le_of_ble_eq_true rfl, Nat.le_of_ble_eq_true rfl⟩ 4 0 rfl rfl rfl (hP.sub [6, 7, 8, 9, 10, 11] rfl) (hD.sub [6, 7, 8, 9, 10, 11] rfl rfl) hE hl rfl rfl (Nat.le_of_ble_eq_true rfl) dL_law_750 ⟨hc0, hs0⟩) (fun H locs hP hD hS => ?_)
    refine W.eq (g2 := F0 m 753 ls [.int r, .int r]) rfl ?_
    refine lv_icmp_eq (tgt := 1067) hx hb dL_law_753 (by decide) (fun _ => ?_) (fun cx => absurd rfl cx)
    exact W.widen (by omega) (by omega) (nx _ _ ⟨hS, .inr ⟨so, vo, po, co, fo, a1, a2, a3, a4, a5, P, R, hh, ne, h, zt, zS, czV, zx, zy, zi, mzu, mzv, zl, zpx, zpy, zip, mzvu, mzvv, pP, h0, hR, hH, hP, hD, sR, k3⟩⟩)
set_option maxHeartbeats 4000000 in
set_option maxRecDepth 100000 in
theorem cs_value (hF : LF p s m c b L xs) (hE : EV D cJ cZ s) (hL : L ≤ 3072) (hi : i + 6 ≤ L) (hl : lv_has ls 4 [(0, .ref b), (1, .ref dk), (2, .ref mo), (3, .int (nI i))]) (hcl : cells + 3 ≤ room_1.cells) (hsl : slots + 10 ≤ room_1.slots) (hI : IV D cJ cZ dk mo s H locs) (nx : ∀ (H : Heap) (locs : List Loc), IV D cJ cZ dk mo s H locs → W p l e room_1 s m #[Value.ref b] below meth c H locs (cells + 3) (slots + 10) Q (F0 m 1067 ls [])) : W p l e room_1 s m #[Value.ref b] below meth c H locs cells slots Q (F0 m 758 ls []) := by
  obtain ⟨C0, hX, hbl⟩ := id hF
  have hx := C0.1
  have hb := C0.2.1
  have hA : ∀ q : Nat, s.heap.size ≤ q → LA s q := fun _ h => h
  obtain ⟨N, hN⟩ : ∃ N : Nat, 100000 ≤ N := ⟨100000, Nat.le_refl _⟩
  have hc0 : cells ≤ room_1.cells := Nat.le_trans (Nat.le_add_right cells 3) hcl
  have hs0 : slots ≤ room_1.slots := Nat.le_trans (Nat.le_add_right slots 10) hsl
  obtain ⟨hS, hM⟩ := hI
  rcases hM with ⟨so, vo, a1, a2, a3, a4, a5, zS, zV, zx, zy, zi, zu, zv, zl, zpx, zpy, zip, zvu, zvv, hP, hD⟩ | ⟨so, vo, po, co, fo, a1, a2, a3, a4, a5, P, R, hh, ne, h, zt, zS, zV, zx, zy, zi, zu, zv, zl, zpx, zpy, zip, zvu, zvv, pP, h0, hR, hH, hP, hD, sR, vR⟩
  · have hP : va_P D vwCl ((wN cJ dk so vo zS zV) ++ (wM cJ cZ mo a1 a2 a3 a4 a5 0 0 0 zx zy zi zu zv zl zpx zpy zip zvu zvv)) H := hP
    have hD : va_D (LA s) ((wN cJ dk so vo zS zV) ++ (wM cJ cZ mo a1 a2 a3 a4 a5 0 0 0 zx zy zi zu zv zl zpx zpy zip zvu zvv)) := hD
    refine lv_aload_n hx hb dL_law_758 rfl (lv_at hl 1 rfl) ?_
    refine sc_ld (k := 1) hF hS hl (by omega) hL dL_law_759 dL_law_760 dL_law_761 (by decide) dL_law_762 dL_law_763 ?_
    refine sc_ld (k := 2) hF hS hl (by omega) hL dL_law_764 dL_law_765 dL_law_766 (by decide) dL_law_767 dL_law_768 ?_
    refine ki (kV (As := [.int (xs (i + 1)), .int (xs (i + 2))]) (rest := []) C0 (kX3_value_null l D cJ cZ dk so vo zS zV (xs (i + 1)) (xs (i + 2)) (-3) rfl) gL_law_X3_value rfl ⟨rfl, rfl⟩ hdX3_value ⟨Nat.le_of_ble_eq_true rfl, Nat.le_of_ble_eq_true rfl⟩ 3 0 rfl rfl rfl (hP.sub [0, 1, 2] rfl) hE hl rfl rfl (Nat.le_of_ble_eq_true rfl) dL_law_769 hc0 hs0) ?_
    refine lv_aload_n hx hb dL_law_772 rfl (lv_at hl 2 rfl) ?_
    refine sc_ld (k := 1) hF hS hl (by omega) hL dL_law_773 dL_law_774 dL_law_775 (by decide) dL_law_776 dL_law_777 ?_
    refine sc_ld (k := 2) hF hS hl (by omega) hL dL_law_778 dL_law_779 dL_law_780 (by decide) dL_law_781 dL_law_782 ?_
    refine ki (kV (As := [.int (xs (i + 1)), .int (xs (i + 2))]) (rest := [.int (-3)]) C0 (kX4_value l D cJ cZ mo a1 a2 a3 a4 a5 0 0 0 zx zy zi zu zv zl zpx zpy zip zvu zvv (xs (i + 1)) (xs (i + 2)) (-3) (by unfold fX4_value; exact if_pos rfl)) gL_law_X4_value rfl ⟨rfl, rfl⟩ hdX4_value ⟨Nat.le_of_ble_eq_true rfl, Nat.le_of_ble_eq_true rfl⟩ 4 0 rfl rfl rfl (hP.sub [3, 4, 5, 6, 7, 8] rfl) hE hl rfl rfl (Nat.le_of_ble_eq_true rfl) dL_law_783 hc0 hs0) ?_
    refine lv_icmp_eq (tgt := 1067) hx hb dL_law_786 (by decide) (fun _ => ?_) (fun cx => absurd rfl cx)
    exact W.widen (by omega) (by omega) (nx _ _ ⟨hS, .inl ⟨so, vo, a1, a2, a3, a4, a5, zS, zV, zx, zy, zi, zu, zv, zl, zpx, zpy, zip, zvu, zvv, hP, hD⟩⟩)
  · obtain ⟨r, k1, k2⟩ := g_value pP vR (xs (i + 1)) (xs (i + 2))
    have hP : va_P D vwCl ((wF cJ dk so vo po co fo (lN P) (lN R) (lN hh) (ept (tT h hh 1).1) zt zS zV) ++ (wM cJ cZ mo a1 a2 a3 a4 a5 (lN P) (lN R) (lN hh) zx zy zi zu zv zl zpx zpy zip zvu zvv)) H := hP
    have hD : va_D (LA s) ((wF cJ dk so vo po co fo (lN P) (lN R) (lN hh) (ept (tT h hh 1).1) zt zS zV) ++ (wM cJ cZ mo a1 a2 a3 a4 a5 (lN P) (lN R) (lN hh) zx zy zi zu zv zl zpx zpy zip zvu zvv)) := hD
    refine lv_aload_n hx hb dL_law_758 rfl (lv_at hl 1 rfl) ?_
    refine sc_ld (k := 1) hF hS hl (by omega) hL dL_law_759 dL_law_760 dL_law_761 (by decide) dL_law_762 dL_law_763 ?_
    refine sc_ld (k := 2) hF hS hl (by omega) hL dL_law_764 dL_law_765 dL_law_766 (by decide) dL_law_767 dL_law_768 ?_
    refine ki (kV (As := [.int (xs (i + 1)), .int (xs (i + 2))]) (rest := []) C0 (kX3_value l D cJ cZ dk so vo po co fo (lN P) (lN R) (lN hh) (ept (tT h hh 1).1) zt zS zV (xs (i + 1)) (xs (i + 2)) r k1) gL_law_X3_value rfl ⟨rfl, rfl⟩ hdX3_value ⟨Nat.le_of_ble_eq_true rfl, Nat.le_of_ble_eq_true rfl⟩ 3 0 rfl rfl rfl (hP.sub [0, 1, 2, 3, 4, 5] rfl) hE hl rfl rfl (Nat.le_of_ble_eq_true rfl) dL_law_769 hc0 hs0) ?_
    refine lv_aload_n hx hb dL_law_772 rfl (lv_at hl 2 rfl) ?_
    refine sc_ld (k := 1) hF hS hl (by omega) hL dL_law_773 dL_law_774 dL_law_775 (by decide) dL_law_776 dL_law_777 ?_
    refine sc_ld (k := 2) hF hS hl (by omega) hL dL_law_778 dL_law_779 dL_law_780 (by decide) dL_law_781 dL_law_782 ?_
    refine ki (kV (As := [.int (xs (i + 1)), .int (xs (i + 2))]) (rest := [.int r]) C0 (kX4_value l D cJ cZ mo a1 a2 a3 a4 a5 (lN P) (lN R) (lN hh) zx zy zi zu zv zl zpx zpy zip zvu zvv (xs (i + 1)) (xs (i + 2)) r k2) gL_law_X4_value rfl ⟨rfl, rfl⟩ hdX4_value ⟨Nat.le_of_ble_eq_true rfl, Nat.le_of_ble_eq_true rfl⟩ 4 0 rfl rfl rfl (hP.sub [6, 7, 8, 9, 10, 11] rfl) hE hl rfl rfl (Nat.le_of_ble_eq_true rfl) dL_law_783 hc0 hs0) ?_
    refine lv_icmp_eq (tgt := 1067) hx hb dL_law_786 (by decide) (fun _ => ?_) (fun cx => absurd rfl cx)
    exact W.widen (by omega) (by omega) (nx _ _ ⟨hS, .inr ⟨so, vo, po, co, fo, a1, a2, a3, a4, a5, P, R, hh, ne, h, zt, zS, zV, zx, zy, zi, zu, zv, zl, zpx, zpy, zip, zvu, zvv, pP, h0, hR, hH, hP, hD, sR, vR⟩⟩)
end
