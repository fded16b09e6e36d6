section
variable {p : Program} {l : Launch} {e : Env} {s : State} {m : MethodId} {below : List Frame} {meth : Method} {c : Code} {b L : Nat} {xs : Nat → Int32} {D : va_G} {cJ cZ : ClassId} {H : Heap} {locs : List Loc} {cells slots : Nat} {Q : State → Prop} {ls : Array Slot} {dk mo i : Nat}
set_option maxHeartbeats 4000000 in
set_option maxRecDepth 100000 in
theorem cs_field (hF : LF p s m c b L xs) (hE : EV D cJ cZ s) (hL : L ≤ 3072) (hi : i + 6 ≤ L) (hl : lv_has ls 4 [(0, .ref b), (1, .ref dk), (2, .ref mo), (3, .int (nI i))]) (hcl : cells + 3 ≤ room_1.cells) (hsl : slots + 10 ≤ room_1.slots) (hI : IV D cJ cZ dk mo s H locs) (nx : ∀ (H : Heap) (locs : List Loc), IV D cJ cZ dk mo s H locs → W p l e room_1 s m #[Value.ref b] below meth c H locs (cells + 3) (slots + 10) Q (F0 m 1067 ls [])) : W p l e room_1 s m #[Value.ref b] below meth c H locs cells slots Q (F0 m 132 ls []) := by
  obtain ⟨C0, hX, hbl⟩ := id hF
  have hx := C0.1
  have hb := C0.2.1
  have hA : ∀ q : Nat, s.heap.size ≤ q → LA s q := fun _ h => h
  obtain ⟨N, hN⟩ : ∃ N : Nat, 100000 ≤ N := ⟨100000, Nat.le_refl _⟩
  have hc0 : cells ≤ room_1.cells := Nat.le_trans (Nat.le_add_right cells 3) hcl
  have hs0 : slots ≤ room_1.slots := Nat.le_trans (Nat.le_add_right slots 10) hsl
  obtain ⟨hS, hM⟩ := hI
  rcases hM with ⟨so, vo, a1, a2, a3, a4, a5, zS, zV, zx, zy, zi, zu, zv, zl, zpx, zpy, zip, zvu, zvv, hP, hD⟩ | ⟨so, vo, po, co, fo, a1, a2, a3, a4, a5, P, R, hh, ne, h, zt, zS, zV, zx, zy, zi, zu, zv, zl, zpx, zpy, zip, zvu, zvv, pP, h0, hR, hH, hP, hD, sR, vR⟩
  · have hP : va_P D vwCl ((wN cJ dk so vo zS zV) ++ (wM cJ cZ mo a1 a2 a3 a4 a5 0 0 0 zx zy zi zu zv zl zpx zpy zip zvu zvv)) H := hP
    have hD : va_D (LA s) ((wN cJ dk so vo zS zV) ++ (wM cJ cZ mo a1 a2 a3 a4 a5 0 0 0 zx zy zi zu zv zl zpx zpy zip zvu zvv)) := hD
    rcases g_fit hN (xs (i + 1)) (xs (i + 2)) with ⟨f1, f2⟩ | ⟨P', R', pP', h', h0', hR', e1, e2, f1, f2⟩
    · refine lv_aload_n hx hb dL_law_132 rfl (lv_at hl 1 rfl) ?_
      refine sc_ld (k := 1) hF hS hl (by omega) hL dL_law_133 dL_law_134 dL_law_135 (by decide) dL_law_136 dL_law_137 ?_
      refine sc_ld (k := 2) hF hS hl (by omega) hL dL_law_138 dL_law_139 dL_law_140 (by decide) dL_law_141 dL_law_142 ?_
      refine kE (wc := [(dk, .inr (3, [.ref so, .ref vo, .null, .null])), (so, .inl (cJ, 16, .inr (.inl zS))), (vo, .inl (cJ, 8, .inr (.inl zV)))]) (wr := (wM cJ cZ mo a1 a2 a3 a4 a5 0 0 0 zx zy zi zu zv zl zpx zpy zip zvu zvv)) [0, 1, 2] [3, 4, 5, 6, 7, 8] hP hD hS hA rfl rfl rfl (by decide) rfl (eV (As := [.int (xs (i + 1)), .int (xs (i + 2))]) (rest := []) C0 (kX3_field_bad l D cJ cZ dk so vo N .null .null zS zV (xs (i + 1)) (xs (i + 2)) H.size f1) gL_law_X3_field rfl ⟨rfl, rfl⟩ hdX3_field ⟨Nat.le_of_ble_eq_true rfl, Nat.le_of_ble_eq_true rfl⟩ 3 0 rfl rfl rfl (hP.sub [0, 1, 2] rfl) (hD.sub [0, 1, 2] rfl rfl) hE hl rfl rfl (Nat.le_of_ble_eq_true rfl) dL_law_143 ⟨hc0, hs0⟩) (fun H locs hP hD hS => ?_)
      have hP : va_P D vwCl ((wN cJ dk so vo zS zV) ++ (wM cJ cZ mo a1 a2 a3 a4 a5 0 0 0 zx zy zi zu zv zl zpx zpy zip zvu zvv)) H := hP.sub [6, 7, 8, 0, 1, 2, 3, 4, 5] rfl
      have hD : va_D (LA s) ((wN cJ dk so vo zS zV) ++ (wM cJ cZ mo a1 a2 a3 a4 a5 0 0 0 zx zy zi zu zv zl zpx zpy zip zvu zvv)) := hD.sub [6, 7, 8, 0, 1, 2, 3, 4, 5] rfl rfl
      refine W.eq (g2 := F0 m 146 ls [.int (-2)]) rfl ?_
      refine lv_aload_n hx hb dL_law_146 rfl (lv_at hl 2 rfl) ?_
      refine sc_ld (k := 1) hF hS hl (by omega) hL dL_law_147 dL_law_148 dL_law_149 (by decide) dL_law_150 dL_law_151 ?_
      refine sc_ld (k := 2) hF hS hl (by omega) hL dL_law_152 dL_law_153 dL_law_154 (by decide) dL_law_155 dL_law_156 ?_
      refine kE (wc := (wM cJ cZ mo a1 a2 a3 a4 a5 0 0 0 zx zy zi zu zv zl zpx zpy zip zvu zvv)) (wr := (wN cJ dk so vo zS zV)) [3, 4, 5, 6, 7, 8] [0, 1, 2] hP hD hS hA rfl rfl rfl (by decide) rfl (eV (As := [.int (xs (i + 1)), .int (xs (i + 2))]) (rest := [.int (-2)]) C0 (kX4_field l D cJ cZ mo a1 a2 a3 a4 a5 N 0 0 0 zx zy zi zu zv zl zpx zpy zip zvu zvv (xs (i + 1)) (xs (i + 2)) H.size (-2) 0 0 0 zip zvu zvv (f2 0 0 0 zip zvu zvv)) gL_law_X4_field rfl ⟨rfl, rfl⟩ hdX4_field ⟨Nat.le_of_ble_eq_true rfl, Nat.le_of_ble_eq_true rfl⟩ 4 0 rfl rfl rfl (hP.sub [3, 4, 5, 6, 7, 8] rfl) (hD.sub [3, 4, 5, 6, 7, 8] rfl rfl) hE hl rfl rfl (Nat.le_of_ble_eq_true rfl) dL_law_157 ⟨hc0, hs0⟩) (fun H locs hP hD hS => ?_)
      refine W.eq (g2 := F0 m 160 ls [.int (-2), .int (-2)]) rfl ?_
      refine lv_icmp_eq (tgt := 1067) hx hb dL_law_160 (by decide) (fun _ => ?_) (fun cx => absurd rfl cx)
      exact W.widen (by omega) (by omega) (nx _ _ ⟨hS, .inl ⟨so, vo, a1, a2, a3, a4, a5, zS, zV, zx, zy, zi, zu, zv, zl, zpx, zpy, zip, zvu, zvv, hP, hD⟩⟩)
    · have dl : (P' + 1) / R' ≤ P' + 1 := Nat.div_le_self _ _
      have ne' : NeZero P' := ⟨by have := h'.1.1; omega⟩
      have gi : fX0_init N (xs (i + 1)).toInt64 (xs (i + 2)).toInt64 = some (lN ((P' + 1) / R'), (ept (tT h' ((P' + 1) / R') 1).1), (nI (tT h' ((P' + 1) / R') 1).2)) := by rw [e1, e2]; exact g_init h' pP' hN h0' hR'
      obtain ⟨oS, oV, oi, ou, ov, k1, k2, k3, k4⟩ := g_newrows h' pP' hN R' ((P' + 1) / R') zS zV zpx zpy zvu zvv zip
      refine lv_aload_n hx hb dL_law_132 rfl (lv_at hl 1 rfl) ?_
      refine sc_ld (k := 1) hF hS hl (by omega) hL dL_law_133 dL_law_134 dL_law_135 (by decide) dL_law_136 dL_law_137 ?_
      refine sc_ld (k := 2) hF hS hl (by omega) hL dL_law_138 dL_law_139 dL_law_140 (by decide) dL_law_141 dL_law_142 ?_
      refine kX (wc := [(dk, .inr (3, [.ref so, .ref vo, .null, .null])), (so, .inl (cJ, 16, .inr (.inl zS))), (vo, .inl (cJ, 8, .inr (.inl zV)))]) (wr := (wM cJ cZ mo a1 a2 a3 a4 a5 0 0 0 zx zy zi zu zv zl zpx zpy zip zvu zvv)) [0, 1, 2] [3, 4, 5, 6, 7, 8] hP hD hS hA rfl rfl rfl (by decide) rfl (eV (As := [.int (xs (i + 1)), .int (xs (i + 2))]) (rest := []) C0 (kX3_field l D cJ cZ dk so vo N .null .null zS zV (xs (i + 1)) (xs (i + 2)) H.size (lN ((P' + 1) / R')) (ept (tT h' ((P' + 1) / R') 1).1) (nI (tT h' ((P' + 1) / R') 1).2) oS oV f1 gi k1) gL_law_X3_field rfl ⟨rfl, rfl⟩ hdX3_field ⟨Nat.le_of_ble_eq_true rfl, Nat.le_of_ble_eq_true rfl⟩ 3 0 rfl rfl rfl (hP.sub [0, 1, 2] rfl) (hD.sub [0, 1, 2] rfl rfl) hE hl rfl rfl (Nat.le_of_ble_eq_true rfl) dL_law_143 ⟨hcl, hsl⟩) (fun u H locs hP hD hS => ?_)
      have hP : va_P D vwCl ((wF cJ dk so vo u.1 u.2.1 u.2.2 (xs (i + 1)).toInt64 (xs (i + 2)).toInt64 (lN ((P' + 1) / R')) (ept (tT h' ((P' + 1) / R') 1).1) (nI (tT h' ((P' + 1) / R') 1).2) oS oV) ++ (wM cJ cZ mo a1 a2 a3 a4 a5 0 0 0 zx zy zi zu zv zl zpx zpy zip zvu zvv)) H := hP.sub [6, 7, 8, 9, 10, 11, 0, 1, 2, 3, 4, 5] rfl
      have hD : va_D (LA s) ((wF cJ dk so vo u.1 u.2.1 u.2.2 (xs (i + 1)).toInt64 (xs (i + 2)).toInt64 (lN ((P' + 1) / R')) (ept (tT h' ((P' + 1) / R') 1).1) (nI (tT h' ((P' + 1) / R') 1).2) oS oV) ++ (wM cJ cZ mo a1 a2 a3 a4 a5 0 0 0 zx zy zi zu zv zl zpx zpy zip zvu zvv)) := hD.sub [6, 7, 8, 9, 10, 11, 0, 1, 2, 3, 4, 5] rfl rfl
      rw [e1, e2] at hP hD
      refine W.eq (g2 := F0 m 146 ls [.int (lN ((P' + 1) / R')).toInt32]) rfl ?_
      refine lv_aload_n hx hb dL_law_146 rfl (lv_at hl 2 rfl) ?_
      refine sc_ld (k := 1) hF hS hl (by omega) hL dL_law_147 dL_law_148 dL_law_149 (by decide) dL_law_150 dL_law_151 ?_
      refine sc_ld (k := 2) hF hS hl (by omega) hL dL_law_152 dL_law_153 dL_law_154 (by decide) dL_law_155 dL_law_156 ?_
      refine kE (wc := (wM cJ cZ mo a1 a2 a3 a4 a5 0 0 0 zx zy zi zu zv zl zpx zpy zip zvu zvv)) (wr := (wF cJ dk so vo u.1 u.2.1 u.2.2 (lN P') (lN R') (lN ((P' + 1) / R')) (ept (tT h' ((P' + 1) / R') 1).1) (nI (tT h' ((P' + 1) / R') 1).2) oS oV)) [6, 7, 8, 9, 10, 11] [0, 1, 2, 3, 4, 5] hP hD hS hA rfl rfl rfl (by decide) rfl (eV (As := [.int (xs (i + 1)), .int (xs (i + 2))]) (rest := [.int (lN ((P' + 1) / R')).toInt32]) C0 (kX4_field l D cJ cZ mo a1 a2 a3 a4 a5 N 0 0 0 zx zy zi zu zv zl zpx zpy zip zvu zvv (xs (i + 1)) (xs (i + 2)) H.size (lN ((P' + 1) / R')).toInt32 (lN P') (lN R') (lN ((P' + 1) / R')) oi ou ov (by rw [f2]; exact k2)) gL_law_X4_field rfl ⟨rfl, rfl⟩ hdX4_field ⟨Nat.le_of_ble_eq_true rfl, Nat.le_of_ble_eq_true rfl⟩ 4 0 rfl rfl rfl (hP.sub [6, 7, 8, 9, 10, 11] rfl) (hD.sub [6, 7, 8, 9, 10, 11] rfl rfl) hE hl rfl rfl (Nat.le_of_ble_eq_true rfl) dL_law_157 ⟨hcl, hsl⟩) (fun H locs hP hD hS => ?_)
      refine W.eq (g2 := F0 m 160 ls [.int (lN ((P' + 1) / R')).toInt32, .int (lN ((P' + 1) / R')).toInt32]) rfl ?_
      refine lv_icmp_eq (tgt := 1067) hx hb dL_law_160 (by decide) (fun _ => ?_) (fun cx => absurd rfl cx)
      exact W.widen (by omega) (by omega) (nx _ _ ⟨hS, .inr ⟨so, vo, u.1, u.2.1, u.2.2, a1, a2, a3, a4, a5, P', R', ((P' + 1) / R'), ne', h', (nI (tT h' ((P' + 1) / R') 1).2), oS, oV, zx, zy, zi, zu, zv, zl, zpx, zpy, oi, ou, ov, pP', h0', hR', by omega, hP, hD, k3, k4⟩⟩)
  · have hP : va_P D vwCl ((wF cJ dk so vo po co fo (lN P) (lN R) (lN hh) (ept (tT h hh 1).1) zt zS zV) ++ (wM cJ cZ mo a1 a2 a3 a4 a5 (lN P) (lN R) (lN hh) zx zy zi zu zv zl zpx zpy zip zvu zvv)) H := hP
    have hD : va_D (LA s) ((wF cJ dk so vo po co fo (lN P) (lN R) (lN hh) (ept (tT h hh 1).1) zt zS zV) ++ (wM cJ cZ mo a1 a2 a3 a4 a5 (lN P) (lN R) (lN hh) zx zy zi zu zv zl zpx zpy zip zvu zvv)) := hD
    rcases g_fit hN (xs (i + 1)) (xs (i + 2)) with ⟨f1, f2⟩ | ⟨P', R', pP', h', h0', hR', e1, e2, f1, f2⟩
    · refine lv_aload_n hx hb dL_law_132 rfl (lv_at hl 1 rfl) ?_
      refine sc_ld (k := 1) hF hS hl (by omega) hL dL_law_133 dL_law_134 dL_law_135 (by decide) dL_law_136 dL_law_137 ?_
      refine sc_ld (k := 2) hF hS hl (by omega) hL dL_law_138 dL_law_139 dL_law_140 (by decide) dL_law_141 dL_law_142 ?_
      refine kE (wc := [(dk, .inr (3, [.ref so, .ref vo, .ref co, .ref po])), (so, .inl (cJ, 16, .inr (.inl zS))), (vo, .inl (cJ, 8, .inr (.inl zV)))]) (wr := ([(po, .inr (1, [.ref co, .long (lN P), .long (lN R)])), (co, .inr (0, [.ref fo, .long (lN P), .long (lN R), .long (lN hh), .long (ept (tT h hh 1).1), .int zt])), (fo, .inr (2, [.long (lN P)]))] ++ (wM cJ cZ mo a1 a2 a3 a4 a5 (lN P) (lN R) (lN hh) zx zy zi zu zv zl zpx zpy zip zvu zvv))) [0, 1, 2] [3, 4, 5, 6, 7, 8, 9, 10, 11] hP hD hS hA rfl rfl rfl (by decide) rfl (eV (As := [.int (xs (i + 1)), .int (xs (i + 2))]) (rest := []) C0 (kX3_field_bad l D cJ cZ dk so vo N (.ref co) (.ref po) zS zV (xs (i + 1)) (xs (i + 2)) H.size f1) gL_law_X3_field rfl ⟨rfl, rfl⟩ hdX3_field ⟨Nat.le_of_ble_eq_true rfl, Nat.le_of_ble_eq_true rfl⟩ 3 0 rfl rfl rfl (hP.sub [0, 1, 2] rfl) (hD.sub [0, 1, 2] rfl rfl) hE hl rfl rfl (Nat.le_of_ble_eq_true rfl) dL_law_143 ⟨hc0, hs0⟩) (fun H locs hP hD hS => ?_)
      have hP : va_P D vwCl ((wF cJ dk so vo po co fo (lN P) (lN R) (lN hh) (ept (tT h hh 1).1) zt zS zV) ++ (wM cJ cZ mo a1 a2 a3 a4 a5 (lN P) (lN R) (lN hh) zx zy zi zu zv zl zpx zpy zip zvu zvv)) H := hP.sub [9, 10, 11, 0, 1, 2, 3, 4, 5, 6, 7, 8] rfl
      have hD : va_D (LA s) ((wF cJ dk so vo po co fo (lN P) (lN R) (lN hh) (ept (tT h hh 1).1) zt zS zV) ++ (wM cJ cZ mo a1 a2 a3 a4 a5 (lN P) (lN R) (lN hh) zx zy zi zu zv zl zpx zpy zip zvu zvv)) := hD.sub [9, 10, 11, 0, 1, 2, 3, 4, 5, 6, 7, 8] rfl rfl
      refine W.eq (g2 := F0 m 146 ls [.int (-2)]) rfl ?_
      refine lv_aload_n hx hb dL_law_146 rfl (lv_at hl 2 rfl) ?_
      refine sc_ld (k := 1) hF hS hl (by omega) hL dL_law_147 dL_law_148 dL_law_149 (by decide) dL_law_150 dL_law_151 ?_
      refine sc_ld (k := 2) hF hS hl (by omega) hL dL_law_152 dL_law_153 dL_law_154 (by decide) dL_law_155 dL_law_156 ?_
      refine kE (wc := (wM cJ cZ mo a1 a2 a3 a4 a5 (lN P) (lN R) (lN hh) zx zy zi zu zv zl zpx zpy zip zvu zvv)) (wr := (wF cJ dk so vo po co fo (lN P) (lN R) (lN hh) (ept (tT h hh 1).1) zt zS zV)) [6, 7, 8, 9, 10, 11] [0, 1, 2, 3, 4, 5] hP hD hS hA rfl rfl rfl (by decide) rfl (eV (As := [.int (xs (i + 1)), .int (xs (i + 2))]) (rest := [.int (-2)]) C0 (kX4_field l D cJ cZ mo a1 a2 a3 a4 a5 N (lN P) (lN R) (lN hh) zx zy zi zu zv zl zpx zpy zip zvu zvv (xs (i + 1)) (xs (i + 2)) H.size (-2) (lN P) (lN R) (lN hh) zip zvu zvv (f2 (lN P) (lN R) (lN hh) zip zvu zvv)) gL_law_X4_field rfl ⟨rfl, rfl⟩ hdX4_field ⟨Nat.le_of_ble_eq_true rfl, Nat.le_of_ble_eq_true rfl⟩ 4 0 rfl rfl rfl (hP.sub [6, 7, 8, 9, 10, 11] rfl) (hD.sub [6, 7, 8, 9, 10, 11] rfl rfl) hE hl rfl rfl (Nat.le_of_ble_eq_true rfl) dL_law_157 ⟨hc0, hs0⟩) (fun H locs hP hD hS => ?_)
      refine W.eq (g2 := F0 m 160 ls [.int (-2), .int (-2)]) rfl ?_
      refine lv_icmp_eq (tgt := 1067) hx hb dL_law_160 (by decide) (fun _ => ?_) (fun cx => absurd rfl cx)
      exact W.widen (by omega) (by omega) (nx _ _ ⟨hS, .inr ⟨so, vo, po, co, fo, a1, a2, a3, a4, a5, P, R, hh, ne, h, zt, zS, zV, zx, zy, zi, zu, zv, zl, zpx, zpy, zip, zvu, zvv, pP, h0, hR, hH, hP, hD, sR, vR⟩⟩)
    · have dl : (P' + 1) / R' ≤ P' + 1 := Nat.div_le_self _ _
      have ne' : NeZero P' := ⟨by have := h'.1.1; omega⟩
      have gi : fX0_init N (xs (i + 1)).toInt64 (xs (i + 2)).toInt64 = some (lN ((P' + 1) / R'), (ept (tT h' ((P' + 1) / R') 1).1), (nI (tT h' ((P' + 1) / R') 1).2)) := by rw [e1, e2]; exact g_init h' pP' hN h0' hR'
      obtain ⟨oS, oV, oi, ou, ov, k1, k2, k3, k4⟩ := g_newrows h' pP' hN R' ((P' + 1) / R') zS zV zpx zpy zvu zvv zip
      refine lv_aload_n hx hb dL_law_132 rfl (lv_at hl 1 rfl) ?_
      refine sc_ld (k := 1) hF hS hl (by omega) hL dL_law_133 dL_law_134 dL_law_135 (by decide) dL_law_136 dL_law_137 ?_
      refine sc_ld (k := 2) hF hS hl (by omega) hL dL_law_138 dL_law_139 dL_law_140 (by decide) dL_law_141 dL_law_142 ?_
      refine kX (wc := [(dk, .inr (3, [.ref so, .ref vo, .ref co, .ref po])), (so, .inl (cJ, 16, .inr (.inl zS))), (vo, .inl (cJ, 8, .inr (.inl zV)))]) (wr := (wM cJ cZ mo a1 a2 a3 a4 a5 (lN P) (lN R) (lN hh) zx zy zi zu zv zl zpx zpy zip zvu zvv)) [0, 1, 2] [6, 7, 8, 9, 10, 11] hP hD hS hA rfl rfl rfl (by decide) rfl (eV (As := [.int (xs (i + 1)), .int (xs (i + 2))]) (rest := []) C0 (kX3_field l D cJ cZ dk so vo N (.ref co) (.ref po) zS zV (xs (i + 1)) (xs (i + 2)) H.size (lN ((P' + 1) / R')) (ept (tT h' ((P' + 1) / R') 1).1) (nI (tT h' ((P' + 1) / R') 1).2) oS oV f1 gi k1) gL_law_X3_field rfl ⟨rfl, rfl⟩ hdX3_field ⟨Nat.le_of_ble_eq_true rfl, Nat.le_of_ble_eq_true rfl⟩ 3 0 rfl rfl rfl (hP.sub [0, 1, 2] rfl) (hD.sub [0, 1, 2] rfl rfl) hE hl rfl rfl (Nat.le_of_ble_eq_true rfl) dL_law_143 ⟨hcl, hsl⟩) (fun u H locs hP hD hS => ?_)
      have hP : va_P D vwCl ((wF cJ dk so vo u.1 u.2.1 u.2.2 (xs (i + 1)).toInt64 (xs (i + 2)).toInt64 (lN ((P' + 1) / R')) (ept (tT h' ((P' + 1) / R') 1).1) (nI (tT h' ((P' + 1) / R') 1).2) oS oV) ++ (wM cJ cZ mo a1 a2 a3 a4 a5 (lN P) (lN R) (lN hh) zx zy zi zu zv zl zpx zpy zip zvu zvv)) H := hP.sub [6, 7, 8, 9, 10, 11, 0, 1, 2, 3, 4, 5] rfl
      have hD : va_D (LA s) ((wF cJ dk so vo u.1 u.2.1 u.2.2 (xs (i + 1)).toInt64 (xs (i + 2)).toInt64 (lN ((P' + 1) / R')) (ept (tT h' ((P' + 1) / R') 1).1) (nI (tT h' ((P' + 1) / R') 1).2) oS oV) ++ (wM cJ cZ mo a1 a2 a3 a4 a5 (lN P) (lN R) (lN hh) zx zy zi zu zv zl zpx zpy zip zvu zvv)) := hD.sub [6, 7, 8, 9, 10, 11, 0, 1, 2, 3, 4, 5] rfl rfl
      rw [e1, e2] at hP hD
      refine W.eq (g2 := F0 m 146 ls [.int (lN ((P' + 1) / R')).toInt32]) rfl ?_
      refine lv_aload_n hx hb dL_law_146 rfl (lv_at hl 2 rfl) ?_
      refine sc_ld (k := 1) hF hS hl (by omega) hL dL_law_147 dL_law_148 dL_law_149 (by decide) dL_law_150 dL_law_151 ?_
      refine sc_ld (k := 2) hF hS hl (by omega) hL dL_law_152 dL_law_153 dL_law_154 (by decide) dL_law_155 dL_law_156 ?_
      refine kE (wc := (wM cJ cZ mo a1 a2 a3 a4 a5 (lN P) (lN R) (lN hh) zx zy zi zu zv zl zpx zpy zip zvu zvv)) (wr := (wF cJ dk so vo u.1 u.2.1 u.2.2 (lN P') (lN R') (lN ((P' + 1) / R')) (ept (tT h' ((P' + 1) / R') 1).1) (nI (tT h' ((P' + 1) / R') 1).2) oS oV)) [6, 7, 8, 9, 10, 11] [0, 1, 2, 3, 4, 5] hP hD hS hA rfl rfl rfl (by decide) rfl (eV (As := [.int (xs (i + 1)), .int (xs (i + 2))]) (rest := [.int (lN ((P' + 1) / R')).toInt32]) C0 (kX4_field l D cJ cZ mo a1 a2 a3 a4 a5 N (lN P) (lN R) (lN hh) zx zy zi zu zv zl zpx zpy zip zvu zvv (xs (i + 1)) (xs (i + 2)) H.size (lN ((P' + 1) / R')).toInt32 (lN P') (lN R') (lN ((P' + 1) / R')) oi ou ov (by rw [f2]; exact k2)) gL_law_X4_field rfl ⟨rfl, rfl⟩ hdX4_field ⟨Nat.le_of_ble_eq_true rfl, Nat.le_of_ble_eq_true rfl⟩ 4 0 rfl rfl rfl (hP.sub [6, 7, 8, 9, 10, 11] rfl) (hD.sub [6, 7, 8, 9, 10, 11] rfl rfl) hE hl rfl rfl (Nat.le_of_ble_eq_true rfl) dL_law_157 ⟨hcl, hsl⟩) (fun H locs hP hD hS => ?_)
      refine W.eq (g2 := F0 m 160 ls [.int (lN ((P' + 1) / R')).toInt32, .int (lN ((P' + 1) / R')).toInt32]) rfl ?_
      refine lv_icmp_eq (tgt := 1067) hx hb dL_law_160 (by decide) (fun _ => ?_) (fun cx => absurd rfl cx)
      exact W.widen (by omega) (by omega) (nx _ _ ⟨hS, .inr ⟨so, vo, u.1, u.2.1, u.2.2, a1, a2, a3, a4, a5, P', R', ((P' + 1) / R'), ne', h', (nI (tT h' ((P' + 1) / R') 1).2), oS, oV, zx, zy, zi, zu, zv, zl, zpx, zpy, oi, ou, ov, pP', h0', hR', by omega, hP, hD, k3, k4⟩⟩)
end
