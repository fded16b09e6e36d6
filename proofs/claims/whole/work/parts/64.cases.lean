section
variable {p : Program} {l : Launch} {e : Env} {s : State} {m : MethodId} {below : List Frame} {meth : Method} {c : Code} {b L : Nat} {xs : Nat → Int32} {D : va_G} {cJ cZ : ClassId} {H : Heap} {locs : List Loc} {cells slots : Nat} {Q : State → Prop} {ls : Array Slot} {dk mo i : Nat}
set_option maxHeartbeats 4000000 in
set_option maxRecDepth 100000 in
theorem cs_told (hF : LF p s m c b L xs) (hE : EV D cJ cZ s) (hL : L ≤ 3072) (hi : i + 6 ≤ L) (hl : lv_has ls 4 [(0, .ref b), (1, .ref dk), (2, .ref mo), (3, .int (nI i))]) (hcl : cells + 3 ≤ room_1.cells) (hsl : slots + 10 ≤ room_1.slots) (hI : IV D cJ cZ dk mo s H locs) (nx : ∀ (H : Heap) (locs : List Loc), IV D cJ cZ dk mo s H locs → W p l e room_1 s m #[Value.ref b] below meth c H locs (cells + 3) (slots + 10) Q (F0 m 1067 ls [])) : W p l e room_1 s m #[Value.ref b] below meth c H locs cells slots Q (F0 m 165 ls []) := by
  obtain ⟨C0, hX, hbl⟩ := id hF
  have hx := C0.1
  have hb := C0.2.1
  have hA : ∀ q : Nat, s.heap.size ≤ q → LA s q := fun _ h => h
  obtain ⟨N, hN⟩ : ∃ N : Nat, 100000 ≤ N := ⟨100000, Nat.le_refl _⟩
  have hc0 : cells ≤ room_1.cells := Nat.le_trans (Nat.le_add_right cells 3) hcl
  have hs0 : slots ≤ room_1.slots := Nat.le_trans (Nat.le_add_right slots 10) hsl
  obtain ⟨hS, hM⟩ := hI
  rcases hM with ⟨so, vo, a1, a2, a3, a4, a5, zS, zV, zx, zy, zi, zu, zv, zl, zpx, zpy, zip, zvu, zvv, hP, hD⟩ | ⟨so, vo, po, co, fo, a1, a2, a3, a4, a5, P, R, hh, ne, h, zt, zS, zV, zx, zy, zi, zu, zv, zl, zpx, zpy, zip, zvu, zvv, pP, h0, hR, hH, hP, hD, sR, vR⟩
  · obtain ⟨r, k1, k2⟩ := g_told0 (xs (i + 1))
    have hP : va_P D vwCl ((wN cJ dk so vo zS zV) ++ (wM cJ cZ mo a1 a2 a3 a4 a5 0 0 0 zx zy zi zu zv zl zpx zpy zip zvu zvv)) H := hP
    have hD : va_D (LA s) ((wN cJ dk so vo zS zV) ++ (wM cJ cZ mo a1 a2 a3 a4 a5 0 0 0 zx zy zi zu zv zl zpx zpy zip zvu zvv)) := hD
    refine lv_aload_n hx hb dL_law_165 rfl (lv_at hl 1 rfl) ?_
    refine sc_ld (k := 1) hF hS hl (by omega) hL dL_law_166 dL_law_167 dL_law_168 (by decide) dL_law_169 dL_law_170 ?_
    refine ki (kV (As := [.int (xs (i + 1))]) (rest := []) C0 (kX3_told_null l D cJ cZ dk so vo zS zV (xs (i + 1)) r k1) gL_law_X3_told rfl ⟨rfl, rfl⟩ hdX3_told ⟨Nat.le_of_ble_eq_true rfl, Nat.le_of_ble_eq_true rfl⟩ 3 0 rfl rfl rfl (hP.sub [0, 1, 2] rfl) hE hl rfl rfl (Nat.le_of_ble_eq_true rfl) dL_law_171 hc0 hs0) ?_
    refine lv_aload_n hx hb dL_law_174 rfl (lv_at hl 2 rfl) ?_
    refine sc_ld (k := 1) hF hS hl (by omega) hL dL_law_175 dL_law_176 dL_law_177 (by decide) dL_law_178 dL_law_179 ?_
    refine ki (kV (As := [.int (xs (i + 1))]) (rest := [.int r]) C0 (kX4_told l D cJ cZ mo a1 a2 a3 a4 a5 0 0 0 zx zy zi zu zv zl zpx zpy zip zvu zvv (xs (i + 1)) r k2) gL_law_X4_told rfl ⟨rfl, rfl⟩ hdX4_told ⟨Nat.le_of_ble_eq_true rfl, Nat.le_of_ble_eq_true rfl⟩ 4 0 rfl rfl rfl (hP.sub [3, 4, 5, 6, 7, 8] rfl) hE hl rfl rfl (Nat.le_of_ble_eq_true rfl) dL_law_180 hc0 hs0) ?_
    refine lv_icmp_eq (tgt := 1067) hx hb dL_law_183 (by decide) (fun _ => ?_) (fun cx => absurd rfl cx)
    exact W.widen (by omega) (by omega) (nx _ _ ⟨hS, .inl ⟨so, vo, a1, a2, a3, a4, a5, zS, zV, zx, zy, zi, zu, zv, zl, zpx, zpy, zip, zvu, zvv, hP, hD⟩⟩)
  · obtain ⟨r, k1, k2⟩ := g_told (R := R) (H := hh) pP (xs (i + 1))
    have hP : va_P D vwCl ((wF cJ dk so vo po co fo (lN P) (lN R) (lN hh) (ept (tT h hh 1).1) zt zS zV) ++ (wM cJ cZ mo a1 a2 a3 a4 a5 (lN P) (lN R) (lN hh) zx zy zi zu zv zl zpx zpy zip zvu zvv)) H := hP
    have hD : va_D (LA s) ((wF cJ dk so vo po co fo (lN P) (lN R) (lN hh) (ept (tT h hh 1).1) zt zS zV) ++ (wM cJ cZ mo a1 a2 a3 a4 a5 (lN P) (lN R) (lN hh) zx zy zi zu zv zl zpx zpy zip zvu zvv)) := hD
    refine lv_aload_n hx hb dL_law_165 rfl (lv_at hl 1 rfl) ?_
    refine sc_ld (k := 1) hF hS hl (by omega) hL dL_law_166 dL_law_167 dL_law_168 (by decide) dL_law_169 dL_law_170 ?_
    refine ki (kV (As := [.int (xs (i + 1))]) (rest := []) C0 (kX3_told l D cJ cZ dk so vo po co fo (lN P) (lN R) (lN hh) (ept (tT h hh 1).1) zt zS zV (xs (i + 1)) r k1) gL_law_X3_told rfl ⟨rfl, rfl⟩ hdX3_told ⟨Nat.le_of_ble_eq_true rfl, Nat.le_of_ble_eq_true rfl⟩ 3 0 rfl rfl rfl (hP.sub [0, 1, 2, 3, 4, 5] rfl) hE hl rfl rfl (Nat.le_of_ble_eq_true rfl) dL_law_171 hc0 hs0) ?_
    refine lv_aload_n hx hb dL_law_174 rfl (lv_at hl 2 rfl) ?_
    refine sc_ld (k := 1) hF hS hl (by omega) hL dL_law_175 dL_law_176 dL_law_177 (by decide) dL_law_178 dL_law_179 ?_
    refine ki (kV (As := [.int (xs (i + 1))]) (rest := [.int r]) C0 (kX4_told l D cJ cZ mo a1 a2 a3 a4 a5 (lN P) (lN R) (lN hh) zx zy zi zu zv zl zpx zpy zip zvu zvv (xs (i + 1)) r k2) gL_law_X4_told rfl ⟨rfl, rfl⟩ hdX4_told ⟨Nat.le_of_ble_eq_true rfl, Nat.le_of_ble_eq_true rfl⟩ 4 0 rfl rfl rfl (hP.sub [6, 7, 8, 9, 10, 11] rfl) hE hl rfl rfl (Nat.le_of_ble_eq_true rfl) dL_law_180 hc0 hs0) ?_
    refine lv_icmp_eq (tgt := 1067) hx hb dL_law_183 (by decide) (fun _ => ?_) (fun cx => absurd rfl cx)
    exact W.widen (by omega) (by omega) (nx _ _ ⟨hS, .inr ⟨so, vo, po, co, fo, a1, a2, a3, a4, a5, P, R, hh, ne, h, zt, zS, zV, zx, zy, zi, zu, zv, zl, zpx, zpy, zip, zvu, zvv, pP, h0, hR, hH, hP, hD, sR, vR⟩⟩)
set_option maxHeartbeats 4000000 in
set_option maxRecDepth 100000 in
theorem cs_root (hF : LF p s m c b L xs) (hE : EV D cJ cZ s) (hL : L ≤ 3072) (hi : i + 6 ≤ L) (hl : lv_has ls 4 [(0, .ref b), (1, .ref dk), (2, .ref mo), (3, .int (nI i))]) (hcl : cells + 3 ≤ room_1.cells) (hsl : slots + 10 ≤ room_1.slots) (hI : IV D cJ cZ dk mo s H locs) (nx : ∀ (H : Heap) (locs : List Loc), IV D cJ cZ dk mo s H locs → W p l e room_1 s m #[Value.ref b] below meth c H locs (cells + 3) (slots + 10) Q (F0 m 1067 ls [])) : W p l e room_1 s m #[Value.ref b] below meth c H locs cells slots Q (F0 m 188 ls []) := by
  obtain ⟨C0, hX, hbl⟩ := id hF
  have hx := C0.1
  have hb := C0.2.1
  have hA : ∀ q : Nat, s.heap.size ≤ q → LA s q := fun _ h => h
  obtain ⟨N, hN⟩ : ∃ N : Nat, 100000 ≤ N := ⟨100000, Nat.le_refl _⟩
  have hc0 : cells ≤ room_1.cells := Nat.le_trans (Nat.le_add_right cells 3) hcl
  have hs0 : slots ≤ room_1.slots := Nat.le_trans (Nat.le_add_right slots 10) hsl
  obtain ⟨hS, hM⟩ := hI
  rcases hM with ⟨so, vo, a1, a2, a3, a4, a5, zS, zV, zx, zy, zi, zu, zv, zl, zpx, zpy, zip, zvu, zvv, hP, hD⟩ | ⟨so, vo, po, co, fo, a1, a2, a3, a4, a5, P, R, hh, ne, h, zt, zS, zV, zx, zy, zi, zu, zv, zl, zpx, zpy, zip, zvu, zvv, pP, h0, hR, hH, hP, hD, sR, vR⟩
  · have hP : va_P D vwCl ((wN cJ dk so vo zS zV) ++ (wM cJ cZ mo a1 a2 a3 a4 a5 0 0 0 zx zy zi zu zv zl zpx zpy zip zvu zvv)) H := hP
    have hD : va_D (LA s) ((wN cJ dk so vo zS zV) ++ (wM cJ cZ mo a1 a2 a3 a4 a5 0 0 0 zx zy zi zu zv zl zpx zpy zip zvu zvv)) := hD
    refine lv_aload_n hx hb dL_law_188 rfl (lv_at hl 1 rfl) ?_
    refine sc_ld (k := 1) hF hS hl (by omega) hL dL_law_189 dL_law_190 dL_law_191 (by decide) dL_law_192 dL_law_193 ?_
    refine ki (kV (As := [.int (xs (i + 1))]) (rest := []) C0 (kX3_root_null l D cJ cZ dk so vo zS zV (xs (i + 1)) (-3) rfl) gL_law_X3_root rfl ⟨rfl, rfl⟩ hdX3_root ⟨Nat.le_of_ble_eq_true rfl, Nat.le_of_ble_eq_true rfl⟩ 3 0 rfl rfl rfl (hP.sub [0, 1, 2] rfl) hE hl rfl rfl (Nat.le_of_ble_eq_true rfl) dL_law_194 hc0 hs0) ?_
    refine lv_aload_n hx hb dL_law_197 rfl (lv_at hl 2 rfl) ?_
    refine sc_ld (k := 1) hF hS hl (by omega) hL dL_law_198 dL_law_199 dL_law_200 (by decide) dL_law_201 dL_law_202 ?_
    refine ki (kV (As := [.int (xs (i + 1))]) (rest := [.int (-3)]) C0 (kX4_root l D cJ cZ mo a1 a2 a3 a4 a5 N 0 0 0 zx zy zi zu zv zl zpx zpy zip zvu zvv (xs (i + 1)) (-3) (by unfold fX4_root; exact if_pos rfl)) gL_law_X4_root rfl ⟨rfl, rfl⟩ hdX4_root ⟨Nat.le_of_ble_eq_true rfl, Nat.le_of_ble_eq_true rfl⟩ 4 0 rfl rfl rfl (hP.sub [3, 4, 5, 6, 7, 8] rfl) hE hl rfl rfl (Nat.le_of_ble_eq_true rfl) dL_law_203 hc0 hs0) ?_
    refine lv_icmp_eq (tgt := 1067) hx hb dL_law_206 (by decide) (fun _ => ?_) (fun cx => absurd rfl cx)
    exact W.widen (by omega) (by omega) (nx _ _ ⟨hS, .inl ⟨so, vo, a1, a2, a3, a4, a5, zS, zV, zx, zy, zi, zu, zv, zl, zpx, zpy, zip, zvu, zvv, hP, hD⟩⟩)
  · obtain ⟨r, k1, k2⟩ := g_root h pP hN (xs (i + 1))
    have hP : va_P D vwCl ((wF cJ dk so vo po co fo (lN P) (lN R) (lN hh) (ept (tT h hh 1).1) zt zS zV) ++ (wM cJ cZ mo a1 a2 a3 a4 a5 (lN P) (lN R) (lN hh) zx zy zi zu zv zl zpx zpy zip zvu zvv)) H := hP
    have hD : va_D (LA s) ((wF cJ dk so vo po co fo (lN P) (lN R) (lN hh) (ept (tT h hh 1).1) zt zS zV) ++ (wM cJ cZ mo a1 a2 a3 a4 a5 (lN P) (lN R) (lN hh) zx zy zi zu zv zl zpx zpy zip zvu zvv)) := hD
    refine lv_aload_n hx hb dL_law_188 rfl (lv_at hl 1 rfl) ?_
    refine sc_ld (k := 1) hF hS hl (by omega) hL dL_law_189 dL_law_190 dL_law_191 (by decide) dL_law_192 dL_law_193 ?_
    refine ki (kV (As := [.int (xs (i + 1))]) (rest := []) C0 (kX3_root l D cJ cZ dk so vo po co fo N (lN P) (lN R) (lN hh) (ept (tT h hh 1).1) zt zS zV (xs (i + 1)) r k1) gL_law_X3_root rfl ⟨rfl, rfl⟩ hdX3_root ⟨Nat.le_of_ble_eq_true rfl, Nat.le_of_ble_eq_true rfl⟩ 3 0 rfl rfl rfl (hP.sub [0, 1, 2, 3, 4, 5] rfl) hE hl rfl rfl (Nat.le_of_ble_eq_true rfl) dL_law_194 hc0 hs0) ?_
    refine lv_aload_n hx hb dL_law_197 rfl (lv_at hl 2 rfl) ?_
    refine sc_ld (k := 1) hF hS hl (by omega) hL dL_law_198 dL_law_199 dL_law_200 (by decide) dL_law_201 dL_law_202 ?_
    refine ki (kV (As := [.int (xs (i + 1))]) (rest := [.int r]) C0 (kX4_root l D cJ cZ mo a1 a2 a3 a4 a5 N (lN P) (lN R) (lN hh) zx zy zi zu zv zl zpx zpy zip zvu zvv (xs (i + 1)) r k2) gL_law_X4_root rfl ⟨rfl, rfl⟩ hdX4_root ⟨Nat.le_of_ble_eq_true rfl, Nat.le_of_ble_eq_true rfl⟩ 4 0 rfl rfl rfl (hP.sub [6, 7, 8, 9, 10, 11] rfl) hE hl rfl rfl (Nat.le_of_ble_eq_true rfl) dL_law_203 hc0 hs0) ?_
    refine lv_icmp_eq (tgt := 1067) hx hb dL_law_206 (by decide) (fun _ => ?_) (fun cx => absurd rfl cx)
    exact W.widen (by omega) (by omega) (nx _ _ ⟨hS, .inr ⟨so, vo, po, co, fo, a1, a2, a3, a4, a5, P, R, hh, ne, h, zt, zS, zV, zx, zy, zi, zu, zv, zl, zpx, zpy, zip, zvu, zvv, pP, h0, hR, hH, hP, hD, sR, vR⟩⟩)
set_option maxHeartbeats 4000000 in
set_option maxRecDepth 100000 in
theorem cs_point (hF : LF p s m c b L xs) (hE : EV D cJ cZ s) (hL : L ≤ 3072) (hi : i + 6 ≤ L) (hl : lv_has ls 4 [(0, .ref b), (1, .ref dk), (2, .ref mo), (3, .int (nI i))]) (hcl : cells + 3 ≤ room_1.cells) (hsl : slots + 10 ≤ room_1.slots) (hI : IV D cJ cZ dk mo s H locs) (nx : ∀ (H : Heap) (locs : List Loc), IV D cJ cZ dk mo s H locs → W p l e room_1 s m #[Value.ref b] below meth c H locs (cells + 3) (slots + 10) Q (F0 m 1067 ls [])) : W p l e room_1 s m #[Value.ref b] below meth c H locs cells slots Q (F0 m 211 ls []) := by
  obtain ⟨C0, hX, hbl⟩ := id hF
  have hx := C0.1
  have hb := C0.2.1
  have hA : ∀ q : Nat, s.heap.size ≤ q → LA s q := fun _ h => h
  obtain ⟨N, hN⟩ : ∃ N : Nat, 100000 ≤ N := ⟨100000, Nat.le_refl _⟩
  have hc0 : cells ≤ room_1.cells := Nat.le_trans (Nat.le_add_right cells 3) hcl
  have hs0 : slots ≤ room_1.slots := Nat.le_trans (Nat.le_add_right slots 10) hsl
  obtain ⟨hS, hM⟩ := hI
  rcases hM with ⟨so, vo, a1, a2, a3, a4, a5, zS, zV, zx, zy, zi, zu, zv, zl, zpx, zpy, zip, zvu, zvv, hP, hD⟩ | ⟨so, vo, po, co, fo, a1, a2, a3, a4, a5, P, R, hh, ne, h, zt, zS, zV, zx, zy, zi, zu, zv, zl, zpx, zpy, zip, zvu, zvv, pP, h0, hR, hH, hP, hD, sR, vR⟩
  · have hP : va_P D vwCl ((wN cJ dk so vo zS zV) ++ (wM cJ cZ mo a1 a2 a3 a4 a5 0 0 0 zx zy zi zu zv zl zpx zpy zip zvu zvv)) H := hP
    have hD : va_D (LA s) ((wN cJ dk so vo zS zV) ++ (wM cJ cZ mo a1 a2 a3 a4 a5 0 0 0 zx zy zi zu zv zl zpx zpy zip zvu zvv)) := hD
    refine lv_aload_n hx hb dL_law_211 rfl (lv_at hl 1 rfl) ?_
    refine sc_ld (k := 1) hF hS hl (by omega) hL dL_law_212 dL_law_213 dL_law_214 (by decide) dL_law_215 dL_law_216 ?_
    refine sc_ld (k := 2) hF hS hl (by omega) hL dL_law_217 dL_law_218 dL_law_219 (by decide) dL_law_220 dL_law_221 ?_
    refine sc_ld (k := 3) hF hS hl (by omega) hL dL_law_222 dL_law_223 dL_law_224 (by decide) dL_law_225 dL_law_226 ?_
    refine ki (kV (As := [.int (xs (i + 1)), .int (xs (i + 2)), .int (xs (i + 3))]) (rest := []) C0 (kX3_point_null l D cJ cZ dk so vo zS zV (xs (i + 1)) (xs (i + 2)) (xs (i + 3)) (-3) rfl) gL_law_X3_point rfl ⟨rfl, rfl⟩ hdX3_point ⟨Nat.le_of_ble_eq_true rfl, Nat.le_of_ble_eq_true rfl⟩ 3 0 rfl rfl rfl (hP.sub [0, 1, 2] rfl) hE hl rfl rfl (Nat.le_of_ble_eq_true rfl) dL_law_227 hc0 hs0) ?_
    refine lv_aload_n hx hb dL_law_230 rfl (lv_at hl 2 rfl) ?_
    refine sc_ld (k := 1) hF hS hl (by omega) hL dL_law_231 dL_law_232 dL_law_233 (by decide) dL_law_234 dL_law_235 ?_
    refine sc_ld (k := 2) hF hS hl (by omega) hL dL_law_236 dL_law_237 dL_law_238 (by decide) dL_law_239 dL_law_240 ?_
    refine sc_ld (k := 3) hF hS hl (by omega) hL dL_law_241 dL_law_242 dL_law_243 (by decide) dL_law_244 dL_law_245 ?_
    refine kE (wc := (wM cJ cZ mo a1 a2 a3 a4 a5 0 0 0 zx zy zi zu zv zl zpx zpy zip zvu zvv)) (wr := (wN cJ dk so vo zS zV)) [3, 4, 5, 6, 7, 8] [0, 1, 2] hP hD hS hA rfl rfl rfl (by decide) rfl (eV (As := [.int (xs (i + 1)), .int (xs (i + 2)), .int (xs (i + 3))]) (rest := [.int (-3)]) C0 (kX4_point l D cJ cZ mo a1 a2 a3 a4 a5 0 0 0 zx zy zi zu zv zl zpx zpy zip zvu zvv (xs (i + 1)) (xs (i + 2)) (xs (i + 3)) H.size (-3) zx zy zi zpx zpy zip (by unfold fX4_point; exact if_pos rfl)) gL_law_X4_point rfl ⟨rfl, rfl⟩ hdX4_point ⟨Nat.le_of_ble_eq_true rfl, Nat.le_of_ble_eq_true rfl⟩ 4 0 rfl rfl rfl (hP.sub [3, 4, 5, 6, 7, 8] rfl) (hD.sub [3, 4, 5, 6, 7, 8] rfl rfl) hE hl rfl rfl (Nat.le_of_ble_eq_true rfl) dL_law_246 ⟨hc0, hs0⟩) (fun H locs hP hD hS => ?_)
    refine W.eq (g2 := F0 m 249 ls [.int (-3), .int (-3)]) rfl ?_
    refine lv_icmp_eq (tgt := 1067) hx hb dL_law_249 (by decide) (fun _ => ?_) (fun cx => absurd rfl cx)
    exact W.widen (by omega) (by omega) (nx _ _ ⟨hS, .inl ⟨so, vo, a1, a2, a3, a4, a5, zS, zV, zx, zy, zi, zu, zv, zl, zpx, zpy, zip, zvu, zvv, hP, hD⟩⟩)
  · obtain ⟨r, czS, mzx, mzy, mzi, mzpx, mzpy, mzip, k1, k2, k3⟩ := g_point pP sR zx zy zi (xs (i + 1)) (xs (i + 2)) (xs (i + 3))
    have hP : va_P D vwCl ((wF cJ dk so vo po co fo (lN P) (lN R) (lN hh) (ept (tT h hh 1).1) zt zS zV) ++ (wM cJ cZ mo a1 a2 a3 a4 a5 (lN P) (lN R) (lN hh) zx zy zi zu zv zl zpx zpy zip zvu zvv)) H := hP
    have hD : va_D (LA s) ((wF cJ dk so vo po co fo (lN P) (lN R) (lN hh) (ept (tT h hh 1).1) zt zS zV) ++ (wM cJ cZ mo a1 a2 a3 a4 a5 (lN P) (lN R) (lN hh) zx zy zi zu zv zl zpx zpy zip zvu zvv)) := hD
    refine lv_aload_n hx hb dL_law_211 rfl (lv_at hl 1 rfl) ?_
    refine sc_ld (k := 1) hF hS hl (by omega) hL dL_law_212 dL_law_213 dL_law_214 (by decide) dL_law_215 dL_law_216 ?_
    refine sc_ld (k := 2) hF hS hl (by omega) hL dL_law_217 dL_law_218 dL_law_219 (by decide) dL_law_220 dL_law_221 ?_
    refine sc_ld (k := 3) hF hS hl (by omega) hL dL_law_222 dL_law_223 dL_law_224 (by decide) dL_law_225 dL_law_226 ?_
    refine kE (wc := (wF cJ dk so vo po co fo (lN P) (lN R) (lN hh) (ept (tT h hh 1).1) zt zS zV)) (wr := (wM cJ cZ mo a1 a2 a3 a4 a5 (lN P) (lN R) (lN hh) zx zy zi zu zv zl zpx zpy zip zvu zvv)) [0, 1, 2, 3, 4, 5] [6, 7, 8, 9, 10, 11] hP hD hS hA rfl rfl rfl (by decide) rfl (eV (As := [.int (xs (i + 1)), .int (xs (i + 2)), .int (xs (i + 3))]) (rest := []) C0 (kX3_point l D cJ cZ dk so vo po co fo (lN P) (lN R) (lN hh) (ept (tT h hh 1).1) zt zS zV (xs (i + 1)) (xs (i + 2)) (xs (i + 3)) H.size r czS k1) gL_law_X3_point rfl ⟨rfl, rfl⟩ hdX3_point ⟨Nat.le_of_ble_eq_true rfl, Nat.le_of_ble_eq_true rfl⟩ 3 0 rfl rfl rfl (hP.sub [0, 1, 2, 3, 4, 5] rfl) (hD.sub [0, 1, 2, 3, 4, 5] rfl rfl) hE hl rfl rfl (Nat.le_of_ble_eq_true rfl) dL_law_227 ⟨hc0, hs0⟩) (fun H locs hP hD hS => ?_)
    have hP : va_P D vwCl ((wF cJ dk so vo po co fo (lN P) (lN R) (lN hh) (ept (tT h hh 1).1) zt czS zV) ++ (wM cJ cZ mo a1 a2 a3 a4 a5 (lN P) (lN R) (lN hh) zx zy zi zu zv zl zpx zpy zip zvu zvv)) H := hP.sub [6, 7, 8, 9, 10, 11, 0, 1, 2, 3, 4, 5] rfl
    have hD : va_D (LA s) ((wF cJ dk so vo po co fo (lN P) (lN R) (lN hh) (ept (tT h hh 1).1) zt czS zV) ++ (wM cJ cZ mo a1 a2 a3 a4 a5 (lN P) (lN R) (lN hh) zx zy zi zu zv zl zpx zpy zip zvu zvv)) := hD.sub [6, 7, 8, 9, 10, 11, 0, 1, 2, 3, 4, 5] rfl rfl
    refine W.eq (g2 := F0 m 230 ls [.int r]) rfl ?_
    refine lv_aload_n hx hb dL_law_230 rfl (lv_at hl 2 rfl) ?_
    refine sc_ld (k := 1) hF hS hl (by omega) hL dL_law_231 dL_law_232 dL_law_233 (by decide) dL_law_234 dL_law_235 ?_
    refine sc_ld (k := 2) hF hS hl (by omega) hL dL_law_236 dL_law_237 dL_law_238 (by decide) dL_law_239 dL_law_240 ?_
    refine sc_ld (k := 3) hF hS hl (by omega) hL dL_law_241 dL_law_242 dL_law_243 (by decide) dL_law_244 dL_law_245 ?_
    refine kE (wc := (wM cJ cZ mo a1 a2 a3 a4 a5 (lN P) (lN R) (lN hh) zx zy zi zu zv zl zpx zpy zip zvu zvv)) (wr := (wF cJ dk so vo po co fo (lN P) (lN R) (lN hh) (ept (tT h hh 1).1) zt czS zV)) [6, 7, 8, 9, 10, 11] [0, 1, 2, 3, 4, 5] hP hD hS hA rfl rfl rfl (by decide) rfl (eV (As := [.int (xs (i + 1)), .int (xs (i + 2)), .int (xs (i + 3))]) (rest := [.int r]) C0 (kX4_point l D cJ cZ mo a1 a2 a3 a4 a5 (lN P) (lN R) (lN hh) zx zy zi zu zv zl zpx zpy zip zvu zvv (xs (i + 1)) (xs (i + 2)) (xs (i + 3)) H.size r mzx mzy mzi mzpx mzpy mzip k2) gL_law_X4_point rfl ⟨rfl, rfl⟩ hdX4_point ⟨Nat.le_of_ble_eq_true rfl, Nat.le_of_ble_eq_true rfl⟩ 4 0 rfl rfl rfl (hP.sub [6, 7, 8, 9, 10, 11] rfl) (hD.sub [6, 7, 8, 9, 10, 11] rfl rfl) hE hl rfl rfl (Nat.le_of_ble_eq_true rfl) dL_law_246 ⟨hc0, hs0⟩) (fun H locs hP hD hS => ?_)
    refine W.eq (g2 := F0 m 249 ls [.int r, .int r]) rfl ?_
    refine lv_icmp_eq (tgt := 1067) hx hb dL_law_249 (by decide) (fun _ => ?_) (fun cx => absurd rfl cx)
    exact W.widen (by omega) (by omega) (nx _ _ ⟨hS, .inr ⟨so, vo, po, co, fo, a1, a2, a3, a4, a5, P, R, hh, ne, h, zt, czS, zV, mzx, mzy, mzi, zu, zv, zl, mzpx, mzpy, mzip, zvu, zvv, pP, h0, hR, hH, hP, hD, k3, vR⟩⟩)
set_option maxHeartbeats 4000000 in
set_option maxRecDepth 100000 in
theorem cs_nowhere (hF : LF p s m c b L xs) (hE : EV D cJ cZ s) (hL : L ≤ 3072) (hi : i + 6 ≤ L) (hl : lv_has ls 4 [(0, .ref b), (1, .ref dk), (2, .ref mo), (3, .int (nI i))]) (hcl : cells + 3 ≤ room_1.cells) (hsl : slots + 10 ≤ room_1.slots) (hI : IV D cJ cZ dk mo s H locs) (nx : ∀ (H : Heap) (locs : List Loc), IV D cJ cZ dk mo s H locs → W p l e room_1 s m #[Value.ref b] below meth c H locs (cells + 3) (slots + 10) Q (F0 m 1067 ls [])) : W p l e room_1 s m #[Value.ref b] below meth c H locs cells slots Q (F0 m 254 ls []) := by
  obtain ⟨C0, hX, hbl⟩ := id hF
  have hx := C0.1
  have hb := C0.2.1
  have hA : ∀ q : Nat, s.heap.size ≤ q → LA s q := fun _ h => h
  obtain ⟨N, hN⟩ : ∃ N : Nat, 100000 ≤ N := ⟨100000, Nat.le_refl _⟩
  have hc0 : cells ≤ room_1.cells := Nat.le_trans (Nat.le_add_right cells 3) hcl
  have hs0 : slots ≤ room_1.slots := Nat.le_trans (Nat.le_add_right slots 10) hsl
  obtain ⟨hS, hM⟩ := hI
  rcases hM with ⟨so, vo, a1, a2, a3, a4, a5, zS, zV, zx, zy, zi, zu, zv, zl, zpx, zpy, zip, zvu, zvv, hP, hD⟩ | ⟨so, vo, po, co, fo, a1, a2, a3, a4, a5, P, R, hh, ne, h, zt, zS, zV, zx, zy, zi, zu, zv, zl, zpx, zpy, zip, zvu, zvv, pP, h0, hR, hH, hP, hD, sR, vR⟩
  · have hP : va_P D vwCl ((wN cJ dk so vo zS zV) ++ (wM cJ cZ mo a1 a2 a3 a4 a5 0 0 0 zx zy zi zu zv zl zpx zpy zip zvu zvv)) H := hP
    have hD : va_D (LA s) ((wN cJ dk so vo zS zV) ++ (wM cJ cZ mo a1 a2 a3 a4 a5 0 0 0 zx zy zi zu zv zl zpx zpy zip zvu zvv)) := hD
    refine lv_aload_n hx hb dL_law_254 rfl (lv_at hl 1 rfl) ?_
    refine sc_ld (k := 1) hF hS hl (by omega) hL dL_law_255 dL_law_256 dL_law_257 (by decide) dL_law_258 dL_law_259 ?_
    refine ki (kV (As := [.int (xs (i + 1))]) (rest := []) C0 (kX3_nowhere_null l D cJ cZ dk so vo zS zV (xs (i + 1)) (-3) rfl) gL_law_X3_nowhere rfl ⟨rfl, rfl⟩ hdX3_nowhere ⟨Nat.le_of_ble_eq_true rfl, Nat.le_of_ble_eq_true rfl⟩ 3 0 rfl rfl rfl (hP.sub [0, 1, 2] rfl) hE hl rfl rfl (Nat.le_of_ble_eq_true rfl) dL_law_260 hc0 hs0) ?_
    refine lv_aload_n hx hb dL_law_263 rfl (lv_at hl 2 rfl) ?_
    refine sc_ld (k := 1) hF hS hl (by omega) hL dL_law_264 dL_law_265 dL_law_266 (by decide) dL_law_267 dL_law_268 ?_
    refine kE (wc := (wM cJ cZ mo a1 a2 a3 a4 a5 0 0 0 zx zy zi zu zv zl zpx zpy zip zvu zvv)) (wr := (wN cJ dk so vo zS zV)) [3, 4, 5, 6, 7, 8] [0, 1, 2] hP hD hS hA rfl rfl rfl (by decide) rfl (eV (As := [.int (xs (i + 1))]) (rest := [.int (-3)]) C0 (kX4_nowhere l D cJ cZ mo a1 a2 a3 a4 a5 0 0 0 zx zy zi zu zv zl zpx zpy zip zvu zvv (xs (i + 1)) H.size (-3) zip (by unfold fX4_nowhere; exact if_pos rfl)) gL_law_X4_nowhere rfl ⟨rfl, rfl⟩ hdX4_nowhere ⟨Nat.le_of_ble_eq_true rfl, Nat.le_of_ble_eq_true rfl⟩ 4 0 rfl rfl rfl (hP.sub [3, 4, 5, 6, 7, 8] rfl) (hD.sub [3, 4, 5, 6, 7, 8] rfl rfl) hE hl rfl rfl (Nat.le_of_ble_eq_true rfl) dL_law_269 ⟨hc0, hs0⟩) (fun H locs hP hD hS => ?_)
    refine W.eq (g2 := F0 m 272 ls [.int (-3), .int (-3)]) rfl ?_
    refine lv_icmp_eq (tgt := 1067) hx hb dL_law_272 (by decide) (fun _ => ?_) (fun cx => absurd rfl cx)
    exact W.widen (by omega) (by omega) (nx _ _ ⟨hS, .inl ⟨so, vo, a1, a2, a3, a4, a5, zS, zV, zx, zy, zi, zu, zv, zl, zpx, zpy, zip, zvu, zvv, hP, hD⟩⟩)
  · obtain ⟨r, czS, mzip, k1, k2, k3⟩ := g_nowhere pP sR (xs (i + 1))
    have hP : va_P D vwCl ((wF cJ dk so vo po co fo (lN P) (lN R) (lN hh) (ept (tT h hh 1).1) zt zS zV) ++ (wM cJ cZ mo a1 a2 a3 a4 a5 (lN P) (lN R) (lN hh) zx zy zi zu zv zl zpx zpy zip zvu zvv)) H := hP
    have hD : va_D (LA s) ((wF cJ dk so vo po co fo (lN P) (lN R) (lN hh) (ept (tT h hh 1).1) zt zS zV) ++ (wM cJ cZ mo a1 a2 a3 a4 a5 (lN P) (lN R) (lN hh) zx zy zi zu zv zl zpx zpy zip zvu zvv)) := hD
    refine lv_aload_n hx hb dL_law_254 rfl (lv_at hl 1 rfl) ?_
    refine sc_ld (k := 1) hF hS hl (by omega) hL dL_law_255 dL_law_256 dL_law_257 (by decide) dL_law_258 dL_law_259 ?_
    refine kE (wc := (wF cJ dk so vo po co fo (lN P) (lN R) (lN hh) (ept (tT h hh 1).1) zt zS zV)) (wr := (wM cJ cZ mo a1 a2 a3 a4 a5 (lN P) (lN R) (lN hh) zx zy zi zu zv zl zpx zpy zip zvu zvv)) [0, 1, 2, 3, 4, 5] [6, 7, 8, 9, 10, 11] hP hD hS hA rfl rfl rfl (by decide) rfl (eV (As := [.int (xs (i + 1))]) (rest := []) C0 (kX3_nowhere l D cJ cZ dk so vo po co fo (lN P) (lN R) (lN hh) (ept (tT h hh 1).1) zt zS zV (xs (i + 1)) H.size r czS k1) gL_law_X3_nowhere rfl ⟨rfl, rfl⟩ hdX3_nowhere ⟨Nat.le_of_ble_eq_true rfl, Nat.le_of_ble_eq_true rfl⟩ 3 0 rfl rfl rfl (hP.sub [0, 1, 2, 3, 4, 5] rfl) (hD.sub [0, 1, 2, 3, 4, 5] rfl rfl) hE hl rfl rfl (Nat.le_of_ble_eq_true rfl) dL_law_260 ⟨hc0, hs0⟩) (fun H locs hP hD hS => ?_)
    have hP : va_P D vwCl ((wF cJ dk so vo po co fo (lN P) (lN R) (lN hh) (ept (tT h hh 1).1) zt czS zV) ++ (wM cJ cZ mo a1 a2 a3 a4 a5 (lN P) (lN R) (lN hh) zx zy zi zu zv zl zpx zpy zip zvu zvv)) H := hP.sub [6, 7, 8, 9, 10, 11, 0, 1, 2, 3, 4, 5] rfl
    have hD : va_D (LA s) ((wF cJ dk so vo po co fo (lN P) (lN R) (lN hh) (ept (tT h hh 1).1) zt czS zV) ++ (wM cJ cZ mo a1 a2 a3 a4 a5 (lN P) (lN R) (lN hh) zx zy zi zu zv zl zpx zpy zip zvu zvv)) := hD.sub [6, 7, 8, 9, 10, 11, 0, 1, 2, 3, 4, 5] rfl rfl
    refine W.eq (g2 := F0 m 263 ls [.int r]) rfl ?_
    refine lv_aload_n hx hb dL_law_263 rfl (lv_at hl 2 rfl) ?_
    refine sc_ld (k := 1) hF hS hl (by omega) hL dL_law_264 dL_law_265 dL_law_266 (by decide) dL_law_267 dL_law_268 ?_
    refine kE (wc := (wM cJ cZ mo a1 a2 a3 a4 a5 (lN P) (lN R) (lN hh) zx zy zi zu zv zl zpx zpy zip zvu zvv)) (wr := (wF cJ dk so vo po co fo (lN P) (lN R) (lN hh) (ept (tT h hh 1).1) zt czS zV)) [6, 7, 8, 9, 10, 11] [0, 1, 2, 3, 4, 5] hP hD hS hA rfl rfl rfl (by decide) rfl (eV (As := [.int (xs (i + 1))]) (rest := [.int r]) C0 (kX4_nowhere l D cJ cZ mo a1 a2 a3 a4 a5 (lN P) (lN R) (lN hh) zx zy zi zu zv zl zpx zpy zip zvu zvv (xs (i + 1)) H.size r mzip k2) gL_law_X4_nowhere rfl ⟨rfl, rfl⟩ hdX4_nowhere ⟨Nat.le_of_ble_eq_true rfl, Nat.le_of_ble_eq_true rfl⟩ 4 0 rfl rfl rfl (hP.sub [6, 7, 8, 9, 10, 11] rfl) (hD.sub [6, 7, 8, 9, 10, 11] rfl rfl) hE hl rfl rfl (Nat.le_of_ble_eq_true rfl) dL_law_269 ⟨hc0, hs0⟩) (fun H locs hP hD hS => ?_)
    refine W.eq (g2 := F0 m 272 ls [.int r, .int r]) rfl ?_
    refine lv_icmp_eq (tgt := 1067) hx hb dL_law_272 (by decide) (fun _ => ?_) (fun cx => absurd rfl cx)
    exact W.widen (by omega) (by omega) (nx _ _ ⟨hS, .inr ⟨so, vo, po, co, fo, a1, a2, a3, a4, a5, P, R, hh, ne, h, zt, czS, zV, zx, zy, zi, zu, zv, zl, zpx, zpy, mzip, zvu, zvv, pP, h0, hR, hH, hP, hD, k3, vR⟩⟩)
set_option maxHeartbeats 4000000 in
set_option maxRecDepth 100000 in
theorem cs_turn (hF : LF p s m c b L xs) (hE : EV D cJ cZ s) (hL : L ≤ 3072) (hi : i + 6 ≤ L) (hl : lv_has ls 4 [(0, .ref b), (1, .ref dk), (2, .ref mo), (3, .int (nI i))]) (hcl : cells + 3 ≤ room_1.cells) (hsl : slots + 10 ≤ room_1.slots) (hI : IV D cJ cZ dk mo s H locs) (nx : ∀ (H : Heap) (locs : List Loc), IV D cJ cZ dk mo s H locs → W p l e room_1 s m #[Value.ref b] below meth c H locs (cells + 3) (slots + 10) Q (F0 m 1067 ls [])) : W p l e room_1 s m #[Value.ref b] below meth c H locs cells slots Q (F0 m 277 ls []) := by
  obtain ⟨C0, hX, hbl⟩ := id hF
  have hx := C0.1
  have hb := C0.2.1
  have hA : ∀ q : Nat, s.heap.size ≤ q → LA s q := fun _ h => h
  obtain ⟨N, hN⟩ : ∃ N : Nat, 100000 ≤ N := ⟨100000, Nat.le_refl _⟩
  have hc0 : cells ≤ room_1.cells := Nat.le_trans (Nat.le_add_right cells 3) hcl
  have hs0 : slots ≤ room_1.slots := Nat.le_trans (Nat.le_add_right slots 10) hsl
  obtain ⟨hS, hM⟩ := hI
  rcases hM with ⟨so, vo, a1, a2, a3, a4, a5, zS, zV, zx, zy, zi, zu, zv, zl, zpx, zpy, zip, zvu, zvv, hP, hD⟩ | ⟨so, vo, po, co, fo, a1, a2, a3, a4, a5, P, R, hh, ne, h, zt, zS, zV, zx, zy, zi, zu, zv, zl, zpx, zpy, zip, zvu, zvv, pP, h0, hR, hH, hP, hD, sR, vR⟩
  · have hP : va_P D vwCl ((wN cJ dk so vo zS zV) ++ (wM cJ cZ mo a1 a2 a3 a4 a5 0 0 0 zx zy zi zu zv zl zpx zpy zip zvu zvv)) H := hP
    have hD : va_D (LA s) ((wN cJ dk so vo zS zV) ++ (wM cJ cZ mo a1 a2 a3 a4 a5 0 0 0 zx zy zi zu zv zl zpx zpy zip zvu zvv)) := hD
    refine lv_aload_n hx hb dL_law_277 rfl (lv_at hl 1 rfl) ?_
    refine sc_ld (k := 1) hF hS hl (by omega) hL dL_law_278 dL_law_279 dL_law_280 (by decide) dL_law_281 dL_law_282 ?_
    refine sc_ll (k := 2) hF hS hl (by omega) hL dL_law_283 dL_law_284 dL_law_285 dL_law_286 dL_law_287 dL_law_288 dL_law_289 dL_law_291 dL_law_292 dL_law_293 dL_law_294 dL_law_295 dL_law_296 dL_law_297 (by decide) (by decide) dL_law_298 lk36 dL_law_301 dL_law_302 ?_
    refine ki (kV (As := [.int (xs (i + 1)), .long (lw2 (xs (i + 2)) (xs (i + 3)))]) (rest := []) C0 (kX3_turn_null l D cJ cZ dk so vo zS zV (xs (i + 1)) (lw2 (xs (i + 2)) (xs (i + 3))) (-3) rfl) gL_law_X3_turn rfl ⟨rfl, rfl⟩ hdX3_turn ⟨Nat.le_of_ble_eq_true rfl, Nat.le_of_ble_eq_true rfl⟩ 3 0 rfl rfl rfl (hP.sub [0, 1, 2] rfl) hE hl rfl rfl (Nat.le_of_ble_eq_true rfl) dL_law_303 hc0 hs0) ?_
    refine lv_aload_n hx hb dL_law_306 rfl (lv_at hl 2 rfl) ?_
    refine sc_ld (k := 1) hF hS hl (by omega) hL dL_law_307 dL_law_308 dL_law_309 (by decide) dL_law_310 dL_law_311 ?_
    refine sc_ll (k := 2) hF hS hl (by omega) hL dL_law_312 dL_law_313 dL_law_314 dL_law_315 dL_law_316 dL_law_317 dL_law_318 dL_law_320 dL_law_321 dL_law_322 dL_law_323 dL_law_324 dL_law_325 dL_law_326 (by decide) (by decide) dL_law_327 lk36 dL_law_330 dL_law_331 ?_
    refine kE (wc := (wM cJ cZ mo a1 a2 a3 a4 a5 0 0 0 zx zy zi zu zv zl zpx zpy zip zvu zvv)) (wr := (wN cJ dk so vo zS zV)) [3, 4, 5, 6, 7, 8] [0, 1, 2] hP hD hS hA rfl rfl rfl (by decide) rfl (eV (As := [.int (xs (i + 1)), .long (lw2 (xs (i + 2)) (xs (i + 3)))]) (rest := [.int (-3)]) C0 (kX4_turn l D cJ cZ mo a1 a2 a3 a4 a5 N 0 0 0 zx zy zi zu zv zl zpx zpy zip zvu zvv (xs (i + 1)) (lw2 (xs (i + 2)) (xs (i + 3))) H.size (-3) zx zy zi zpx zpy zip (by unfold fX4_turn; exact if_pos rfl)) gL_law_X4_turn rfl ⟨rfl, rfl⟩ hdX4_turn ⟨Nat.le_of_ble_eq_true rfl, Nat.le_of_ble_eq_true rfl⟩ 4 0 rfl rfl rfl (hP.sub [3, 4, 5, 6, 7, 8] rfl) (hD.sub [3, 4, 5, 6, 7, 8] rfl rfl) hE hl rfl rfl (Nat.le_of_ble_eq_true rfl) dL_law_332 ⟨hc0, hs0⟩) (fun H locs hP hD hS => ?_)
    refine W.eq (g2 := F0 m 335 ls [.int (-3), .int (-3)]) rfl ?_
    refine lv_icmp_eq (tgt := 1067) hx hb dL_law_335 (by decide) (fun _ => ?_) (fun cx => absurd rfl cx)
    exact W.widen (by omega) (by omega) (nx _ _ ⟨hS, .inl ⟨so, vo, a1, a2, a3, a4, a5, zS, zV, zx, zy, zi, zu, zv, zl, zpx, zpy, zip, zvu, zvv, hP, hD⟩⟩)
  · obtain ⟨r, czt, czS, mzx, mzy, mzi, mzpx, mzpy, mzip, k1, k2, k3⟩ := g_turn h pP hN hH sR zt zx zy zi (xs (i + 1)) (lw2 (xs (i + 2)) (xs (i + 3)))
    have hP : va_P D vwCl ((wF cJ dk so vo po co fo (lN P) (lN R) (lN hh) (ept (tT h hh 1).1) zt zS zV) ++ (wM cJ cZ mo a1 a2 a3 a4 a5 (lN P) (lN R) (lN hh) zx zy zi zu zv zl zpx zpy zip zvu zvv)) H := hP
    have hD : va_D (LA s) ((wF cJ dk so vo po co fo (lN P) (lN R) (lN hh) (ept (tT h hh 1).1) zt zS zV) ++ (wM cJ cZ mo a1 a2 a3 a4 a5 (lN P) (lN R) (lN hh) zx zy zi zu zv zl zpx zpy zip zvu zvv)) := hD
    refine lv_aload_n hx hb dL_law_277 rfl (lv_at hl 1 rfl) ?_
    refine sc_ld (k := 1) hF hS hl (by omega) hL dL_law_278 dL_law_279 dL_law_280 (by decide) dL_law_281 dL_law_282 ?_
    refine sc_ll (k := 2) hF hS hl (by omega) hL dL_law_283 dL_law_284 dL_law_285 dL_law_286 dL_law_287 dL_law_288 dL_law_289 dL_law_291 dL_law_292 dL_law_293 dL_law_294 dL_law_295 dL_law_296 dL_law_297 (by decide) (by decide) dL_law_298 lk36 dL_law_301 dL_law_302 ?_
    refine kE (wc := (wF cJ dk so vo po co fo (lN P) (lN R) (lN hh) (ept (tT h hh 1).1) zt zS zV)) (wr := (wM cJ cZ mo a1 a2 a3 a4 a5 (lN P) (lN R) (lN hh) zx zy zi zu zv zl zpx zpy zip zvu zvv)) [0, 1, 2, 3, 4, 5] [6, 7, 8, 9, 10, 11] hP hD hS hA rfl rfl rfl (by decide) rfl (eV (As := [.int (xs (i + 1)), .long (lw2 (xs (i + 2)) (xs (i + 3)))]) (rest := []) C0 (kX3_turn l D cJ cZ dk so vo po co fo N (lN P) (lN R) (lN hh) (ept (tT h hh 1).1) zt zS zV (xs (i + 1)) (lw2 (xs (i + 2)) (xs (i + 3))) H.size r czt czS k1) gL_law_X3_turn rfl ⟨rfl, rfl⟩ hdX3_turn ⟨Nat.le_of_ble_eq_true rfl, Nat.le_of_ble_eq_true rfl⟩ 3 0 rfl rfl rfl (hP.sub [0, 1, 2, 3, 4, 5] rfl) (hD.sub [0, 1, 2, 3, 4, 5] rfl rfl) hE hl rfl rfl (Nat.le_of_ble_eq_true rfl) dL_law_303 ⟨hc0, hs0⟩) (fun H locs hP hD hS => ?_)
    have hP : va_P D vwCl ((wF cJ dk so vo po co fo (lN P) (lN R) (lN hh) (ept (tT h hh 1).1) czt czS zV) ++ (wM cJ cZ mo a1 a2 a3 a4 a5 (lN P) (lN R) (lN hh) zx zy zi zu zv zl zpx zpy zip zvu zvv)) H := hP.sub [6, 7, 8, 9, 10, 11, 0, 1, 2, 3, 4, 5] rfl
    have hD : va_D (LA s) ((wF cJ dk so vo po co fo (lN P) (lN R) (lN hh) (ept (tT h hh 1).1) czt czS zV) ++ (wM cJ cZ mo a1 a2 a3 a4 a5 (lN P) (lN R) (lN hh) zx zy zi zu zv zl zpx zpy zip zvu zvv)) := hD.sub [6, 7, 8, 9, 10, 11, 0, 1, 2, 3, 4, 5] rfl rfl
    refine W.eq (g2 := F0 m 306 ls [.int r]) rfl ?_
    refine lv_aload_n hx hb dL_law_306 rfl (lv_at hl 2 rfl) ?_
    refine sc_ld (k := 1) hF hS hl (by omega) hL dL_law_307 dL_law_308 dL_law_309 (by decide) dL_law_310 dL_law_311 ?_
    refine sc_ll (k := 2) hF hS hl (by omega) hL dL_law_312 dL_law_313 dL_law_314 dL_law_315 dL_law_316 dL_law_317 dL_law_318 dL_law_320 dL_law_321 dL_law_322 dL_law_323 dL_law_324 dL_law_325 dL_law_326 (by decide) (by decide) dL_law_327 lk36 dL_law_330 dL_law_331 ?_
    refine kE (wc := (wM cJ cZ mo a1 a2 a3 a4 a5 (lN P) (lN R) (lN hh) zx zy zi zu zv zl zpx zpy zip zvu zvv)) (wr := (wF cJ dk so vo po co fo (lN P) (lN R) (lN hh) (ept (tT h hh 1).1) czt czS zV)) [6, 7, 8, 9, 10, 11] [0, 1, 2, 3, 4, 5] hP hD hS hA rfl rfl rfl (by decide) rfl (eV (As := [.int (xs (i + 1)), .long (lw2 (xs (i + 2)) (xs (i + 3)))]) (rest := [.int r]) C0 (kX4_turn l D cJ cZ mo a1 a2 a3 a4 a5 N (lN P) (lN R) (lN hh) zx zy zi zu zv zl zpx zpy zip zvu zvv (xs (i + 1)) (lw2 (xs (i + 2)) (xs (i + 3))) H.size r mzx mzy mzi mzpx mzpy mzip k2) gL_law_X4_turn rfl ⟨rfl, rfl⟩ hdX4_turn ⟨Nat.le_of_ble_eq_true rfl, Nat.le_of_ble_eq_true rfl⟩ 4 0 rfl rfl rfl (hP.sub [6, 7, 8, 9, 10, 11] rfl) (hD.sub [6, 7, 8, 9, 10, 11] rfl rfl) hE hl rfl rfl (Nat.le_of_ble_eq_true rfl) dL_law_332 ⟨hc0, hs0⟩) (fun H locs hP hD hS => ?_)
    refine W.eq (g2 := F0 m 335 ls [.int r, .int r]) rfl ?_
    refine lv_icmp_eq (tgt := 1067) hx hb dL_law_335 (by decide) (fun _ => ?_) (fun cx => absurd rfl cx)
    exact W.widen (by omega) (by omega) (nx _ _ ⟨hS, .inr ⟨so, vo, po, co, fo, a1, a2, a3, a4, a5, P, R, hh, ne, h, czt, czS, zV, mzx, mzy, mzi, zu, zv, zl, mzpx, mzpy, mzip, zvu, zvv, pP, h0, hR, hH, hP, hD, k3, vR⟩⟩)
end
