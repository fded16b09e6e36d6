def fX1_takes (N : Nat) (zp : Int64) (zr : Int64) (q0 : Int64) : Option (Bool) :=
  (fX0_multiple N zp zr q0).bind fun r1 =>
  if r1 = (-1) then
    some true
  else
    some false
abbrev rmX1_takes : Room := { frames := 4, cells := 0, slots := 0, locals := 127 }
theorem lkX1_takes_0 : (.fieldLink RX1 9 "PairingDesk$Pairing" "curve" "LPairingDesk$Curve;" : Cond) ∈ wsX1_takes := by decide +kernel
theorem lkX1_takes_1 : (.fieldLink RX1 25 "PairingDesk$Pairing" "\x72" "J" : Cond) ∈ wsX1_takes := by decide +kernel
theorem lkX1_takes_2 : (.constantLong RX1 30 (-1) : Cond) ∈ wsX1_takes := by decide +kernel
theorem iwX1_takes_1 : ∀ w ∈ wsX10, w ∈ wsX1_takes := by decide +kernel
theorem hdX1_takes : KN yX1_takes 1 := by decide +kernel
set_option maxHeartbeats 4000000 in
set_option maxRecDepth 100000 in
theorem kX1_takes (l : Launch) (D : va_G) (cJ cZ : ClassId) (po co fo : Nat) (N : Nat) (zp : Int64) (zr : Int64) (zh : Int64) (zb : Int64) (zt : Int32) (q0 : Int64) (rr : Bool) (h : fX1_takes N zp zr q0 = some rr) : Met l yX1_takes wsX1_takes rmX1_takes (PP D cJ cZ [.ref po, .long q0] [(po, .inr (1, [.ref co, .long zp, .long zr])), (co, .inr (0, [.ref fo, .long zp, .long zr, .long zh, .long zb, .int zt])), (fo, .inr (2, [.long zp]))]) (SI (bI rr)) 0 0 (fun _ => False) := by
  refine Met.ofW (cc := cX1_takes) (maxL := 3) (ret := some .boolean) (by decide) rfl ?_
  intro pg e s m args below meth c s₁ B hml hv
  obtain ⟨rfl, hP, hE⟩ := hv
  have hx := B.exec
  have hb := B.bytes
  have hr := B.returns
  have hlocks := B.notSynchronized
  have C0 : CallFix pg m c cX1_takes 3 s ([.ref po, .long q0] : List Value).toArray wsX1_takes RX1 := ⟨hx, hb, hml, findClass_of_methodNamed B.named, atoms_spec (ws := wsX1_takes) B.pre⟩
  have hown := C0.2.2.2.1
  have hts := C0.2.2.2.2
  have hl := lv_entry ([.ref po, .long q0]) (n := 3) (Nat.le_of_ble_eq_true rfl)
  rw [lg_entry_eq]
  generalize (lg_sl ([.ref po, .long q0]) ++ List.replicate (3 - (lg_sl ([.ref po, .long q0])).length) Slot.unset).toArray = ls at hl ⊢
  have hl : lv_has ls 3 [(0, .ref po), (1, .long q0)] := hl
  unfold fX1_takes at h
  refine lv_aload_n hx hb dX1_takes_0 rfl (lv_at hl 0 rfl) ?_
  refine va_get (D := D) (ci := 1) (v := .ref co) (C := RX1) (T := TX1) (N := 3) hx hb hts iwX1_takes_1 hown hE.1 hP 0 rfl rfl 0 (by decide) (hts _ lkX1_takes_0) (fun _ h9 => h9) rfl dX1_takes_1 ?_
  refine lv_aload_n hx hb dX1_takes_4 rfl (lv_at hl 0 rfl) ?_
  refine va_get (D := D) (ci := 1) (v := .long zr) (C := RX1) (T := TX1) (N := 3) hx hb hts iwX1_takes_1 hown hE.1 hP 0 rfl rfl 2 (by decide) (hts _ lkX1_takes_1) (fun _ h9 => h9) rfl dX1_takes_5 ?_
  refine lv_lload_n hx hb dX1_takes_8 rfl (lv_at hl 1 rfl) ?_
  obtain ⟨r1, h2, h⟩ := bind_s h
  refine kl (kV (As := [.long zr, .long q0]) (rest := []) C0 (kX0_multiple l D cJ cZ co fo N zp zr zh zb zt zr q0 r1 h2) gX1_takes_X0_multiple rfl ⟨rfl, rfl⟩ hdX0_multiple ⟨Nat.le_of_ble_eq_true rfl, Nat.le_of_ble_eq_true rfl⟩ 0 0 rfl rfl rfl (hP.sub [1, 2] rfl) hE hl rfl rfl (Nat.le_of_ble_eq_true rfl) dX1_takes_9 (Nat.zero_le _) (Nat.zero_le _)) ?_
  refine lv_ldc2 (v := (-1)) hx hb hown (hts _ lkX1_takes_2) dX1_takes_12 ?_
  refine lc_ne (tgt := 23) hx hb dX1_takes_15 dX1_takes_16 (by decide) (fun c3 => ?_) (fun c3 => ?_)
  · have h := ite_f c3 h
    refine lv_iconst (v := 0) hx hb dX1_takes_23 (by decide) ?_
    exact reZ (v := false) hx hb hr hlocks h dX1_takes_24
  · have h := ite_t c3 h
    refine lv_iconst (v := 1) hx hb dX1_takes_19 (by decide) ?_
    refine lv_goto (tgt := 24) hx hb dX1_takes_20 (by decide) ?_
    exact reZ (v := true) hx hb hr hlocks h dX1_takes_24
def fX1_product  (zp : Int64) (q0 : Int64) (q1 : Int64) : Option (Int64) :=
  (fX3_upper q0).bind fun r1 =>
  (fX3_upper q1).bind fun r3 =>
  (fX3_lower q0).bind fun r5 =>
  (fX3_lower q1).bind fun r7 =>
  bnd ((r1 * r3) - (r5 * r7)) fun w9 =>
  (fX3_upper q0).bind fun r10 =>
  (fX3_lower q1).bind fun r12 =>
  (fX3_lower q0).bind fun r14 =>
  (fX3_upper q1).bind fun r16 =>
  bnd ((r10 * r12) + (r14 * r16)) fun w18 =>
  (fJ9_floorMod_f86c9 w9 zp).bind fun r19 =>
  if zp = 0 then none else
  (fX3_joined r19 (jrem w18 zp)).bind fun r22 =>
  some r22
abbrev rmX1_product : Room := { frames := 1, cells := 0, slots := 0, locals := 25 }
theorem lkX1_product_0 : (.initialized RX3 : Cond) ∈ wsX1_product := by decide +kernel
theorem lkX1_product_1 : (.static yX3_upper : Cond) ∈ wsX1_product := by decide +kernel
theorem lkX1_product_2 : (.static yX3_lower : Cond) ∈ wsX1_product := by decide +kernel
theorem lkX1_product_3 : (.fieldLink RX1 21 "PairingDesk$Pairing" "p" "J" : Cond) ∈ wsX1_product := by decide +kernel
theorem lkX1_product_4 : (.static yX3_joined : Cond) ∈ wsX1_product := by decide +kernel
theorem iwX1_product_1 : ∀ w ∈ wsX10, w ∈ wsX1_product := by decide +kernel
theorem hdX1_product : KN yX1_product 2 := by decide +kernel
set_option maxHeartbeats 4000000 in
set_option maxRecDepth 100000 in
theorem kX1_product (l : Launch) (D : va_G) (cJ cZ : ClassId) (po co fo : Nat) (zp : Int64) (zr : Int64) (zh : Int64) (zb : Int64) (zt : Int32) (q0 : Int64) (q1 : Int64) (rr : Int64) (h : fX1_product zp q0 q1 = some rr) : Met l yX1_product wsX1_product rmX1_product (PP D cJ cZ [.ref po, .long q0, .long q1] [(po, .inr (1, [.ref co, .long zp, .long zr])), (co, .inr (0, [.ref fo, .long zp, .long zr, .long zh, .long zb, .int zt])), (fo, .inr (2, [.long zp]))]) (SL rr) 0 0 (fun _ => False) := by
  refine Met.ofW (cc := cX1_product) (maxL := 9) (ret := some .long) (by decide) rfl ?_
  intro pg e s m args below meth c s₁ B hml hv
  obtain ⟨rfl, hP, hE⟩ := hv
  have hx := B.exec
  have hb := B.bytes
  have hr := B.returns
  have hlocks := B.notSynchronized
  have C0 : CallFix pg m c cX1_product 9 s ([.ref po, .long q0, .long q1] : List Value).toArray wsX1_product RX1 := ⟨hx, hb, hml, findClass_of_methodNamed B.named, atoms_spec (ws := wsX1_product) B.pre⟩
  have hown := C0.2.2.2.1
  have hts := C0.2.2.2.2
  have hl := lv_entry ([.ref po, .long q0, .long q1]) (n := 9) (Nat.le_of_ble_eq_true rfl)
  rw [lg_entry_eq]
  generalize (lg_sl ([.ref po, .long q0, .long q1]) ++ List.replicate (9 - (lg_sl ([.ref po, .long q0, .long q1])).length) Slot.unset).toArray = ls at hl ⊢
  have hl : lv_has ls 9 [(0, .ref po), (1, .long q0), (3, .long q1)] := hl
  unfold fX1_product at h
  refine lv_lload_n hx hb dX1_product_0 rfl (lv_at hl 1 rfl) ?_
  obtain ⟨r1, h2, h⟩ := bind_s h
  refine kl (kN (As := [.long q0]) (rest := []) C0 (kX3_upper l D cJ cZ q0 r1 h2) gX1_product_X3_upper_n32 rfl ⟨rfl, rfl⟩ hE.2.2.2.2.2.1 (hts _ lkX1_product_0) (hts _ lkX1_product_1) hdX3_upper ⟨Nat.le_of_ble_eq_true rfl, Nat.le_of_ble_eq_true rfl⟩ (hP.sub [] rfl) hE hl rfl rfl (Nat.le_of_ble_eq_true rfl) dX1_product_1 (Nat.zero_le _) (Nat.zero_le _)) ?_
  refine lv_lload_n hx hb dX1_product_4 rfl (lv_at hl 2 rfl) ?_
  obtain ⟨r3, h4, h⟩ := bind_s h
  refine kl (kN (As := [.long q1]) (rest := [.long r1]) C0 (kX3_upper l D cJ cZ q1 r3 h4) gX1_product_X3_upper_n32 rfl ⟨rfl, rfl⟩ hE.2.2.2.2.2.1 (hts _ lkX1_product_0) (hts _ lkX1_product_1) hdX3_upper ⟨Nat.le_of_ble_eq_true rfl, Nat.le_of_ble_eq_true rfl⟩ (hP.sub [] rfl) hE hl rfl rfl (Nat.le_of_ble_eq_true rfl) dX1_product_5 (Nat.zero_le _) (Nat.zero_le _)) ?_
  refine lv_lmul hx hb dX1_product_8 ?_
  refine lv_lload_n hx hb dX1_product_9 rfl (lv_at hl 1 rfl) ?_
  obtain ⟨r5, h6, h⟩ := bind_s h
  refine kl (kN (As := [.long q0]) (rest := [.long (r1 * r3)]) C0 (kX3_lower l D cJ cZ q0 r5 h6) gX1_product_X3_lower_n36 rfl ⟨rfl, rfl⟩ hE.2.2.2.2.2.2 (hts _ lkX1_product_0) (hts _ lkX1_product_2) hdX3_lower ⟨Nat.le_of_ble_eq_true rfl, Nat.le_of_ble_eq_true rfl⟩ (hP.sub [] rfl) hE hl rfl rfl (Nat.le_of_ble_eq_true rfl) dX1_product_10 (Nat.zero_le _) (Nat.zero_le _)) ?_
  refine lv_lload_n hx hb dX1_product_13 rfl (lv_at hl 2 rfl) ?_
  obtain ⟨r7, h8, h⟩ := bind_s h
  refine kl (kN (As := [.long q1]) (rest := [.long r5, .long (r1 * r3)]) C0 (kX3_lower l D cJ cZ q1 r7 h8) gX1_product_X3_lower_n36 rfl ⟨rfl, rfl⟩ hE.2.2.2.2.2.2 (hts _ lkX1_product_0) (hts _ lkX1_product_2) hdX3_lower ⟨Nat.le_of_ble_eq_true rfl, Nat.le_of_ble_eq_true rfl⟩ (hP.sub [] rfl) hE hl rfl rfl (Nat.le_of_ble_eq_true rfl) dX1_product_14 (Nat.zero_le _) (Nat.zero_le _)) ?_
  refine lv_lmul hx hb dX1_product_17 ?_
  refine lv_lsub hx hb dX1_product_18 ?_
  obtain ⟨w9, ew9, h⟩ := bnd_s h
  refine tl ew9.symm ?_
  refine lv_lstore (lv' := [(5, .long w9), (0, .ref po), (1, .long q0), (3, .long q1)]) hx hb dX1_product_19 hl (by decide) rfl (fun ls hl => ?_)
  refine lv_lload_n hx hb dX1_product_21 rfl (lv_at hl 2 rfl) ?_
  obtain ⟨r10, h11, h⟩ := bind_s h
  refine kl (kN (As := [.long q0]) (rest := []) C0 (kX3_upper l D cJ cZ q0 r10 h11) gX1_product_X3_upper_n32 rfl ⟨rfl, rfl⟩ hE.2.2.2.2.2.1 (hts _ lkX1_product_0) (hts _ lkX1_product_1) hdX3_upper ⟨Nat.le_of_ble_eq_true rfl, Nat.le_of_ble_eq_true rfl⟩ (hP.sub [] rfl) hE hl rfl rfl (Nat.le_of_ble_eq_true rfl) dX1_product_22 (Nat.zero_le _) (Nat.zero_le _)) ?_
  refine lv_lload_n hx hb dX1_product_25 rfl (lv_at hl 3 rfl) ?_
  obtain ⟨r12, h13, h⟩ := bind_s h
  refine kl (kN (As := [.long q1]) (rest := [.long r10]) C0 (kX3_lower l D cJ cZ q1 r12 h13) gX1_product_X3_lower_n36 rfl ⟨rfl, rfl⟩ hE.2.2.2.2.2.2 (hts _ lkX1_product_0) (hts _ lkX1_product_2) hdX3_lower ⟨Nat.le_of_ble_eq_true rfl, Nat.le_of_ble_eq_true rfl⟩ (hP.sub [] rfl) hE hl rfl rfl (Nat.le_of_ble_eq_true rfl) dX1_product_26 (Nat.zero_le _) (Nat.zero_le _)) ?_
  refine lv_lmul hx hb dX1_product_29 ?_
  refine lv_lload_n hx hb dX1_product_30 rfl (lv_at hl 2 rfl) ?_
  obtain ⟨r14, h15, h⟩ := bind_s h
  refine kl (kN (As := [.long q0]) (rest := [.long (r10 * r12)]) C0 (kX3_lower l D cJ cZ q0 r14 h15) gX1_product_X3_lower_n36 rfl ⟨rfl, rfl⟩ hE.2.2.2.2.2.2 (hts _ lkX1_product_0) (hts _ lkX1_product_2) hdX3_lower ⟨Nat.le_of_ble_eq_true rfl, Nat.le_of_ble_eq_true rfl⟩ (hP.sub [] rfl) hE hl rfl rfl (Nat.le_of_ble_eq_true rfl) dX1_product_31 (Nat.zero_le _) (Nat.zero_le _)) ?_
  refine lv_lload_n hx hb dX1_product_34 rfl (lv_at hl 3 rfl) ?_
  obtain ⟨r16, h17, h⟩ := bind_s h
  refine kl (kN (As := [.long q1]) (rest := [.long r14, .long (r10 * r12)]) C0 (kX3_upper l D cJ cZ q1 r16 h17) gX1_product_X3_upper_n32 rfl ⟨rfl, rfl⟩ hE.2.2.2.2.2.1 (hts _ lkX1_product_0) (hts _ lkX1_product_1) hdX3_upper ⟨Nat.le_of_ble_eq_true rfl, Nat.le_of_ble_eq_true rfl⟩ (hP.sub [] rfl) hE hl rfl rfl (Nat.le_of_ble_eq_true rfl) dX1_product_35 (Nat.zero_le _) (Nat.zero_le _)) ?_
  refine lv_lmul hx hb dX1_product_38 ?_
  refine lv_ladd hx hb dX1_product_39 ?_
  obtain ⟨w18, ew18, h⟩ := bnd_s h
  refine tl ew18.symm ?_
  refine lv_lstore (lv' := [(7, .long w18), (5, .long w9), (0, .ref po), (1, .long q0), (3, .long q1)]) hx hb dX1_product_40 hl (by decide) rfl (fun ls hl => ?_)
  refine lv_lload hx hb dX1_product_42 (lv_at hl 1 rfl) ?_
  refine lv_aload_n hx hb dX1_product_44 rfl (lv_at hl 2 rfl) ?_
  refine va_get (D := D) (ci := 1) (v := .long zp) (C := RX1) (T := TX1) (N := 3) hx hb hts iwX1_product_1 hown hE.1 hP 0 rfl rfl 1 (by decide) (hts _ lkX1_product_3) (fun _ h9 => h9) rfl dX1_product_45 ?_
  obtain ⟨r19, h20, h⟩ := bind_s h
  refine kl (kS (As := [.long w9, .long zp]) (rest := []) C0 (kJ9_floorMod_f86c9 l D cJ cZ w9 zp r19 h20) gX1_product_J9_floorMod_f86c9 rfl ⟨rfl, rfl⟩ hdJ9_floorMod_f86c9 ⟨Nat.le_of_ble_eq_true rfl, Nat.le_of_ble_eq_true rfl⟩ (hP.sub [] rfl) hE hl rfl rfl (Nat.le_of_ble_eq_true rfl) dX1_product_48 (Nat.zero_le _) (Nat.zero_le _)) ?_
  refine lv_lload hx hb dX1_product_51 (lv_at hl 0 rfl) ?_
  refine lv_aload_n hx hb dX1_product_53 rfl (lv_at hl 2 rfl) ?_
  refine va_get (D := D) (ci := 1) (v := .long zp) (C := RX1) (T := TX1) (N := 3) hx hb hts iwX1_product_1 hown hE.1 hP 0 rfl rfl 1 (by decide) (hts _ lkX1_product_3) (fun _ h9 => h9) rfl dX1_product_54 ?_
  obtain ⟨c21, h⟩ := ite_n h
  refine lv_lremJ hx hb dX1_product_57 c21 ?_
  obtain ⟨r22, h23, h⟩ := bind_s h
  refine kl (kN (As := [.long r19, .long (jrem w18 zp)]) (rest := []) C0 (kX3_joined l D cJ cZ r19 (jrem w18 zp) r22 h23) gX1_product_X3_joined_n44 rfl ⟨rfl, rfl⟩ hE.2.2.2.2.1 (hts _ lkX1_product_0) (hts _ lkX1_product_4) hdX3_joined ⟨Nat.le_of_ble_eq_true rfl, Nat.le_of_ble_eq_true rfl⟩ (hP.sub [] rfl) hE hl rfl rfl (Nat.le_of_ble_eq_true rfl) dX1_product_58 (Nat.zero_le _) (Nat.zero_le _)) ?_
  exact reL hx hb hr hlocks h dX1_product_61
def fX1_raised_11 (N : Nat) (zp : Int64) : Nat → Int64 → Int64 → Int64 → Option (Int64)
  | 0, _, _, _ => none
  | n + 1, l5, l7, l9 =>
    if l9 ≤ 0 then
      some l5
    else
      if (jrem l9 2) = 1 then
        (fX1_product zp l5 l7).bind fun r6 =>
        (fX1_product zp l7 l7).bind fun r8 =>
        bnd (jshr l9 1) fun w10 =>
        fX1_raised_11 N zp n r6 r8 w10
      else
        (fX1_product zp l7 l7).bind fun r3 =>
        bnd (jshr l9 1) fun w5 =>
        fX1_raised_11 N zp n l5 r3 w5
def fX1_raised (N : Nat) (zp : Int64) (q0 : Int64) (q1 : Int64) : Option (Int64) :=
  fX1_raised_11 N zp N 2147483648 q0 q1
abbrev rmX1_raised : Room := { frames := 2, cells := 0, slots := 0, locals := 53 }
theorem lkX1_raised_0 : (.constantLong RX1 47 (2147483648) : Cond) ∈ wsX1_raised := by decide +kernel
theorem lkX1_raised_1 : (.constantLong RX1 49 (2) : Cond) ∈ wsX1_raised := by decide +kernel
theorem hdX1_raised : KN yX1_raised 2 := by decide +kernel
set_option maxHeartbeats 4000000 in
set_option maxRecDepth 100000 in
theorem kX1_raised (l : Launch) (D : va_G) (cJ cZ : ClassId) (po co fo : Nat) (N : Nat) (zp : Int64) (zr : Int64) (zh : Int64) (zb : Int64) (zt : Int32) (q0 : Int64) (q1 : Int64) (rr : Int64) (h : fX1_raised N zp q0 q1 = some rr) : Met l yX1_raised wsX1_raised rmX1_raised (PP D cJ cZ [.ref po, .long q0, .long q1] [(po, .inr (1, [.ref co, .long zp, .long zr])), (co, .inr (0, [.ref fo, .long zp, .long zr, .long zh, .long zb, .int zt])), (fo, .inr (2, [.long zp]))]) (SL rr) 0 0 (fun _ => False) := by
  refine Met.ofW (cc := cX1_raised) (maxL := 11) (ret := some .long) (by decide) rfl ?_
  intro pg e s m args below meth c s₁ B hml hv
  obtain ⟨rfl, hP, hE⟩ := hv
  have hx := B.exec
  have hb := B.bytes
  have hr := B.returns
  have hlocks := B.notSynchronized
  have C0 : CallFix pg m c cX1_raised 11 s ([.ref po, .long q0, .long q1] : List Value).toArray wsX1_raised RX1 := ⟨hx, hb, hml, findClass_of_methodNamed B.named, atoms_spec (ws := wsX1_raised) B.pre⟩
  have hown := C0.2.2.2.1
  have hts := C0.2.2.2.2
  have hl := lv_entry ([.ref po, .long q0, .long q1]) (n := 11) (Nat.le_of_ble_eq_true rfl)
  rw [lg_entry_eq]
  generalize (lg_sl ([.ref po, .long q0, .long q1]) ++ List.replicate (11 - (lg_sl ([.ref po, .long q0, .long q1])).length) Slot.unset).toArray = ls at hl ⊢
  have hl : lv_has ls 11 [(0, .ref po), (1, .long q0), (3, .long q1)] := hl
  have loop11 : ∀ (n : Nat) (l5 : Int64) (l7 : Int64) (l9 : Int64), fX1_raised_11 N zp n l5 l7 l9 = some rr → ∀ ls : Array Slot, lv_has ls 11 [(0, .ref po), (5, .long l5), (7, .long l7), (9, .long l9)] → W pg l e (headSpec wsX1_raised rmX1_raised).room s m ([.ref po, .long q0, .long q1] : List Value).toArray below meth c s.heap [] 0 0 (MQ below (SL rr) ([.ref po, .long q0, .long q1] : List Value).toArray s 0 0 (fun _ => False)) (F0 m 11 ls []) := by
    intro n
    induction n with
    | zero =>
      intro l5 l7 l9 h
      cases h
    | succ n ih =>
      intro l5 l7 l9 h ls hl
      rw [fX1_raised_11] at h
      refine lv_lload hx hb dX1_raised_11 (lv_at hl 3 rfl) ?_
      refine lv_lconst (v := 0) hx hb dX1_raised_13 (by decide) ?_
      refine lc_le (tgt := 58) hx hb dX1_raised_14 dX1_raised_15 (by decide) (fun c1 => ?_) (fun c1 => ?_)
      · have h := ite_t c1 h
        refine lv_lload hx hb dX1_raised_58 (lv_at hl 1 rfl) ?_
        exact reL hx hb hr hlocks h dX1_raised_60
      · have h := ite_f c1 h
        refine lv_lload hx hb dX1_raised_18 (lv_at hl 3 rfl) ?_
        refine lv_ldc2 (v := 2) hx hb hown (hts _ lkX1_raised_1) dX1_raised_20 ?_
        refine lv_lremJ hx hb dX1_raised_23 (by decide) ?_
        refine lv_lconst (v := 1) hx hb dX1_raised_24 (by decide) ?_
        refine lc_ne (tgt := 39) hx hb dX1_raised_25 dX1_raised_26 (by decide) (fun c2 => ?_) (fun c2 => ?_)
        · have h := ite_f c2 h
          refine lv_aload_n hx hb dX1_raised_39 rfl (lv_at hl 0 rfl) ?_
          refine lv_lload hx hb dX1_raised_40 (lv_at hl 2 rfl) ?_
          refine lv_lload hx hb dX1_raised_42 (lv_at hl 2 rfl) ?_
          obtain ⟨r3, h4, h⟩ := bind_s h
          refine kl (kV (As := [.long l7, .long l7]) (rest := []) C0 (kX1_product l D cJ cZ po co fo zp zr zh zb zt l7 l7 r3 h4) gX1_raised_X1_product rfl ⟨rfl, rfl⟩ hdX1_product ⟨Nat.le_of_ble_eq_true rfl, Nat.le_of_ble_eq_true rfl⟩ 1 0 rfl rfl rfl hP hE hl rfl rfl (Nat.le_of_ble_eq_true rfl) dX1_raised_44 (Nat.zero_le _) (Nat.zero_le _)) ?_
          refine lv_lstore (lv' := [(7, .long r3), (0, .ref po), (5, .long l5), (9, .long l9)]) hx hb dX1_raised_47 hl (by decide) rfl (fun ls hl => ?_)
          refine lv_lload hx hb dX1_raised_49 (lv_at hl 3 rfl) ?_
          refine lv_iconst (v := 1) hx hb dX1_raised_51 (by decide) ?_
          refine lv_lshr (v := jshr l9 1) hx hb dX1_raised_52 rfl ?_
          obtain ⟨w5, ew5, h⟩ := bnd_s h
          refine tl ew5.symm ?_
          refine lv_lstore (lv' := [(9, .long w5), (7, .long r3), (0, .ref po), (5, .long l5)]) hx hb dX1_raised_53 hl (by decide) rfl (fun ls hl => ?_)
          refine lv_goto (tgt := 11) hx hb dX1_raised_55 (by decide) ?_
          exact ih l5 r3 w5 h ls (lv_sub hl [2, 3, 1, 0] rfl)
        · have h := ite_t c2 h
          refine lv_aload_n hx hb dX1_raised_29 rfl (lv_at hl 0 rfl) ?_
          refine lv_lload hx hb dX1_raised_30 (lv_at hl 1 rfl) ?_
          refine lv_lload hx hb dX1_raised_32 (lv_at hl 2 rfl) ?_
          obtain ⟨r6, h7, h⟩ := bind_s h
          refine kl (kV (As := [.long l5, .long l7]) (rest := []) C0 (kX1_product l D cJ cZ po co fo zp zr zh zb zt l5 l7 r6 h7) gX1_raised_X1_product rfl ⟨rfl, rfl⟩ hdX1_product ⟨Nat.le_of_ble_eq_true rfl, Nat.le_of_ble_eq_true rfl⟩ 1 0 rfl rfl rfl hP hE hl rfl rfl (Nat.le_of_ble_eq_true rfl) dX1_raised_34 (Nat.zero_le _) (Nat.zero_le _)) ?_
          refine lv_lstore (lv' := [(5, .long r6), (0, .ref po), (7, .long l7), (9, .long l9)]) hx hb dX1_raised_37 hl (by decide) rfl (fun ls hl => ?_)
          refine lv_aload_n hx hb dX1_raised_39 rfl (lv_at hl 1 rfl) ?_
          refine lv_lload hx hb dX1_raised_40 (lv_at hl 2 rfl) ?_
          refine lv_lload hx hb dX1_raised_42 (lv_at hl 2 rfl) ?_
          obtain ⟨r8, h9, h⟩ := bind_s h
          refine kl (kV (As := [.long l7, .long l7]) (rest := []) C0 (kX1_product l D cJ cZ po co fo zp zr zh zb zt l7 l7 r8 h9) gX1_raised_X1_product rfl ⟨rfl, rfl⟩ hdX1_product ⟨Nat.le_of_ble_eq_true rfl, Nat.le_of_ble_eq_true rfl⟩ 1 0 rfl rfl rfl hP hE hl rfl rfl (Nat.le_of_ble_eq_true rfl) dX1_raised_44 (Nat.zero_le _) (Nat.zero_le _)) ?_
          refine lv_lstore (lv' := [(7, .long r8), (5, .long r6), (0, .ref po), (9, .long l9)]) hx hb dX1_raised_47 hl (by decide) rfl (fun ls hl => ?_)
          refine lv_lload hx hb dX1_raised_49 (lv_at hl 3 rfl) ?_
          refine lv_iconst (v := 1) hx hb dX1_raised_51 (by decide) ?_
          refine lv_lshr (v := jshr l9 1) hx hb dX1_raised_52 rfl ?_
          obtain ⟨w10, ew10, h⟩ := bnd_s h
          refine tl ew10.symm ?_
          refine lv_lstore (lv' := [(9, .long w10), (7, .long r8), (5, .long r6), (0, .ref po)]) hx hb dX1_raised_53 hl (by decide) rfl (fun ls hl => ?_)
          refine lv_goto (tgt := 11) hx hb dX1_raised_55 (by decide) ?_
          exact ih r6 r8 w10 h ls (lv_sub hl [3, 2, 1, 0] rfl)
  unfold fX1_raised at h
  refine lv_ldc2 (v := 2147483648) hx hb hown (hts _ lkX1_raised_0) dX1_raised_0 ?_
  refine lv_lstore (lv' := [(5, .long 2147483648), (0, .ref po), (1, .long q0), (3, .long q1)]) hx hb dX1_raised_3 hl (by decide) rfl (fun ls hl => ?_)
  refine lv_lload_n hx hb dX1_raised_5 rfl (lv_at hl 2 rfl) ?_
  refine lv_lstore (lv' := [(7, .long q0), (5, .long 2147483648), (0, .ref po), (1, .long q0), (3, .long q1)]) hx hb dX1_raised_6 hl (by decide) rfl (fun ls hl => ?_)
  refine lv_lload_n hx hb dX1_raised_8 rfl (lv_at hl 4 rfl) ?_
  refine lv_lstore (lv' := [(9, .long q1), (7, .long q0), (5, .long 2147483648), (0, .ref po), (1, .long q0), (3, .long q1)]) hx hb dX1_raised_9 hl (by decide) rfl (fun ls hl => ?_)
  exact loop11 N 2147483648 q0 q1 h ls (lv_sub hl [3, 2, 1, 0] rfl)
def fX1_bitsBehindHighest  (zr : Int64) : Option (Int32) :=
  (fJ13_numberOfLeadingZeros_95d88 zr).bind fun r1 =>
  some (63 - r1)
abbrev rmX1_bitsBehindHighest : Room := { frames := 2, cells := 0, slots := 0, locals := 43 }
theorem lkX1_bitsBehindHighest_0 : (.fieldLink RX1 25 "PairingDesk$Pairing" "\x72" "J" : Cond) ∈ wsX1_bitsBehindHighest := by decide +kernel
theorem iwX1_bitsBehindHighest_1 : ∀ w ∈ wsX10, w ∈ wsX1_bitsBehindHighest := by decide +kernel
theorem hdX1_bitsBehindHighest : KN yX1_bitsBehindHighest 0 := by decide +kernel
set_option maxHeartbeats 4000000 in
set_option maxRecDepth 100000 in
theorem kX1_bitsBehindHighest (l : Launch) (D : va_G) (cJ cZ : ClassId) (po co fo : Nat) (zp : Int64) (zr : Int64) (zh : Int64) (zb : Int64) (zt : Int32) (rr : Int32) (h : fX1_bitsBehindHighest zr = some rr) : Met l yX1_bitsBehindHighest wsX1_bitsBehindHighest rmX1_bitsBehindHighest (PP D cJ cZ [.ref po] [(po, .inr (1, [.ref co, .long zp, .long zr])), (co, .inr (0, [.ref fo, .long zp, .long zr, .long zh, .long zb, .int zt])), (fo, .inr (2, [.long zp]))]) (SI rr) 0 0 (fun _ => False) := by
  refine Met.ofW (cc := cX1_bitsBehindHighest) (maxL := 1) (ret := some .int) (by decide) rfl ?_
  intro pg e s m args below meth c s₁ B hml hv
  obtain ⟨rfl, hP, hE⟩ := hv
  have hx := B.exec
  have hb := B.bytes
  have hr := B.returns
  have hlocks := B.notSynchronized
  have C0 : CallFix pg m c cX1_bitsBehindHighest 1 s ([.ref po] : List Value).toArray wsX1_bitsBehindHighest RX1 := ⟨hx, hb, hml, findClass_of_methodNamed B.named, atoms_spec (ws := wsX1_bitsBehindHighest) B.pre⟩
  have hown := C0.2.2.2.1
  have hts := C0.2.2.2.2
  have hl := lv_entry ([.ref po]) (n := 1) (Nat.le_of_ble_eq_true rfl)
  rw [lg_entry_eq]
  generalize (lg_sl ([.ref po]) ++ List.replicate (1 - (lg_sl ([.ref po])).length) Slot.unset).toArray = ls at hl ⊢
  have hl : lv_has ls 1 [(0, .ref po)] := hl
  unfold fX1_bitsBehindHighest at h
  refine lv_bipush (v := 63) hx hb dX1_bitsBehindHighest_0 (by decide) ?_
  refine lv_aload_n hx hb dX1_bitsBehindHighest_2 rfl (lv_at hl 0 rfl) ?_
  refine va_get (D := D) (ci := 1) (v := .long zr) (C := RX1) (T := TX1) (N := 3) hx hb hts iwX1_bitsBehindHighest_1 hown hE.1 hP 0 rfl rfl 2 (by decide) (hts _ lkX1_bitsBehindHighest_0) (fun _ h9 => h9) rfl dX1_bitsBehindHighest_3 ?_
  obtain ⟨r1, h2, h⟩ := bind_s h
  refine ki (kS (As := [.long zr]) (rest := [.int 63]) C0 (kJ13_numberOfLeadingZeros_95d88 l D cJ cZ zr r1 h2) gX1_bitsBehindHighest_J13_numberOfLeadingZeros_95d88 rfl ⟨rfl, rfl⟩ hdJ13_numberOfLeadingZeros_95d88 ⟨Nat.le_of_ble_eq_true rfl, Nat.le_of_ble_eq_true rfl⟩ (hP.sub [] rfl) hE hl rfl rfl (Nat.le_of_ble_eq_true rfl) dX1_bitsBehindHighest_6 (Nat.zero_le _) (Nat.zero_le _)) ?_
  refine lv_isub hx hb dX1_bitsBehindHighest_9 ?_
  exact reI hx hb hr hlocks h dX1_bitsBehindHighest_10
def fX1_linesOf  (zr : Int64) (q0 : Int64) (q1 : Int64) : Option (Int32) :=
  if q0 = (-1) then
    some 0
  else
    if q1 = (-1) then
      some 0
    else
      (fX1_bitsBehindHighest zr).bind fun r3 =>
      (fJ13_bitCount_95d88 zr).bind fun r5 =>
      some ((r3 + r5) - 1)
abbrev rmX1_linesOf : Room := { frames := 3, cells := 0, slots := 0, locals := 63 }
theorem lkX1_linesOf_0 : (.constantLong RX1 30 (-1) : Cond) ∈ wsX1_linesOf := by decide +kernel
theorem lkX1_linesOf_1 : (.fieldLink RX1 25 "PairingDesk$Pairing" "\x72" "J" : Cond) ∈ wsX1_linesOf := by decide +kernel
theorem iwX1_linesOf_1 : ∀ w ∈ wsX10, w ∈ wsX1_linesOf := by decide +kernel
theorem hdX1_linesOf : KN yX1_linesOf 2 := by decide +kernel
set_option maxHeartbeats 4000000 in
set_option maxRecDepth 100000 in
theorem kX1_linesOf (l : Launch) (D : va_G) (cJ cZ : ClassId) (po co fo : Nat) (zp : Int64) (zr : Int64) (zh : Int64) (zb : Int64) (zt : Int32) (q0 : Int64) (q1 : Int64) (rr : Int32) (h : fX1_linesOf zr q0 q1 = some rr) : Met l yX1_linesOf wsX1_linesOf rmX1_linesOf (PP D cJ cZ [.ref po, .long q0, .long q1] [(po, .inr (1, [.ref co, .long zp, .long zr])), (co, .inr (0, [.ref fo, .long zp, .long zr, .long zh, .long zb, .int zt])), (fo, .inr (2, [.long zp]))]) (SI rr) 0 0 (fun _ => False) := by
  refine Met.ofW (cc := cX1_linesOf) (maxL := 5) (ret := some .int) (by decide) rfl ?_
  intro pg e s m args below meth c s₁ B hml hv
  obtain ⟨rfl, hP, hE⟩ := hv
  have hx := B.exec
  have hb := B.bytes
  have hr := B.returns
  have hlocks := B.notSynchronized
  have C0 : CallFix pg m c cX1_linesOf 5 s ([.ref po, .long q0, .long q1] : List Value).toArray wsX1_linesOf RX1 := ⟨hx, hb, hml, findClass_of_methodNamed B.named, atoms_spec (ws := wsX1_linesOf) B.pre⟩
  have hown := C0.2.2.2.1
  have hts := C0.2.2.2.2
  have hl := lv_entry ([.ref po, .long q0, .long q1]) (n := 5) (Nat.le_of_ble_eq_true rfl)
  rw [lg_entry_eq]
  generalize (lg_sl ([.ref po, .long q0, .long q1]) ++ List.replicate (5 - (lg_sl ([.ref po, .long q0, .long q1])).length) Slot.unset).toArray = ls at hl ⊢
  have hl : lv_has ls 5 [(0, .ref po), (1, .long q0), (3, .long q1)] := hl
  unfold fX1_linesOf at h
  refine lv_lload_n hx hb dX1_linesOf_0 rfl (lv_at hl 1 rfl) ?_
  refine lv_ldc2 (v := (-1)) hx hb hown (hts _ lkX1_linesOf_0) dX1_linesOf_1 ?_
  refine lc_eq (tgt := 16) hx hb dX1_linesOf_4 dX1_linesOf_5 (by decide) (fun c1 => ?_) (fun c1 => ?_)
  · have h := ite_t c1 h
    refine lv_iconst (v := 0) hx hb dX1_linesOf_16 (by decide) ?_
    refine lv_goto (tgt := 34) hx hb dX1_linesOf_17 (by decide) ?_
    exact reI hx hb hr hlocks h dX1_linesOf_34
  · have h := ite_f c1 h
    refine lv_lload_n hx hb dX1_linesOf_8 rfl (lv_at hl 2 rfl) ?_
    refine lv_ldc2 (v := (-1)) hx hb hown (hts _ lkX1_linesOf_0) dX1_linesOf_9 ?_
    refine lc_ne (tgt := 20) hx hb dX1_linesOf_12 dX1_linesOf_13 (by decide) (fun c2 => ?_) (fun c2 => ?_)
    · have h := ite_f c2 h
      refine lv_aload_n hx hb dX1_linesOf_20 rfl (lv_at hl 0 rfl) ?_
      obtain ⟨r3, h4, h⟩ := bind_s h
      refine ki (kV (As := []) (rest := []) C0 (kX1_bitsBehindHighest l D cJ cZ po co fo zp zr zh zb zt r3 h4) gX1_linesOf_X1_bitsBehindHighest rfl ⟨rfl, rfl⟩ hdX1_bitsBehindHighest ⟨Nat.le_of_ble_eq_true rfl, Nat.le_of_ble_eq_true rfl⟩ 1 0 rfl rfl rfl hP hE hl rfl rfl (Nat.le_of_ble_eq_true rfl) dX1_linesOf_21 (Nat.zero_le _) (Nat.zero_le _)) ?_
      refine lv_aload_n hx hb dX1_linesOf_24 rfl (lv_at hl 0 rfl) ?_
      refine va_get (D := D) (ci := 1) (v := .long zr) (C := RX1) (T := TX1) (N := 3) hx hb hts iwX1_linesOf_1 hown hE.1 hP 0 rfl rfl 2 (by decide) (hts _ lkX1_linesOf_1) (fun _ h9 => h9) rfl dX1_linesOf_25 ?_
      obtain ⟨r5, h6, h⟩ := bind_s h
      refine ki (kS (As := [.long zr]) (rest := [.int r3]) C0 (kJ13_bitCount_95d88 l D cJ cZ zr r5 h6) gX1_linesOf_J13_bitCount_95d88 rfl ⟨rfl, rfl⟩ hdJ13_bitCount_95d88 ⟨Nat.le_of_ble_eq_true rfl, Nat.le_of_ble_eq_true rfl⟩ (hP.sub [] rfl) hE hl rfl rfl (Nat.le_of_ble_eq_true rfl) dX1_linesOf_28 (Nat.zero_le _) (Nat.zero_le _)) ?_
      refine lv_iadd hx hb dX1_linesOf_31 ?_
      refine lv_iconst (v := 1) hx hb dX1_linesOf_32 (by decide) ?_
      refine lv_isub hx hb dX1_linesOf_33 ?_
      exact reI hx hb hr hlocks h dX1_linesOf_34
    · have h := ite_t c2 h
      refine lv_iconst (v := 0) hx hb dX1_linesOf_16 (by decide) ?_
      refine lv_goto (tgt := 34) hx hb dX1_linesOf_17 (by decide) ?_
      exact reI hx hb hr hlocks h dX1_linesOf_34
def fX1_line (N : Nat) (zp : Int64) (q0 : Int64) (q1 : Int64) (q2 : Int64) : Option (Int64) :=
  if q0 = (-1) then
    some 2147483648
  else
    if q1 = (-1) then
      some 2147483648
    else
      (fX3_upper q2).bind fun r3 =>
      if zp = 0 then none else
      (fX3_upper q0).bind fun r6 =>
      (fX2_difference zp (jrem (zp - r3) zp) r6).bind fun r8 =>
      (fX0_areOpposite zp q0 q1).bind fun r10 =>
      if (bI r10) = 0 then
        (fX0_slope N zp q0 q1).bind fun r13 =>
        (fX2_product zp r13 r8).bind fun r15 =>
        (fX3_lower q0).bind fun r17 =>
        (fX2_difference zp (jrem (zp - r17) zp) r15).bind fun r19 =>
        (fX3_lower q2).bind fun r21 =>
        (fX3_joined r19 r21).bind fun r23 =>
        some r23
      else
        (fX3_joined r8 0).bind fun r25 =>
        some r25
abbrev rmX1_line : Room := { frames := 2, cells := 0, slots := 0, locals := 67 }
theorem lkX1_line_0 : (.constantLong RX1 30 (-1) : Cond) ∈ wsX1_line := by decide +kernel
theorem lkX1_line_1 : (.constantLong RX1 47 (2147483648) : Cond) ∈ wsX1_line := by decide +kernel
theorem lkX1_line_2 : (.fieldLink RX1 9 "PairingDesk$Pairing" "curve" "LPairingDesk$Curve;" : Cond) ∈ wsX1_line := by decide +kernel
theorem lkX1_line_3 : (.fieldLink RX1 77 "PairingDesk$Curve" "field" "LPairingDesk$PrimeField;" : Cond) ∈ wsX1_line := by decide +kernel
theorem lkX1_line_4 : (.fieldLink RX1 21 "PairingDesk$Pairing" "p" "J" : Cond) ∈ wsX1_line := by decide +kernel
theorem lkX1_line_5 : (.initialized RX3 : Cond) ∈ wsX1_line := by decide +kernel
theorem lkX1_line_6 : (.static yX3_upper : Cond) ∈ wsX1_line := by decide +kernel
theorem lkX1_line_7 : (.static yX3_lower : Cond) ∈ wsX1_line := by decide +kernel
theorem lkX1_line_8 : (.static yX3_joined : Cond) ∈ wsX1_line := by decide +kernel
theorem iwX1_line_0 : ∀ w ∈ wsX00, w ∈ wsX1_line := by decide +kernel
theorem iwX1_line_1 : ∀ w ∈ wsX10, w ∈ wsX1_line := by decide +kernel
theorem hdX1_line : KN yX1_line 3 := by decide +kernel
set_option maxHeartbeats 4000000 in
set_option maxRecDepth 100000 in
theorem kX1_line (l : Launch) (D : va_G) (cJ cZ : ClassId) (po co fo : Nat) (N : Nat) (zp : Int64) (zr : Int64) (zh : Int64) (zb : Int64) (zt : Int32) (q0 : Int64) (q1 : Int64) (q2 : Int64) (rr : Int64) (h : fX1_line N zp q0 q1 q2 = some rr) : Met l yX1_line wsX1_line rmX1_line (PP D cJ cZ [.ref po, .long q0, .long q1, .long q2] [(po, .inr (1, [.ref co, .long zp, .long zr])), (co, .inr (0, [.ref fo, .long zp, .long zr, .long zh, .long zb, .int zt])), (fo, .inr (2, [.long zp]))]) (SL rr) 0 0 (fun _ => False) := by
  refine Met.ofW (cc := cX1_line) (maxL := 11) (ret := some .long) (by decide) rfl ?_
  intro pg e s m args below meth c s₁ B hml hv
  obtain ⟨rfl, hP, hE⟩ := hv
  have hx := B.exec
  have hb := B.bytes
  have hr := B.returns
  have hlocks := B.notSynchronized
  have C0 : CallFix pg m c cX1_line 11 s ([.ref po, .long q0, .long q1, .long q2] : List Value).toArray wsX1_line RX1 := ⟨hx, hb, hml, findClass_of_methodNamed B.named, atoms_spec (ws := wsX1_line) B.pre⟩
  have hown := C0.2.2.2.1
  have hts := C0.2.2.2.2
  have hl := lv_entry ([.ref po, .long q0, .long q1, .long q2]) (n := 11) (Nat.le_of_ble_eq_true rfl)
  rw [lg_entry_eq]
  generalize (lg_sl ([.ref po, .long q0, .long q1, .long q2]) ++ List.replicate (11 - (lg_sl ([.ref po, .long q0, .long q1, .long q2])).length) Slot.unset).toArray = ls at hl ⊢
  have hl : lv_has ls 11 [(0, .ref po), (1, .long q0), (3, .long q1), (5, .long q2)] := hl
  unfold fX1_line at h
  refine lv_lload_n hx hb dX1_line_0 rfl (lv_at hl 1 rfl) ?_
  refine lv_ldc2 (v := (-1)) hx hb hown (hts _ lkX1_line_0) dX1_line_1 ?_
  refine lc_eq (tgt := 16) hx hb dX1_line_4 dX1_line_5 (by decide) (fun c1 => ?_) (fun c1 => ?_)
  · have h := ite_t c1 h
    refine lv_ldc2 (v := 2147483648) hx hb hown (hts _ lkX1_line_1) dX1_line_16 ?_
    exact reL hx hb hr hlocks h dX1_line_19
  · have h := ite_f c1 h
    refine lv_lload_n hx hb dX1_line_8 rfl (lv_at hl 2 rfl) ?_
    refine lv_ldc2 (v := (-1)) hx hb hown (hts _ lkX1_line_0) dX1_line_9 ?_
    refine lc_ne (tgt := 20) hx hb dX1_line_12 dX1_line_13 (by decide) (fun c2 => ?_) (fun c2 => ?_)
    · have h := ite_f c2 h
      refine lv_aload_n hx hb dX1_line_20 rfl (lv_at hl 0 rfl) ?_
      refine va_get (D := D) (ci := 1) (v := .ref co) (C := RX1) (T := TX1) (N := 3) hx hb hts iwX1_line_1 hown hE.1 hP 0 rfl rfl 0 (by decide) (hts _ lkX1_line_2) (fun _ h9 => h9) rfl dX1_line_21 ?_
      refine va_get (D := D) (ci := 0) (v := .ref fo) (C := RX0) (T := TX0) (N := 6) hx hb hts iwX1_line_0 hown hE.1 hP 1 rfl rfl 0 (by decide) (hts _ lkX1_line_3) (fun _ h9 => h9) rfl dX1_line_24 ?_
      refine lv_aload_n hx hb dX1_line_27 rfl (lv_at hl 0 rfl) ?_
      refine va_get (D := D) (ci := 1) (v := .long zp) (C := RX1) (T := TX1) (N := 3) hx hb hts iwX1_line_1 hown hE.1 hP 0 rfl rfl 1 (by decide) (hts _ lkX1_line_4) (fun _ h9 => h9) rfl dX1_line_28 ?_
      refine lv_lload hx hb dX1_line_31 (lv_at hl 3 rfl) ?_
      obtain ⟨r3, h4, h⟩ := bind_s h
      refine kl (kN (As := [.long q2]) (rest := [.long zp, .ref fo]) C0 (kX3_upper l D cJ cZ q2 r3 h4) gX1_line_X3_upper_n32 rfl ⟨rfl, rfl⟩ hE.2.2.2.2.2.1 (hts _ lkX1_line_5) (hts _ lkX1_line_6) hdX3_upper ⟨Nat.le_of_ble_eq_true rfl, Nat.le_of_ble_eq_true rfl⟩ (hP.sub [] rfl) hE hl rfl rfl (Nat.le_of_ble_eq_true rfl) dX1_line_33 (Nat.zero_le _) (Nat.zero_le _)) ?_
      refine lv_lsub hx hb dX1_line_36 ?_
      refine lv_aload_n hx hb dX1_line_37 rfl (lv_at hl 0 rfl) ?_
      refine va_get (D := D) (ci := 1) (v := .long zp) (C := RX1) (T := TX1) (N := 3) hx hb hts iwX1_line_1 hown hE.1 hP 0 rfl rfl 1 (by decide) (hts _ lkX1_line_4) (fun _ h9 => h9) rfl dX1_line_38 ?_
      obtain ⟨c5, h⟩ := ite_n h
      refine lv_lremJ hx hb dX1_line_41 c5 ?_
      refine lv_lload_n hx hb dX1_line_42 rfl (lv_at hl 1 rfl) ?_
      obtain ⟨r6, h7, h⟩ := bind_s h
      refine kl (kN (As := [.long q0]) (rest := [.long (jrem (zp - r3) zp), .ref fo]) C0 (kX3_upper l D cJ cZ q0 r6 h7) gX1_line_X3_upper_n32 rfl ⟨rfl, rfl⟩ hE.2.2.2.2.2.1 (hts _ lkX1_line_5) (hts _ lkX1_line_6) hdX3_upper ⟨Nat.le_of_ble_eq_true rfl, Nat.le_of_ble_eq_true rfl⟩ (hP.sub [] rfl) hE hl rfl rfl (Nat.le_of_ble_eq_true rfl) dX1_line_43 (Nat.zero_le _) (Nat.zero_le _)) ?_
      obtain ⟨r8, h9, h⟩ := bind_s h
      refine kl (kV (As := [.long (jrem (zp - r3) zp), .long r6]) (rest := []) C0 (kX2_difference l D cJ cZ fo zp (jrem (zp - r3) zp) r6 r8 h9) gX1_line_X2_difference rfl ⟨rfl, rfl⟩ hdX2_difference ⟨Nat.le_of_ble_eq_true rfl, Nat.le_of_ble_eq_true rfl⟩ 2 0 rfl rfl rfl (hP.sub [2] rfl) hE hl rfl rfl (Nat.le_of_ble_eq_true rfl) dX1_line_46 (Nat.zero_le _) (Nat.zero_le _)) ?_
      refine lv_lstore (lv' := [(7, .long r8), (0, .ref po), (1, .long q0), (3, .long q1), (5, .long q2)]) hx hb dX1_line_49 hl (by decide) rfl (fun ls hl => ?_)
      refine lv_aload_n hx hb dX1_line_51 rfl (lv_at hl 1 rfl) ?_
      refine va_get (D := D) (ci := 1) (v := .ref co) (C := RX1) (T := TX1) (N := 3) hx hb hts iwX1_line_1 hown hE.1 hP 0 rfl rfl 0 (by decide) (hts _ lkX1_line_2) (fun _ h9 => h9) rfl dX1_line_52 ?_
      refine lv_lload_n hx hb dX1_line_55 rfl (lv_at hl 2 rfl) ?_
      refine lv_lload_n hx hb dX1_line_56 rfl (lv_at hl 3 rfl) ?_
      obtain ⟨r10, h11, h⟩ := bind_s h
      refine ki (kV (As := [.long q0, .long q1]) (rest := []) C0 (kX0_areOpposite l D cJ cZ co fo zp zr zh zb zt q0 q1 r10 h11) gX1_line_X0_areOpposite rfl ⟨rfl, rfl⟩ hdX0_areOpposite ⟨Nat.le_of_ble_eq_true rfl, Nat.le_of_ble_eq_true rfl⟩ 0 0 rfl rfl rfl (hP.sub [1, 2] rfl) hE hl rfl rfl (Nat.le_of_ble_eq_true rfl) dX1_line_57 (Nat.zero_le _) (Nat.zero_le _)) ?_
      refine lv_if_eq (tgt := 70) hx hb dX1_line_60 (by decide) (fun c12 => ?_) (fun c12 => ?_)
      · have h := ite_t c12 h
        refine lv_aload_n hx hb dX1_line_70 rfl (lv_at hl 1 rfl) ?_
        refine va_get (D := D) (ci := 1) (v := .ref co) (C := RX1) (T := TX1) (N := 3) hx hb hts iwX1_line_1 hown hE.1 hP 0 rfl rfl 0 (by decide) (hts _ lkX1_line_2) (fun _ h9 => h9) rfl dX1_line_71 ?_
        refine va_get (D := D) (ci := 0) (v := .ref fo) (C := RX0) (T := TX0) (N := 6) hx hb hts iwX1_line_0 hown hE.1 hP 1 rfl rfl 0 (by decide) (hts _ lkX1_line_3) (fun _ h9 => h9) rfl dX1_line_74 ?_
        refine lv_aload_n hx hb dX1_line_77 rfl (lv_at hl 1 rfl) ?_
        refine va_get (D := D) (ci := 1) (v := .ref co) (C := RX1) (T := TX1) (N := 3) hx hb hts iwX1_line_1 hown hE.1 hP 0 rfl rfl 0 (by decide) (hts _ lkX1_line_2) (fun _ h9 => h9) rfl dX1_line_78 ?_
        refine lv_lload_n hx hb dX1_line_81 rfl (lv_at hl 2 rfl) ?_
        refine lv_lload_n hx hb dX1_line_82 rfl (lv_at hl 3 rfl) ?_
        obtain ⟨r13, h14, h⟩ := bind_s h
        refine kl (kV (As := [.long q0, .long q1]) (rest := [.ref fo]) C0 (kX0_slope l D cJ cZ co fo N zp zr zh zb zt q0 q1 r13 h14) gX1_line_X0_slope rfl ⟨rfl, rfl⟩ hdX0_slope ⟨Nat.le_of_ble_eq_true rfl, Nat.le_of_ble_eq_true rfl⟩ 0 0 rfl rfl rfl (hP.sub [1, 2] rfl) hE hl rfl rfl (Nat.le_of_ble_eq_true rfl) dX1_line_83 (Nat.zero_le _) (Nat.zero_le _)) ?_
        refine lv_lload hx hb dX1_line_86 (lv_at hl 0 rfl) ?_
        obtain ⟨r15, h16, h⟩ := bind_s h
        refine kl (kV (As := [.long r13, .long r8]) (rest := []) C0 (kX2_product l D cJ cZ fo zp r13 r8 r15 h16) gX1_line_X2_product rfl ⟨rfl, rfl⟩ hdX2_product ⟨Nat.le_of_ble_eq_true rfl, Nat.le_of_ble_eq_true rfl⟩ 2 0 rfl rfl rfl (hP.sub [2] rfl) hE hl rfl rfl (Nat.le_of_ble_eq_true rfl) dX1_line_88 (Nat.zero_le _) (Nat.zero_le _)) ?_
        refine lv_lstore (lv' := [(9, .long r15), (7, .long r8), (0, .ref po), (1, .long q0), (3, .long q1), (5, .long q2)]) hx hb dX1_line_91 hl (by decide) rfl (fun ls hl => ?_)
        refine lv_aload_n hx hb dX1_line_93 rfl (lv_at hl 2 rfl) ?_
        refine va_get (D := D) (ci := 1) (v := .ref co) (C := RX1) (T := TX1) (N := 3) hx hb hts iwX1_line_1 hown hE.1 hP 0 rfl rfl 0 (by decide) (hts _ lkX1_line_2) (fun _ h9 => h9) rfl dX1_line_94 ?_
        refine va_get (D := D) (ci := 0) (v := .ref fo) (C := RX0) (T := TX0) (N := 6) hx hb hts iwX1_line_0 hown hE.1 hP 1 rfl rfl 0 (by decide) (hts _ lkX1_line_3) (fun _ h9 => h9) rfl dX1_line_97 ?_
        refine lv_aload_n hx hb dX1_line_100 rfl (lv_at hl 2 rfl) ?_
        refine va_get (D := D) (ci := 1) (v := .long zp) (C := RX1) (T := TX1) (N := 3) hx hb hts iwX1_line_1 hown hE.1 hP 0 rfl rfl 1 (by decide) (hts _ lkX1_line_4) (fun _ h9 => h9) rfl dX1_line_101 ?_
        refine lv_lload_n hx hb dX1_line_104 rfl (lv_at hl 3 rfl) ?_
        obtain ⟨r17, h18, h⟩ := bind_s h
        refine kl (kN (As := [.long q0]) (rest := [.long zp, .ref fo]) C0 (kX3_lower l D cJ cZ q0 r17 h18) gX1_line_X3_lower_n36 rfl ⟨rfl, rfl⟩ hE.2.2.2.2.2.2 (hts _ lkX1_line_5) (hts _ lkX1_line_7) hdX3_lower ⟨Nat.le_of_ble_eq_true rfl, Nat.le_of_ble_eq_true rfl⟩ (hP.sub [] rfl) hE hl rfl rfl (Nat.le_of_ble_eq_true rfl) dX1_line_105 (Nat.zero_le _) (Nat.zero_le _)) ?_
        refine lv_lsub hx hb dX1_line_108 ?_
        refine lv_aload_n hx hb dX1_line_109 rfl (lv_at hl 2 rfl) ?_
        refine va_get (D := D) (ci := 1) (v := .long zp) (C := RX1) (T := TX1) (N := 3) hx hb hts iwX1_line_1 hown hE.1 hP 0 rfl rfl 1 (by decide) (hts _ lkX1_line_4) (fun _ h9 => h9) rfl dX1_line_110 ?_
        refine lv_lremJ hx hb dX1_line_113 c5 ?_
        refine lv_lload hx hb dX1_line_114 (lv_at hl 0 rfl) ?_
        obtain ⟨r19, h20, h⟩ := bind_s h
        refine kl (kV (As := [.long (jrem (zp - r17) zp), .long r15]) (rest := []) C0 (kX2_difference l D cJ cZ fo zp (jrem (zp - r17) zp) r15 r19 h20) gX1_line_X2_difference rfl ⟨rfl, rfl⟩ hdX2_difference ⟨Nat.le_of_ble_eq_true rfl, Nat.le_of_ble_eq_true rfl⟩ 2 0 rfl rfl rfl (hP.sub [2] rfl) hE hl rfl rfl (Nat.le_of_ble_eq_true rfl) dX1_line_116 (Nat.zero_le _) (Nat.zero_le _)) ?_
        refine lv_lload hx hb dX1_line_119 (lv_at hl 5 rfl) ?_
        obtain ⟨r21, h22, h⟩ := bind_s h
        refine kl (kN (As := [.long q2]) (rest := [.long r19]) C0 (kX3_lower l D cJ cZ q2 r21 h22) gX1_line_X3_lower_n36 rfl ⟨rfl, rfl⟩ hE.2.2.2.2.2.2 (hts _ lkX1_line_5) (hts _ lkX1_line_7) hdX3_lower ⟨Nat.le_of_ble_eq_true rfl, Nat.le_of_ble_eq_true rfl⟩ (hP.sub [] rfl) hE hl rfl rfl (Nat.le_of_ble_eq_true rfl) dX1_line_121 (Nat.zero_le _) (Nat.zero_le _)) ?_
        obtain ⟨r23, h24, h⟩ := bind_s h
        refine kl (kN (As := [.long r19, .long r21]) (rest := []) C0 (kX3_joined l D cJ cZ r19 r21 r23 h24) gX1_line_X3_joined_n44 rfl ⟨rfl, rfl⟩ hE.2.2.2.2.1 (hts _ lkX1_line_5) (hts _ lkX1_line_8) hdX3_joined ⟨Nat.le_of_ble_eq_true rfl, Nat.le_of_ble_eq_true rfl⟩ (hP.sub [] rfl) hE hl rfl rfl (Nat.le_of_ble_eq_true rfl) dX1_line_124 (Nat.zero_le _) (Nat.zero_le _)) ?_
        exact reL hx hb hr hlocks h dX1_line_127
      · have h := ite_f c12 h
        refine lv_lload hx hb dX1_line_63 (lv_at hl 0 rfl) ?_
        refine lv_lconst (v := 0) hx hb dX1_line_65 (by decide) ?_
        obtain ⟨r25, h26, h⟩ := bind_s h
        refine kl (kN (As := [.long r8, .long 0]) (rest := []) C0 (kX3_joined l D cJ cZ r8 0 r25 h26) gX1_line_X3_joined_n44 rfl ⟨rfl, rfl⟩ hE.2.2.2.2.1 (hts _ lkX1_line_5) (hts _ lkX1_line_8) hdX3_joined ⟨Nat.le_of_ble_eq_true rfl, Nat.le_of_ble_eq_true rfl⟩ (hP.sub [] rfl) hE hl rfl rfl (Nat.le_of_ble_eq_true rfl) dX1_line_66 (Nat.zero_le _) (Nat.zero_le _)) ?_
        exact reL hx hb hr hlocks h dX1_line_69
    · have h := ite_t c2 h
      refine lv_ldc2 (v := 2147483648) hx hb hown (hts _ lkX1_line_1) dX1_line_16 ?_
      exact reL hx hb hr hlocks h dX1_line_19
def fX1_of_36 (N : Nat) (zp : Int64) (zr : Int64) (l1 : Int64) (l3 : Int64) : Nat → Int64 → Int64 → Int32 → Option (Int64)
  | 0, _, _, _ => none
  | n + 1, l5, l7, l9 =>
    if l9 < 0 then
      if zr = 0 then none else
      (fX1_raised N zp l5 (((zp * zp) - 1) / zr)).bind fun r8 =>
      some r8
    else
      (fX1_product zp l5 l5).bind fun r10 =>
      (fX1_line N zp l7 l7 l3).bind fun r12 =>
      (fX1_product zp r10 r12).bind fun r14 =>
      (fX0_sum N zp l7 l7).bind fun r16 =>
      if ((jshr zr l9) &&& 1) = 1 then
        (fX1_line N zp r16 l1 l3).bind fun r20 =>
        (fX1_product zp r14 r20).bind fun r22 =>
        (fX0_sum N zp r16 l1).bind fun r24 =>
        bnd (l9 + (-1)) fun w26 =>
        fX1_of_36 N zp zr l1 l3 n r22 r24 w26
      else
        bnd (l9 + (-1)) fun w19 =>
        fX1_of_36 N zp zr l1 l3 n r14 r16 w19
def fX1_of (N : Nat) (zp : Int64) (zr : Int64) (q0 : Int64) (q1 : Int64) : Option (Int64) :=
  if q0 = (-1) then
    some 2147483648
  else
    if q1 = (-1) then
      some 2147483648
    else
      (fX1_bitsBehindHighest zr).bind fun r3 =>
      bnd (r3 - 1) fun w5 =>
      fX1_of_36 N zp zr q0 q1 N 2147483648 q0 w5
abbrev rmX1_of : Room := { frames := 3, cells := 0, slots := 0, locals := 97 }
theorem lkX1_of_0 : (.constantLong RX1 30 (-1) : Cond) ∈ wsX1_of := by decide +kernel
theorem lkX1_of_1 : (.constantLong RX1 47 (2147483648) : Cond) ∈ wsX1_of := by decide +kernel
theorem lkX1_of_2 : (.fieldLink RX1 21 "PairingDesk$Pairing" "p" "J" : Cond) ∈ wsX1_of := by decide +kernel
theorem lkX1_of_3 : (.fieldLink RX1 25 "PairingDesk$Pairing" "\x72" "J" : Cond) ∈ wsX1_of := by decide +kernel
theorem lkX1_of_4 : (.fieldLink RX1 9 "PairingDesk$Pairing" "curve" "LPairingDesk$Curve;" : Cond) ∈ wsX1_of := by decide +kernel
theorem iwX1_of_1 : ∀ w ∈ wsX10, w ∈ wsX1_of := by decide +kernel
theorem hdX1_of : KN yX1_of 2 := by decide +kernel
set_option maxHeartbeats 4000000 in
set_option maxRecDepth 100000 in
theorem kX1_of (l : Launch) (D : va_G) (cJ cZ : ClassId) (po co fo : Nat) (N : Nat) (zp : Int64) (zr : Int64) (zh : Int64) (zb : Int64) (zt : Int32) (q0 : Int64) (q1 : Int64) (rr : Int64) (h : fX1_of N zp zr q0 q1 = some rr) : Met l yX1_of wsX1_of rmX1_of (PP D cJ cZ [.ref po, .long q0, .long q1] [(po, .inr (1, [.ref co, .long zp, .long zr])), (co, .inr (0, [.ref fo, .long zp, .long zr, .long zh, .long zb, .int zt])), (fo, .inr (2, [.long zp]))]) (SL rr) 0 0 (fun _ => False) := by
  refine Met.ofW (cc := cX1_of) (maxL := 10) (ret := some .long) (by decide) rfl ?_
  intro pg e s m args below meth c s₁ B hml hv
  obtain ⟨rfl, hP, hE⟩ := hv
  have hx := B.exec
  have hb := B.bytes
  have hr := B.returns
  have hlocks := B.notSynchronized
  have C0 : CallFix pg m c cX1_of 10 s ([.ref po, .long q0, .long q1] : List Value).toArray wsX1_of RX1 := ⟨hx, hb, hml, findClass_of_methodNamed B.named, atoms_spec (ws := wsX1_of) B.pre⟩
  have hown := C0.2.2.2.1
  have hts := C0.2.2.2.2
  have hl := lv_entry ([.ref po, .long q0, .long q1]) (n := 10) (Nat.le_of_ble_eq_true rfl)
  rw [lg_entry_eq]
  generalize (lg_sl ([.ref po, .long q0, .long q1]) ++ List.replicate (10 - (lg_sl ([.ref po, .long q0, .long q1])).length) Slot.unset).toArray = ls at hl ⊢
  have hl : lv_has ls 10 [(0, .ref po), (1, .long q0), (3, .long q1)] := hl
  have loop36 : ∀ (l1 : Int64) (l3 : Int64), ∀ (n : Nat) (l5 : Int64) (l7 : Int64) (l9 : Int32), fX1_of_36 N zp zr l1 l3 n l5 l7 l9 = some rr → ∀ ls : Array Slot, lv_has ls 10 [(0, .ref po), (1, .long l1), (3, .long l3), (5, .long l5), (7, .long l7), (9, .int l9)] → W pg l e (headSpec wsX1_of rmX1_of).room s m ([.ref po, .long q0, .long q1] : List Value).toArray below meth c s.heap [] 0 0 (MQ below (SL rr) ([.ref po, .long q0, .long q1] : List Value).toArray s 0 0 (fun _ => False)) (F0 m 36 ls []) := by
    intro l1 l3
    intro n
    induction n with
    | zero =>
      intro l5 l7 l9 h
      cases h
    | succ n ih =>
      intro l5 l7 l9 h ls hl
      rw [fX1_of_36] at h
      refine lv_iload hx hb dX1_of_36 (lv_at hl 5 rfl) ?_
      refine lv_if_lt (tgt := 125) hx hb dX1_of_38 (by decide) (fun c6 => ?_) (fun c6 => ?_)
      · have h := ite_t c6 h
        refine lv_aload_n hx hb dX1_of_125 rfl (lv_at hl 0 rfl) ?_
        refine lv_lload hx hb dX1_of_126 (lv_at hl 3 rfl) ?_
        refine lv_aload_n hx hb dX1_of_128 rfl (lv_at hl 0 rfl) ?_
        refine va_get (D := D) (ci := 1) (v := .long zp) (C := RX1) (T := TX1) (N := 3) hx hb hts iwX1_of_1 hown hE.1 hP 0 rfl rfl 1 (by decide) (hts _ lkX1_of_2) (fun _ h9 => h9) rfl dX1_of_129 ?_
        refine lv_aload_n hx hb dX1_of_132 rfl (lv_at hl 0 rfl) ?_
        refine va_get (D := D) (ci := 1) (v := .long zp) (C := RX1) (T := TX1) (N := 3) hx hb hts iwX1_of_1 hown hE.1 hP 0 rfl rfl 1 (by decide) (hts _ lkX1_of_2) (fun _ h9 => h9) rfl dX1_of_133 ?_
        refine lv_lmul hx hb dX1_of_136 ?_
        refine lv_lconst (v := 1) hx hb dX1_of_137 (by decide) ?_
        refine lv_lsub hx hb dX1_of_138 ?_
        refine lv_aload_n hx hb dX1_of_139 rfl (lv_at hl 0 rfl) ?_
        refine va_get (D := D) (ci := 1) (v := .long zr) (C := RX1) (T := TX1) (N := 3) hx hb hts iwX1_of_1 hown hE.1 hP 0 rfl rfl 2 (by decide) (hts _ lkX1_of_3) (fun _ h9 => h9) rfl dX1_of_140 ?_
        obtain ⟨c7, h⟩ := ite_n h
        refine lv_ldiv hx hb dX1_of_143 c7 ?_
        obtain ⟨r8, h9, h⟩ := bind_s h
        refine kl (kV (As := [.long l5, .long (((zp * zp) - 1) / zr)]) (rest := []) C0 (kX1_raised l D cJ cZ po co fo N zp zr zh zb zt l5 (((zp * zp) - 1) / zr) r8 h9) gX1_of_X1_raised rfl ⟨rfl, rfl⟩ hdX1_raised ⟨Nat.le_of_ble_eq_true rfl, Nat.le_of_ble_eq_true rfl⟩ 1 0 rfl rfl rfl hP hE hl rfl rfl (Nat.le_of_ble_eq_true rfl) dX1_of_144 (Nat.zero_le _) (Nat.zero_le _)) ?_
        exact reL hx hb hr hlocks h dX1_of_147
      · have h := ite_f c6 h
        refine lv_aload_n hx hb dX1_of_41 rfl (lv_at hl 0 rfl) ?_
        refine lv_aload_n hx hb dX1_of_42 rfl (lv_at hl 0 rfl) ?_
        refine lv_lload hx hb dX1_of_43 (lv_at hl 3 rfl) ?_
        refine lv_lload hx hb dX1_of_45 (lv_at hl 3 rfl) ?_
        obtain ⟨r10, h11, h⟩ := bind_s h
        refine kl (kV (As := [.long l5, .long l5]) (rest := [.ref po]) C0 (kX1_product l D cJ cZ po co fo zp zr zh zb zt l5 l5 r10 h11) gX1_of_X1_product rfl ⟨rfl, rfl⟩ hdX1_product ⟨Nat.le_of_ble_eq_true rfl, Nat.le_of_ble_eq_true rfl⟩ 1 0 rfl rfl rfl hP hE hl rfl rfl (Nat.le_of_ble_eq_true rfl) dX1_of_47 (Nat.zero_le _) (Nat.zero_le _)) ?_
        refine lv_aload_n hx hb dX1_of_50 rfl (lv_at hl 0 rfl) ?_
        refine lv_lload hx hb dX1_of_51 (lv_at hl 4 rfl) ?_
        refine lv_lload hx hb dX1_of_53 (lv_at hl 4 rfl) ?_
        refine lv_lload_n hx hb dX1_of_55 rfl (lv_at hl 2 rfl) ?_
        obtain ⟨r12, h13, h⟩ := bind_s h
        refine kl (kV (As := [.long l7, .long l7, .long l3]) (rest := [.long r10, .ref po]) C0 (kX1_line l D cJ cZ po co fo N zp zr zh zb zt l7 l7 l3 r12 h13) gX1_of_X1_line rfl ⟨rfl, rfl⟩ hdX1_line ⟨Nat.le_of_ble_eq_true rfl, Nat.le_of_ble_eq_true rfl⟩ 1 0 rfl rfl rfl hP hE hl rfl rfl (Nat.le_of_ble_eq_true rfl) dX1_of_56 (Nat.zero_le _) (Nat.zero_le _)) ?_
        obtain ⟨r14, h15, h⟩ := bind_s h
        refine kl (kV (As := [.long r10, .long r12]) (rest := []) C0 (kX1_product l D cJ cZ po co fo zp zr zh zb zt r10 r12 r14 h15) gX1_of_X1_product rfl ⟨rfl, rfl⟩ hdX1_product ⟨Nat.le_of_ble_eq_true rfl, Nat.le_of_ble_eq_true rfl⟩ 1 0 rfl rfl rfl hP hE hl rfl rfl (Nat.le_of_ble_eq_true rfl) dX1_of_59 (Nat.zero_le _) (Nat.zero_le _)) ?_
        refine lv_lstore (lv' := [(5, .long r14), (0, .ref po), (1, .long l1), (3, .long l3), (7, .long l7), (9, .int l9)]) hx hb dX1_of_62 hl (by decide) rfl (fun ls hl => ?_)
        refine lv_aload_n hx hb dX1_of_64 rfl (lv_at hl 1 rfl) ?_
        refine va_get (D := D) (ci := 1) (v := .ref co) (C := RX1) (T := TX1) (N := 3) hx hb hts iwX1_of_1 hown hE.1 hP 0 rfl rfl 0 (by decide) (hts _ lkX1_of_4) (fun _ h9 => h9) rfl dX1_of_65 ?_
        refine lv_lload hx hb dX1_of_68 (lv_at hl 4 rfl) ?_
        refine lv_lload hx hb dX1_of_70 (lv_at hl 4 rfl) ?_
        obtain ⟨r16, h17, h⟩ := bind_s h
        refine kl (kV (As := [.long l7, .long l7]) (rest := []) C0 (kX0_sum l D cJ cZ co fo N zp zr zh zb zt l7 l7 r16 h17) gX1_of_X0_sum rfl ⟨rfl, rfl⟩ hdX0_sum ⟨Nat.le_of_ble_eq_true rfl, Nat.le_of_ble_eq_true rfl⟩ 0 0 rfl rfl rfl (hP.sub [1, 2] rfl) hE hl rfl rfl (Nat.le_of_ble_eq_true rfl) dX1_of_72 (Nat.zero_le _) (Nat.zero_le _)) ?_
        refine lv_lstore (lv' := [(7, .long r16), (5, .long r14), (0, .ref po), (1, .long l1), (3, .long l3), (9, .int l9)]) hx hb dX1_of_75 hl (by decide) rfl (fun ls hl => ?_)
        refine lv_aload_n hx hb dX1_of_77 rfl (lv_at hl 2 rfl) ?_
        refine va_get (D := D) (ci := 1) (v := .long zr) (C := RX1) (T := TX1) (N := 3) hx hb hts iwX1_of_1 hown hE.1 hP 0 rfl rfl 2 (by decide) (hts _ lkX1_of_3) (fun _ h9 => h9) rfl dX1_of_78 ?_
        refine lv_iload hx hb dX1_of_81 (lv_at hl 5 rfl) ?_
        refine lv_lshr (v := jshr zr l9) hx hb dX1_of_83 rfl ?_
        refine lv_lconst (v := 1) hx hb dX1_of_84 (by decide) ?_
        refine lv_land hx hb dX1_of_85 ?_
        refine lv_lconst (v := 1) hx hb dX1_of_86 (by decide) ?_
        refine lc_ne (tgt := 119) hx hb dX1_of_87 dX1_of_88 (by decide) (fun c18 => ?_) (fun c18 => ?_)
        · have h := ite_f c18 h
          obtain ⟨w19, ew19, h⟩ := bnd_s h
          refine lv_iinc (v := w19) (lv' := [(9, .int w19), (7, .long r16), (5, .long r14), (0, .ref po), (1, .long l1), (3, .long l3)]) hx hb dX1_of_119 hl (k := 5) rfl (by rw [ew19]; rfl) (by decide) rfl (fun ls hl => ?_)
          refine lv_goto (tgt := 36) hx hb dX1_of_122 (by decide) ?_
          exact ih r14 r16 w19 h ls (lv_sub hl [3, 4, 5, 2, 1, 0] rfl)
        · have h := ite_t c18 h
          refine lv_aload_n hx hb dX1_of_91 rfl (lv_at hl 2 rfl) ?_
          refine lv_lload hx hb dX1_of_92 (lv_at hl 1 rfl) ?_
          refine lv_aload_n hx hb dX1_of_94 rfl (lv_at hl 2 rfl) ?_
          refine lv_lload hx hb dX1_of_95 (lv_at hl 0 rfl) ?_
          refine lv_lload_n hx hb dX1_of_97 rfl (lv_at hl 3 rfl) ?_
          refine lv_lload_n hx hb dX1_of_98 rfl (lv_at hl 4 rfl) ?_
          obtain ⟨r20, h21, h⟩ := bind_s h
          refine kl (kV (As := [.long r16, .long l1, .long l3]) (rest := [.long r14, .ref po]) C0 (kX1_line l D cJ cZ po co fo N zp zr zh zb zt r16 l1 l3 r20 h21) gX1_of_X1_line rfl ⟨rfl, rfl⟩ hdX1_line ⟨Nat.le_of_ble_eq_true rfl, Nat.le_of_ble_eq_true rfl⟩ 1 0 rfl rfl rfl hP hE hl rfl rfl (Nat.le_of_ble_eq_true rfl) dX1_of_99 (Nat.zero_le _) (Nat.zero_le _)) ?_
          obtain ⟨r22, h23, h⟩ := bind_s h
          refine kl (kV (As := [.long r14, .long r20]) (rest := []) C0 (kX1_product l D cJ cZ po co fo zp zr zh zb zt r14 r20 r22 h23) gX1_of_X1_product rfl ⟨rfl, rfl⟩ hdX1_product ⟨Nat.le_of_ble_eq_true rfl, Nat.le_of_ble_eq_true rfl⟩ 1 0 rfl rfl rfl hP hE hl rfl rfl (Nat.le_of_ble_eq_true rfl) dX1_of_102 (Nat.zero_le _) (Nat.zero_le _)) ?_
          refine lv_lstore (lv' := [(5, .long r22), (7, .long r16), (0, .ref po), (1, .long l1), (3, .long l3), (9, .int l9)]) hx hb dX1_of_105 hl (by decide) rfl (fun ls hl => ?_)
          refine lv_aload_n hx hb dX1_of_107 rfl (lv_at hl 2 rfl) ?_
          refine va_get (D := D) (ci := 1) (v := .ref co) (C := RX1) (T := TX1) (N := 3) hx hb hts iwX1_of_1 hown hE.1 hP 0 rfl rfl 0 (by decide) (hts _ lkX1_of_4) (fun _ h9 => h9) rfl dX1_of_108 ?_
          refine lv_lload hx hb dX1_of_111 (lv_at hl 1 rfl) ?_
          refine lv_lload_n hx hb dX1_of_113 rfl (lv_at hl 3 rfl) ?_
          obtain ⟨r24, h25, h⟩ := bind_s h
          refine kl (kV (As := [.long r16, .long l1]) (rest := []) C0 (kX0_sum l D cJ cZ co fo N zp zr zh zb zt r16 l1 r24 h25) gX1_of_X0_sum rfl ⟨rfl, rfl⟩ hdX0_sum ⟨Nat.le_of_ble_eq_true rfl, Nat.le_of_ble_eq_true rfl⟩ 0 0 rfl rfl rfl (hP.sub [1, 2] rfl) hE hl rfl rfl (Nat.le_of_ble_eq_true rfl) dX1_of_114 (Nat.zero_le _) (Nat.zero_le _)) ?_
          refine lv_lstore (lv' := [(7, .long r24), (5, .long r22), (0, .ref po), (1, .long l1), (3, .long l3), (9, .int l9)]) hx hb dX1_of_117 hl (by decide) rfl (fun ls hl => ?_)
          obtain ⟨w26, ew26, h⟩ := bnd_s h
          refine lv_iinc (v := w26) (lv' := [(9, .int w26), (7, .long r24), (5, .long r22), (0, .ref po), (1, .long l1), (3, .long l3)]) hx hb dX1_of_119 hl (k := 5) rfl (by rw [ew26]; rfl) (by decide) rfl (fun ls hl => ?_)
          refine lv_goto (tgt := 36) hx hb dX1_of_122 (by decide) ?_
          exact ih r22 r24 w26 h ls (lv_sub hl [3, 4, 5, 2, 1, 0] rfl)
  unfold fX1_of at h
  refine lv_lload_n hx hb dX1_of_0 rfl (lv_at hl 1 rfl) ?_
  refine lv_ldc2 (v := (-1)) hx hb hown (hts _ lkX1_of_0) dX1_of_1 ?_
  refine lc_eq (tgt := 16) hx hb dX1_of_4 dX1_of_5 (by decide) (fun c1 => ?_) (fun c1 => ?_)
  · have h := ite_t c1 h
    refine lv_ldc2 (v := 2147483648) hx hb hown (hts _ lkX1_of_1) dX1_of_16 ?_
    exact reL hx hb hr hlocks h dX1_of_19
  · have h := ite_f c1 h
    refine lv_lload_n hx hb dX1_of_8 rfl (lv_at hl 2 rfl) ?_
    refine lv_ldc2 (v := (-1)) hx hb hown (hts _ lkX1_of_0) dX1_of_9 ?_
    refine lc_ne (tgt := 20) hx hb dX1_of_12 dX1_of_13 (by decide) (fun c2 => ?_) (fun c2 => ?_)
    · have h := ite_f c2 h
      refine lv_ldc2 (v := 2147483648) hx hb hown (hts _ lkX1_of_1) dX1_of_20 ?_
      refine lv_lstore (lv' := [(5, .long 2147483648), (0, .ref po), (1, .long q0), (3, .long q1)]) hx hb dX1_of_23 hl (by decide) rfl (fun ls hl => ?_)
      refine lv_lload_n hx hb dX1_of_25 rfl (lv_at hl 2 rfl) ?_
      refine lv_lstore (lv' := [(7, .long q0), (5, .long 2147483648), (0, .ref po), (1, .long q0), (3, .long q1)]) hx hb dX1_of_26 hl (by decide) rfl (fun ls hl => ?_)
      refine lv_aload_n hx hb dX1_of_28 rfl (lv_at hl 2 rfl) ?_
      obtain ⟨r3, h4, h⟩ := bind_s h
      refine ki (kV (As := []) (rest := []) C0 (kX1_bitsBehindHighest l D cJ cZ po co fo zp zr zh zb zt r3 h4) gX1_of_X1_bitsBehindHighest rfl ⟨rfl, rfl⟩ hdX1_bitsBehindHighest ⟨Nat.le_of_ble_eq_true rfl, Nat.le_of_ble_eq_true rfl⟩ 1 0 rfl rfl rfl hP hE hl rfl rfl (Nat.le_of_ble_eq_true rfl) dX1_of_29 (Nat.zero_le _) (Nat.zero_le _)) ?_
      refine lv_iconst (v := 1) hx hb dX1_of_32 (by decide) ?_
      refine lv_isub hx hb dX1_of_33 ?_
      obtain ⟨w5, ew5, h⟩ := bnd_s h
      refine ti ew5.symm ?_
      refine lv_istore (lv' := [(9, .int w5), (7, .long q0), (5, .long 2147483648), (0, .ref po), (1, .long q0), (3, .long q1)]) hx hb dX1_of_34 hl (by decide) rfl (fun ls hl => ?_)
      exact loop36 q0 q1 N 2147483648 q0 w5 h ls (lv_sub hl [3, 4, 5, 2, 1, 0] rfl)
    · have h := ite_t c2 h
      refine lv_ldc2 (v := 2147483648) hx hb hown (hts _ lkX1_of_1) dX1_of_16 ?_
      exact reL hx hb hr hlocks h dX1_of_19
def fX1_takeAll_3 (N : Nat) (zp : Int64) (zr : Int64) (zS : Nat → Int64) (l2 : Int32) (l3 : Int32) : Nat → Int32 → Option (Bool)
  | 0, _ => none
  | n + 1, l4 =>
    if (l2 + l3) ≤ l4 then
      some true
    else
      if l4 < 0 ∨ 16 ≤ l4.toNatClampNeg then none else
      if (zS l4.toNatClampNeg) = (-1) then
        some false
      else
        (fX1_takes N zp zr (zS l4.toNatClampNeg)).bind fun r4 =>
        if (bI r4) = 0 then
          some false
        else
          bnd (l4 + 1) fun w7 =>
          fX1_takeAll_3 N zp zr zS l2 l3 n w7
def fX1_takeAll (N : Nat) (zp : Int64) (zr : Int64) (zS : Nat → Int64) (q1 : Int32) (q2 : Int32) : Option (Bool) :=
  fX1_takeAll_3 N zp zr zS q1 q2 N q1
abbrev rmX1_takeAll : Room := { frames := 5, cells := 0, slots := 0, locals := 149 }
theorem lkX1_takeAll_0 : (.constantLong RX1 30 (-1) : Cond) ∈ wsX1_takeAll := by decide +kernel
theorem hdX1_takeAll : KN yX1_takeAll 3 := by decide +kernel
set_option maxHeartbeats 4000000 in
set_option maxRecDepth 100000 in
theorem kX1_takeAll (l : Launch) (D : va_G) (cJ cZ : ClassId) (po co fo so : Nat) (N : Nat) (zp : Int64) (zr : Int64) (zh : Int64) (zb : Int64) (zt : Int32) (zS : Nat → Int64) (q1 : Int32) (q2 : Int32) (rr : Bool) (h : fX1_takeAll N zp zr zS q1 q2 = some rr) : Met l yX1_takeAll wsX1_takeAll rmX1_takeAll (PP D cJ cZ [.ref po, .ref so, .int q1, .int q2] [(po, .inr (1, [.ref co, .long zp, .long zr])), (co, .inr (0, [.ref fo, .long zp, .long zr, .long zh, .long zb, .int zt])), (fo, .inr (2, [.long zp])), (so, .inl (cJ, 16, .inr (.inl zS)))]) (SI (bI rr)) 0 0 (fun _ => False) := by
  refine Met.ofW (cc := cX1_takeAll) (maxL := 5) (ret := some .boolean) (by decide) rfl ?_
  intro pg e s m args below meth c s₁ B hml hv
  obtain ⟨rfl, hP, hE⟩ := hv
  have hx := B.exec
  have hb := B.bytes
  have hr := B.returns
  have hlocks := B.notSynchronized
  have C0 : CallFix pg m c cX1_takeAll 5 s ([.ref po, .ref so, .int q1, .int q2] : List Value).toArray wsX1_takeAll RX1 := ⟨hx, hb, hml, findClass_of_methodNamed B.named, atoms_spec (ws := wsX1_takeAll) B.pre⟩
  have hown := C0.2.2.2.1
  have hts := C0.2.2.2.2
  have hl := lv_entry ([.ref po, .ref so, .int q1, .int q2]) (n := 5) (Nat.le_of_ble_eq_true rfl)
  rw [lg_entry_eq]
  generalize (lg_sl ([.ref po, .ref so, .int q1, .int q2]) ++ List.replicate (5 - (lg_sl ([.ref po, .ref so, .int q1, .int q2])).length) Slot.unset).toArray = ls at hl ⊢
  have hl : lv_has ls 5 [(0, .ref po), (1, .ref so), (2, .int q1), (3, .int q2)] := hl
  have loop3 : ∀ (l2 : Int32) (l3 : Int32), ∀ (n : Nat) (l4 : Int32), fX1_takeAll_3 N zp zr zS l2 l3 n l4 = some rr → ∀ ls : Array Slot, lv_has ls 5 [(0, .ref po), (1, .ref so), (2, .int l2), (3, .int l3), (4, .int l4)] → W pg l e (headSpec wsX1_takeAll rmX1_takeAll).room s m ([.ref po, .ref so, .int q1, .int q2] : List Value).toArray below meth c s.heap [] 0 0 (MQ below (SI (bI rr)) ([.ref po, .ref so, .int q1, .int q2] : List Value).toArray s 0 0 (fun _ => False)) (F0 m 3 ls []) := by
    intro l2 l3
    intro n
    induction n with
    | zero =>
      intro l4 h
      cases h
    | succ n ih =>
      intro l4 h ls hl
      rw [fX1_takeAll_3] at h
      refine lv_iload hx hb dX1_takeAll_3 (lv_at hl 4 rfl) ?_
      refine lv_iload_n hx hb dX1_takeAll_5 rfl (lv_at hl 2 rfl) ?_
      refine lv_iload_n hx hb dX1_takeAll_6 rfl (lv_at hl 3 rfl) ?_
      refine lv_iadd hx hb dX1_takeAll_7 ?_
      refine lv_icmp_ge (tgt := 41) hx hb dX1_takeAll_8 (by decide) (fun c1 => ?_) (fun c1 => ?_)
      · have h := ite_t c1 h
        refine lv_iconst (v := 1) hx hb dX1_takeAll_41 (by decide) ?_
        exact reZ (v := true) hx hb hr hlocks h dX1_takeAll_42
      · have h := ite_f c1 h
        refine lv_aload_n hx hb dX1_takeAll_11 rfl (lv_at hl 1 rfl) ?_
        refine lv_iload hx hb dX1_takeAll_12 (lv_at hl 4 rfl) ?_
        obtain ⟨c2, h⟩ := ite_n h
        refine va_lald hx hb hE.1 hP 3 0 rfl rfl c2 dX1_takeAll_14 ?_
        refine lv_ldc2 (v := (-1)) hx hb hown (hts _ lkX1_takeAll_0) dX1_takeAll_15 ?_
        refine lc_eq (tgt := 33) hx hb dX1_takeAll_18 dX1_takeAll_19 (by decide) (fun c3 => ?_) (fun c3 => ?_)
        · have h := ite_t c3 h
          refine lv_iconst (v := 0) hx hb dX1_takeAll_33 (by decide) ?_
          exact reZ (v := false) hx hb hr hlocks h dX1_takeAll_34
        · have h := ite_f c3 h
          refine lv_aload_n hx hb dX1_takeAll_22 rfl (lv_at hl 0 rfl) ?_
          refine lv_aload_n hx hb dX1_takeAll_23 rfl (lv_at hl 1 rfl) ?_
          refine lv_iload hx hb dX1_takeAll_24 (lv_at hl 4 rfl) ?_
          refine va_lald hx hb hE.1 hP 3 0 rfl rfl c2 dX1_takeAll_26 ?_
          obtain ⟨r4, h5, h⟩ := bind_s h
          refine ki (kV (As := [.long (zS l4.toNatClampNeg)]) (rest := []) C0 (kX1_takes l D cJ cZ po co fo N zp zr zh zb zt (zS l4.toNatClampNeg) r4 h5) gX1_takeAll_X1_takes rfl ⟨rfl, rfl⟩ hdX1_takes ⟨Nat.le_of_ble_eq_true rfl, Nat.le_of_ble_eq_true rfl⟩ 1 0 rfl rfl rfl (hP.sub [0, 1, 2] rfl) hE hl rfl rfl (Nat.le_of_ble_eq_true rfl) dX1_takeAll_27 (Nat.zero_le _) (Nat.zero_le _)) ?_
          refine lv_if_ne (tgt := 35) hx hb dX1_takeAll_30 (by decide) (fun c6 => ?_) (fun c6 => ?_)
          · have h := ite_f c6 h
            obtain ⟨w7, ew7, h⟩ := bnd_s h
            refine lv_iinc (v := w7) (lv' := [(4, .int w7), (0, .ref po), (1, .ref so), (2, .int l2), (3, .int l3)]) hx hb dX1_takeAll_35 hl (k := 4) rfl (by rw [ew7]; rfl) (by decide) rfl (fun ls hl => ?_)
            refine lv_goto (tgt := 3) hx hb dX1_takeAll_38 (by decide) ?_
            exact ih w7 h ls (lv_sub hl [1, 2, 3, 4, 0] rfl)
          · have h := ite_t c6 h
            refine lv_iconst (v := 0) hx hb dX1_takeAll_33 (by decide) ?_
            exact reZ (v := false) hx hb hr hlocks h dX1_takeAll_34
  unfold fX1_takeAll at h
  refine lv_iload_n hx hb dX1_takeAll_0 rfl (lv_at hl 2 rfl) ?_
  refine lv_istore (lv' := [(4, .int q1), (0, .ref po), (1, .ref so), (2, .int q1), (3, .int q2)]) hx hb dX1_takeAll_1 hl (by decide) rfl (fun ls hl => ?_)
  exact loop3 q1 q2 N q1 h ls (lv_sub hl [1, 2, 3, 4, 0] rfl)
def fX1_agree_30 (N : Nat) (zp : Int64) (zr : Int64) (zh : Int64) (zb : Int64) (zS : Nat → Int64) (l1 : Int64) (l4 : Int32) (l5 : Int32) (l6 : Int64) : Nat → Int64 → Int32 → Int32 → Option (Bool × Int32)
  | 0, _, _, _ => none
  | n + 1, l8, l10, zt =>
    if l5 ≤ l10 then
      (fX1_of N zp zr l1 zb).bind fun r8 =>
      if r8 = l8 then
        some (true, zt)
      else
        some (false, zt)
    else
      (fX0_turned N zp zh zt (l6 + l10.toInt64)).bind fun (r11, o12) =>
      if (l4 + l10) < 0 ∨ 16 ≤ (l4 + l10).toNatClampNeg then none else
      (fX1_of N zp zr r11 (zS (l4 + l10).toNatClampNeg)).bind fun r15 =>
      (fX1_product zp l8 r15).bind fun r17 =>
      bnd (l10 + 1) fun w19 =>
      fX1_agree_30 N zp zr zh zb zS l1 l4 l5 l6 n r17 w19 o12
def fX1_agree (N : Nat) (zp : Int64) (zr : Int64) (zh : Int64) (zb : Int64) (zt : Int32) (zS : Nat → Int64) (q0 : Int64) (q2 : Int32) (q3 : Int32) (q4 : Int64) : Option (Bool × Int32) :=
  (fX1_takes N zp zr q0).bind fun r1 =>
  if (bI r1) = 0 then
    some (false, zt)
  else
    (fX1_takeAll N zp zr zS q2 q3).bind fun r4 =>
    if (bI r4) = 0 then
      some (false, zt)
    else
      fX1_agree_30 N zp zr zh zb zS q0 q2 q3 q4 N 2147483648 0 zt
abbrev rmX1_agree : Room := { frames := 6, cells := 0, slots := 0, locals := 173 }
theorem lkX1_agree_0 : (.constantLong RX1 47 (2147483648) : Cond) ∈ wsX1_agree := by decide +kernel
theorem lkX1_agree_1 : (.fieldLink RX1 9 "PairingDesk$Pairing" "curve" "LPairingDesk$Curve;" : Cond) ∈ wsX1_agree := by decide +kernel
theorem lkX1_agree_2 : (.fieldLink RX1 108 "PairingDesk$Curve" "base" "J" : Cond) ∈ wsX1_agree := by decide +kernel
theorem iwX1_agree_0 : ∀ w ∈ wsX00, w ∈ wsX1_agree := by decide +kernel
theorem iwX1_agree_1 : ∀ w ∈ wsX10, w ∈ wsX1_agree := by decide +kernel
theorem hdX1_agree : KN yX1_agree 5 := by decide +kernel
set_option maxHeartbeats 4000000 in
set_option maxRecDepth 100000 in
theorem kX1_agree (l : Launch) (D : va_G) (cJ cZ : ClassId) (po co fo so : Nat) (N : Nat) (zp : Int64) (zr : Int64) (zh : Int64) (zb : Int64) (zt : Int32) (zS : Nat → Int64) (q0 : Int64) (q2 : Int32) (q3 : Int32) (q4 : Int64) (sz : Nat) (rr : Bool) (ozt : Int32) (h : fX1_agree N zp zr zh zb zt zS q0 q2 q3 q4 = some (rr, ozt)) : Met l yX1_agree wsX1_agree rmX1_agree (PE D cJ cZ [.ref po, .long q0, .ref so, .int q2, .int q3, .long q4] [(po, .inr (1, [.ref co, .long zp, .long zr])), (co, .inr (0, [.ref fo, .long zp, .long zr, .long zh, .long zb, .int zt])), (fo, .inr (2, [.long zp])), (so, .inl (cJ, 16, .inr (.inl zS)))] sz) (QE D (some (.int (bI rr))) [(po, .inr (1, [.ref co, .long zp, .long zr])), (co, .inr (0, [.ref fo, .long zp, .long zr, .long zh, .long zb, .int ozt])), (fo, .inr (2, [.long zp])), (so, .inl (cJ, 16, .inr (.inl zS)))] (va_A [(po, .inr (1, [.ref co, .long zp, .long zr])), (co, .inr (0, [.ref fo, .long zp, .long zr, .long zh, .long zb, .int zt])), (fo, .inr (2, [.long zp])), (so, .inl (cJ, 16, .inr (.inl zS)))] sz)) 0 0 (va_A [(po, .inr (1, [.ref co, .long zp, .long zr])), (co, .inr (0, [.ref fo, .long zp, .long zr, .long zh, .long zb, .int zt])), (fo, .inr (2, [.long zp])), (so, .inl (cJ, 16, .inr (.inl zS)))] sz) := by
  refine Met.ofW (cc := cX1_agree) (maxL := 11) (ret := some .boolean) (by decide) rfl ?_
  intro pg e s m args below meth c s₁ B hml hv
  obtain ⟨rfl, hsz, hP, hE, hD0⟩ := hv
  have hx := B.exec
  have hb := B.bytes
  have hr := B.returns
  have hlocks := B.notSynchronized
  have C0 : CallFix pg m c cX1_agree 11 s ([.ref po, .long q0, .ref so, .int q2, .int q3, .long q4] : List Value).toArray wsX1_agree RX1 := ⟨hx, hb, hml, findClass_of_methodNamed B.named, atoms_spec (ws := wsX1_agree) B.pre⟩
  have hown := C0.2.2.2.1
  have hts := C0.2.2.2.2
  subst hsz
  have hD := hD0.self (sz := s.heap.size)
  generalize hAe : va_A [(po, .inr (1, [.ref co, .long zp, .long zr])), (co, .inr (0, [.ref fo, .long zp, .long zr, .long zh, .long zb, .int zt])), (fo, .inr (2, [.long zp])), (so, .inl (cJ, 16, .inr (.inl zS)))] s.heap.size = A at hD ⊢
  have hA : ∀ q : Nat, s.heap.size ≤ q → A q := fun q h => by rw [← hAe]; exact Or.inr h
  have hS : va_S A s.heap s.heap [] := va_S.rf
  have hP : va_P D vwCl [(po, .inr (1, [.ref co, .long zp, .long zr])), (co, .inr (0, [.ref fo, .long zp, .long zr, .long zh, .long zb, .int zt])), (fo, .inr (2, [.long zp])), (so, .inl (cJ, 16, .inr (.inl zS)))] s.heap := hP
  have hl := lv_entry ([.ref po, .long q0, .ref so, .int q2, .int q3, .long q4]) (n := 11) (Nat.le_of_ble_eq_true rfl)
  rw [lg_entry_eq]
  generalize (lg_sl ([.ref po, .long q0, .ref so, .int q2, .int q3, .long q4]) ++ List.replicate (11 - (lg_sl ([.ref po, .long q0, .ref so, .int q2, .int q3, .long q4])).length) Slot.unset).toArray = ls at hl ⊢
  have hl : lv_has ls 11 [(0, .ref po), (1, .long q0), (3, .ref so), (4, .int q2), (5, .int q3), (6, .long q4)] := hl
  have loop30 : ∀ (l1 : Int64) (l4 : Int32) (l5 : Int32) (l6 : Int64), ∀ (n : Nat) (l8 : Int64) (l10 : Int32) (zt : Int32), fX1_agree_30 N zp zr zh zb zS l1 l4 l5 l6 n l8 l10 zt = some (rr, ozt) → ∀ (H : Heap) (locs : List Loc), va_P D vwCl [(po, .inr (1, [.ref co, .long zp, .long zr])), (co, .inr (0, [.ref fo, .long zp, .long zr, .long zh, .long zb, .int zt])), (fo, .inr (2, [.long zp])), (so, .inl (cJ, 16, .inr (.inl zS)))] H → va_D A [(po, .inr (1, [.ref co, .long zp, .long zr])), (co, .inr (0, [.ref fo, .long zp, .long zr, .long zh, .long zb, .int zt])), (fo, .inr (2, [.long zp])), (so, .inl (cJ, 16, .inr (.inl zS)))] → va_S A s.heap H locs → ∀ ls : Array Slot, lv_has ls 11 [(0, .ref po), (1, .long l1), (3, .ref so), (4, .int l4), (5, .int l5), (6, .long l6), (8, .long l8), (10, .int l10)] → W pg l e (headSpec wsX1_agree rmX1_agree).room s m ([.ref po, .long q0, .ref so, .int q2, .int q3, .long q4] : List Value).toArray below meth c H locs 0 0 (MQ below (QE D (some (.int (bI rr))) [(po, .inr (1, [.ref co, .long zp, .long zr])), (co, .inr (0, [.ref fo, .long zp, .long zr, .long zh, .long zb, .int ozt])), (fo, .inr (2, [.long zp])), (so, .inl (cJ, 16, .inr (.inl zS)))] A) ([.ref po, .long q0, .ref so, .int q2, .int q3, .long q4] : List Value).toArray s 0 0 A) (F0 m 30 ls []) := by
    intro l1 l4 l5 l6
    intro n
    induction n with
    | zero =>
      intro l8 l10 zt h
      cases h
    | succ n ih =>
      intro l8 l10 zt h H locs hP hD hS ls hl
      rw [fX1_agree_30] at h
      refine lv_iload hx hb dX1_agree_30 (lv_at hl 7 rfl) ?_
      refine lv_iload hx hb dX1_agree_32 (lv_at hl 4 rfl) ?_
      refine lv_icmp_ge (tgt := 75) hx hb dX1_agree_34 (by decide) (fun c7 => ?_) (fun c7 => ?_)
      · have h := ite_t c7 h
        refine lv_aload_n hx hb dX1_agree_75 rfl (lv_at hl 0 rfl) ?_
        refine lv_lload_n hx hb dX1_agree_76 rfl (lv_at hl 1 rfl) ?_
        refine lv_aload_n hx hb dX1_agree_77 rfl (lv_at hl 0 rfl) ?_
        refine va_get (D := D) (ci := 1) (v := .ref co) (C := RX1) (T := TX1) (N := 3) hx hb hts iwX1_agree_1 hown hE.1 hP 0 rfl rfl 0 (by decide) (hts _ lkX1_agree_1) (fun _ h9 => h9) rfl dX1_agree_78 ?_
        refine va_get (D := D) (ci := 0) (v := .long zb) (C := RX0) (T := TX0) (N := 6) hx hb hts iwX1_agree_0 hown hE.1 hP 1 rfl rfl 4 (by decide) (hts _ lkX1_agree_2) (fun _ h9 => h9) rfl dX1_agree_81 ?_
        obtain ⟨r8, h9, h⟩ := bind_s h
        refine kl (kV (As := [.long l1, .long zb]) (rest := []) C0 (kX1_of l D cJ cZ po co fo N zp zr zh zb zt l1 zb r8 h9) gX1_agree_X1_of rfl ⟨rfl, rfl⟩ hdX1_of ⟨Nat.le_of_ble_eq_true rfl, Nat.le_of_ble_eq_true rfl⟩ 1 0 rfl rfl rfl (hP.sub [0, 1, 2] rfl) hE hl rfl rfl (Nat.le_of_ble_eq_true rfl) dX1_agree_84 (Nat.zero_le _) (Nat.zero_le _)) ?_
        refine lv_lload hx hb dX1_agree_87 (lv_at hl 6 rfl) ?_
        refine lc_ne (tgt := 97) hx hb dX1_agree_89 dX1_agree_90 (by decide) (fun c10 => ?_) (fun c10 => ?_)
        · have h := ite_f c10 h
          refine lv_iconst (v := 0) hx hb dX1_agree_97 (by decide) ?_
          cases h
          exact rfZ (v := false) hx hb hr hlocks hP hD hS dX1_agree_98
        · have h := ite_t c10 h
          refine lv_iconst (v := 1) hx hb dX1_agree_93 (by decide) ?_
          refine lv_goto (tgt := 98) hx hb dX1_agree_94 (by decide) ?_
          cases h
          exact rfZ (v := true) hx hb hr hlocks hP hD hS dX1_agree_98
      · have h := ite_f c7 h
        refine lv_aload_n hx hb dX1_agree_37 rfl (lv_at hl 0 rfl) ?_
        refine lv_lload hx hb dX1_agree_38 (lv_at hl 6 rfl) ?_
        refine lv_aload_n hx hb dX1_agree_40 rfl (lv_at hl 0 rfl) ?_
        refine lv_aload_n hx hb dX1_agree_41 rfl (lv_at hl 0 rfl) ?_
        refine va_get (D := D) (ci := 1) (v := .ref co) (C := RX1) (T := TX1) (N := 3) hx hb hts iwX1_agree_1 hown hE.1 hP 0 rfl rfl 0 (by decide) (hts _ lkX1_agree_1) (fun _ h9 => h9) rfl dX1_agree_42 ?_
        refine lv_lload hx hb dX1_agree_45 (lv_at hl 5 rfl) ?_
        refine lv_iload hx hb dX1_agree_47 (lv_at hl 7 rfl) ?_
        refine lv_i2l (v := l10.toInt64) hx hb dX1_agree_49 rfl ?_
        refine lv_ladd hx hb dX1_agree_50 ?_
        obtain ⟨⟨r11, o12⟩, h13, h⟩ := bind_s h
        try dsimp only at h
        refine kE (wc := [(co, .inr (0, [.ref fo, .long zp, .long zr, .long zh, .long zb, .int zt])), (fo, .inr (2, [.long zp]))]) (wr := [(po, .inr (1, [.ref co, .long zp, .long zr])), (so, .inl (cJ, 16, .inr (.inl zS)))]) [1, 2] [0, 3] hP hD hS hA rfl rfl rfl (by decide) rfl (eV (As := [.long (l6 + l10.toInt64)]) (rest := [.ref po, .long l8, .ref po]) C0 (kX0_turned l D cJ cZ co fo N zp zr zh zb zt (l6 + l10.toInt64) H.size r11 o12 h13) gX1_agree_X0_turned rfl ⟨rfl, rfl⟩ hdX0_turned ⟨Nat.le_of_ble_eq_true rfl, Nat.le_of_ble_eq_true rfl⟩ 0 0 rfl rfl rfl (hP.sub [1, 2] rfl) (hD.sub [1, 2] rfl rfl) hE hl rfl rfl (Nat.le_of_ble_eq_true rfl) dX1_agree_51 ⟨Nat.zero_le _, Nat.zero_le _⟩) (fun H locs hP hD hS => ?_)
        have hP : va_P D vwCl [(po, .inr (1, [.ref co, .long zp, .long zr])), (co, .inr (0, [.ref fo, .long zp, .long zr, .long zh, .long zb, .int o12])), (fo, .inr (2, [.long zp])), (so, .inl (cJ, 16, .inr (.inl zS)))] H := hP.sub [0, 2, 3, 1] rfl
        have hD : va_D A [(po, .inr (1, [.ref co, .long zp, .long zr])), (co, .inr (0, [.ref fo, .long zp, .long zr, .long zh, .long zb, .int o12])), (fo, .inr (2, [.long zp])), (so, .inl (cJ, 16, .inr (.inl zS)))] := hD.sub [0, 2, 3, 1] rfl rfl
        refine lv_aload_n hx hb dX1_agree_54 rfl (lv_at hl 2 rfl) ?_
        refine lv_iload hx hb dX1_agree_55 (lv_at hl 3 rfl) ?_
        refine lv_iload hx hb dX1_agree_57 (lv_at hl 7 rfl) ?_
        refine lv_iadd hx hb dX1_agree_59 ?_
        obtain ⟨c14, h⟩ := ite_n h
        refine va_lald hx hb hE.1 hP 3 0 rfl rfl c14 dX1_agree_60 ?_
        obtain ⟨r15, h16, h⟩ := bind_s h
        refine kl (kV (As := [.long r11, .long (zS (l4 + l10).toNatClampNeg)]) (rest := [.long l8, .ref po]) C0 (kX1_of l D cJ cZ po co fo N zp zr zh zb o12 r11 (zS (l4 + l10).toNatClampNeg) r15 h16) gX1_agree_X1_of rfl ⟨rfl, rfl⟩ hdX1_of ⟨Nat.le_of_ble_eq_true rfl, Nat.le_of_ble_eq_true rfl⟩ 1 0 rfl rfl rfl (hP.sub [0, 1, 2] rfl) hE hl rfl rfl (Nat.le_of_ble_eq_true rfl) dX1_agree_61 (Nat.zero_le _) (Nat.zero_le _)) ?_
        obtain ⟨r17, h18, h⟩ := bind_s h
        refine kl (kV (As := [.long l8, .long r15]) (rest := []) C0 (kX1_product l D cJ cZ po co fo zp zr zh zb o12 l8 r15 r17 h18) gX1_agree_X1_product rfl ⟨rfl, rfl⟩ hdX1_product ⟨Nat.le_of_ble_eq_true rfl, Nat.le_of_ble_eq_true rfl⟩ 1 0 rfl rfl rfl (hP.sub [0, 1, 2] rfl) hE hl rfl rfl (Nat.le_of_ble_eq_true rfl) dX1_agree_64 (Nat.zero_le _) (Nat.zero_le _)) ?_
        refine lv_lstore (lv' := [(8, .long r17), (0, .ref po), (1, .long l1), (3, .ref so), (4, .int l4), (5, .int l5), (6, .long l6), (10, .int l10)]) hx hb dX1_agree_67 hl (by decide) rfl (fun ls hl => ?_)
        obtain ⟨w19, ew19, h⟩ := bnd_s h
        refine lv_iinc (v := w19) (lv' := [(10, .int w19), (8, .long r17), (0, .ref po), (1, .long l1), (3, .ref so), (4, .int l4), (5, .int l5), (6, .long l6)]) hx hb dX1_agree_69 hl (k := 7) rfl (by rw [ew19]; rfl) (by decide) rfl (fun ls hl => ?_)
        refine lv_goto (tgt := 30) hx hb dX1_agree_72 (by decide) ?_
        exact ih r17 w19 o12 h H locs hP hD hS ls (lv_sub hl [2, 3, 4, 5, 6, 7, 1, 0] rfl)
  suffices key : ∀ (H : Heap) (locs : List Loc), va_P D vwCl [(po, .inr (1, [.ref co, .long zp, .long zr])), (co, .inr (0, [.ref fo, .long zp, .long zr, .long zh, .long zb, .int zt])), (fo, .inr (2, [.long zp])), (so, .inl (cJ, 16, .inr (.inl zS)))] H → va_D A [(po, .inr (1, [.ref co, .long zp, .long zr])), (co, .inr (0, [.ref fo, .long zp, .long zr, .long zh, .long zb, .int zt])), (fo, .inr (2, [.long zp])), (so, .inl (cJ, 16, .inr (.inl zS)))] → va_S A s.heap H locs → W pg l e (headSpec wsX1_agree rmX1_agree).room s m ([.ref po, .long q0, .ref so, .int q2, .int q3, .long q4] : List Value).toArray below meth c H locs 0 0 (MQ below (QE D (some (.int (bI rr))) [(po, .inr (1, [.ref co, .long zp, .long zr])), (co, .inr (0, [.ref fo, .long zp, .long zr, .long zh, .long zb, .int ozt])), (fo, .inr (2, [.long zp])), (so, .inl (cJ, 16, .inr (.inl zS)))] A) ([.ref po, .long q0, .ref so, .int q2, .int q3, .long q4] : List Value).toArray s 0 0 A) (F0 m 0 ls []) from key s.heap [] hP hD hS
  intro H locs hP hD hS
  unfold fX1_agree at h
  refine lv_aload_n hx hb dX1_agree_0 rfl (lv_at hl 0 rfl) ?_
  refine lv_lload_n hx hb dX1_agree_1 rfl (lv_at hl 1 rfl) ?_
  obtain ⟨r1, h2, h⟩ := bind_s h
  refine ki (kV (As := [.long q0]) (rest := []) C0 (kX1_takes l D cJ cZ po co fo N zp zr zh zb zt q0 r1 h2) gX1_agree_X1_takes rfl ⟨rfl, rfl⟩ hdX1_takes ⟨Nat.le_of_ble_eq_true rfl, Nat.le_of_ble_eq_true rfl⟩ 1 0 rfl rfl rfl (hP.sub [0, 1, 2] rfl) hE hl rfl rfl (Nat.le_of_ble_eq_true rfl) dX1_agree_2 (Nat.zero_le _) (Nat.zero_le _)) ?_
  refine lv_if_eq (tgt := 20) hx hb dX1_agree_5 (by decide) (fun c3 => ?_) (fun c3 => ?_)
  · have h := ite_t c3 h
    refine lv_iconst (v := 0) hx hb dX1_agree_20 (by decide) ?_
    cases h
    exact rfZ (v := false) hx hb hr hlocks hP hD hS dX1_agree_21
  · have h := ite_f c3 h
    refine lv_aload_n hx hb dX1_agree_8 rfl (lv_at hl 0 rfl) ?_
    refine lv_aload_n hx hb dX1_agree_9 rfl (lv_at hl 2 rfl) ?_
    refine lv_iload hx hb dX1_agree_10 (lv_at hl 3 rfl) ?_
    refine lv_iload hx hb dX1_agree_12 (lv_at hl 4 rfl) ?_
    obtain ⟨r4, h5, h⟩ := bind_s h
    refine ki (kV (As := [.ref so, .int q2, .int q3]) (rest := []) C0 (kX1_takeAll l D cJ cZ po co fo so N zp zr zh zb zt zS q2 q3 r4 h5) gX1_agree_X1_takeAll rfl ⟨rfl, rfl⟩ hdX1_takeAll ⟨Nat.le_of_ble_eq_true rfl, Nat.le_of_ble_eq_true rfl⟩ 1 0 rfl rfl rfl hP hE hl rfl rfl (Nat.le_of_ble_eq_true rfl) dX1_agree_14 (Nat.zero_le _) (Nat.zero_le _)) ?_
    refine lv_if_ne (tgt := 22) hx hb dX1_agree_17 (by decide) (fun c6 => ?_) (fun c6 => ?_)
    · have h := ite_f c6 h
      refine lv_ldc2 (v := 2147483648) hx hb hown (hts _ lkX1_agree_0) dX1_agree_22 ?_
      refine lv_lstore (lv' := [(8, .long 2147483648), (0, .ref po), (1, .long q0), (3, .ref so), (4, .int q2), (5, .int q3), (6, .long q4)]) hx hb dX1_agree_25 hl (by decide) rfl (fun ls hl => ?_)
      refine lv_iconst (v := 0) hx hb dX1_agree_27 (by decide) ?_
      refine lv_istore (lv' := [(10, .int 0), (8, .long 2147483648), (0, .ref po), (1, .long q0), (3, .ref so), (4, .int q2), (5, .int q3), (6, .long q4)]) hx hb dX1_agree_28 hl (by decide) rfl (fun ls hl => ?_)
      exact loop30 q0 q2 q3 q4 N 2147483648 0 zt h H locs hP hD hS ls (lv_sub hl [2, 3, 4, 5, 6, 7, 1, 0] rfl)
    · have h := ite_t c6 h
      refine lv_iconst (v := 0) hx hb dX1_agree_20 (by decide) ?_
      cases h
      exact rfZ (v := false) hx hb hr hlocks hP hD hS dX1_agree_21
