def fX0_isKey  (zr : Int64) (q0 : Int32) : Option (Bool) :=
  if q0 < 1 then
    some false
  else
    if zr ≤ q0.toInt64 then
      some false
    else
      some true
abbrev rmX0_isKey : Room := { frames := 0, cells := 0, slots := 0, locals := 0 }
theorem lkX0_isKey_0 : (.fieldLink RX0 22 "PairingDesk$Curve" "\x72" "J" : Cond) ∈ wsX0_isKey := by decide +kernel
theorem iwX0_isKey_0 : ∀ w ∈ wsX00, w ∈ wsX0_isKey := by decide +kernel
theorem hdX0_isKey : KN yX0_isKey 1 := by decide +kernel
set_option maxHeartbeats 4000000 in
set_option maxRecDepth 100000 in
theorem kX0_isKey (l : Launch) (D : va_G) (cJ cZ : ClassId) (co fo : Nat) (zp : Int64) (zr : Int64) (zh : Int64) (zb : Int64) (zt : Int32) (q0 : Int32) (rr : Bool) (h : fX0_isKey zr q0 = some rr) : Met l yX0_isKey wsX0_isKey rmX0_isKey (PP D cJ cZ [.ref co, .int q0] [(co, .inr (0, [.ref fo, .long zp, .long zr, .long zh, .long zb, .int zt])), (fo, .inr (2, [.long zp]))]) (SI (bI rr)) 0 0 (fun _ => False) := by
  refine Met.ofW (cc := cX0_isKey) (maxL := 2) (ret := some .boolean) (by decide) rfl ?_
  intro pg e s m args below meth c s₁ B hml hv
  obtain ⟨rfl, hP, hE⟩ := hv
  have hx := B.exec
  have hb := B.bytes
  have hr := B.returns
  have hlocks := B.notSynchronized
  have C0 : CallFix pg m c cX0_isKey 2 s ([.ref co, .int q0] : List Value).toArray wsX0_isKey RX0 := ⟨hx, hb, hml, findClass_of_methodNamed B.named, atoms_spec (ws := wsX0_isKey) B.pre⟩
  have hown := C0.2.2.2.1
  have hts := C0.2.2.2.2
  have hl := lv_entry ([.ref co, .int q0]) (n := 2) (Nat.le_of_ble_eq_true rfl)
  rw [lg_entry_eq]
  generalize (lg_sl ([.ref co, .int q0]) ++ List.replicate (2 - (lg_sl ([.ref co, .int q0])).length) Slot.unset).toArray = ls at hl ⊢
  have hl : lv_has ls 2 [(0, .ref co), (1, .int q0)] := hl
  unfold fX0_isKey at h
  refine lv_iload_n hx hb dX0_isKey_0 rfl (lv_at hl 1 rfl) ?_
  refine lv_iconst (v := 1) hx hb dX0_isKey_1 (by decide) ?_
  refine lv_icmp_lt (tgt := 19) hx hb dX0_isKey_2 (by decide) (fun c1 => ?_) (fun c1 => ?_)
  · have h := ite_t c1 h
    refine lv_iconst (v := 0) hx hb dX0_isKey_19 (by decide) ?_
    exact reZ (v := false) hx hb hr hlocks h dX0_isKey_20
  · have h := ite_f c1 h
    refine lv_iload_n hx hb dX0_isKey_5 rfl (lv_at hl 1 rfl) ?_
    refine lv_i2l (v := q0.toInt64) hx hb dX0_isKey_6 rfl ?_
    refine lv_aload_n hx hb dX0_isKey_7 rfl (lv_at hl 0 rfl) ?_
    refine va_get (D := D) (ci := 0) (v := .long zr) (C := RX0) (T := TX0) (N := 6) hx hb hts iwX0_isKey_0 hown hE.1 hP 0 rfl rfl 2 (by decide) (hts _ lkX0_isKey_0) (fun _ h9 => h9) rfl dX0_isKey_8 ?_
    refine lc_ge (tgt := 19) hx hb dX0_isKey_11 dX0_isKey_12 (by decide) (fun c2 => ?_) (fun c2 => ?_)
    · have h := ite_t c2 h
      refine lv_iconst (v := 0) hx hb dX0_isKey_19 (by decide) ?_
      exact reZ (v := false) hx hb hr hlocks h dX0_isKey_20
    · have h := ite_f c2 h
      refine lv_iconst (v := 1) hx hb dX0_isKey_15 (by decide) ?_
      refine lv_goto (tgt := 20) hx hb dX0_isKey_16 (by decide) ?_
      exact reZ (v := true) hx hb hr hlocks h dX0_isKey_20
def fX0_squareOfY  (zp : Int64) (q0 : Int64) : Option (Int64) :=
  (fX2_product zp q0 q0).bind fun r1 =>
  (fX2_product zp r1 q0).bind fun r3 =>
  if zp = 0 then none else
  some (jrem (r3 + q0) zp)
abbrev rmX0_squareOfY : Room := { frames := 1, cells := 0, slots := 0, locals := 24 }
theorem lkX0_squareOfY_0 : (.fieldLink RX0 9 "PairingDesk$Curve" "field" "LPairingDesk$PrimeField;" : Cond) ∈ wsX0_squareOfY := by decide +kernel
theorem lkX0_squareOfY_1 : (.fieldLink RX0 21 "PairingDesk$Curve" "p" "J" : Cond) ∈ wsX0_squareOfY := by decide +kernel
theorem iwX0_squareOfY_0 : ∀ w ∈ wsX00, w ∈ wsX0_squareOfY := by decide +kernel
theorem hdX0_squareOfY : KN yX0_squareOfY 1 := by decide +kernel
set_option maxHeartbeats 4000000 in
set_option maxRecDepth 100000 in
theorem kX0_squareOfY (l : Launch) (D : va_G) (cJ cZ : ClassId) (co fo : Nat) (zp : Int64) (zr : Int64) (zh : Int64) (zb : Int64) (zt : Int32) (q0 : Int64) (rr : Int64) (h : fX0_squareOfY zp q0 = some rr) : Met l yX0_squareOfY wsX0_squareOfY rmX0_squareOfY (PP D cJ cZ [.ref co, .long q0] [(co, .inr (0, [.ref fo, .long zp, .long zr, .long zh, .long zb, .int zt])), (fo, .inr (2, [.long zp]))]) (SL rr) 0 0 (fun _ => False) := by
  refine Met.ofW (cc := cX0_squareOfY) (maxL := 3) (ret := some .long) (by decide) rfl ?_
  intro pg e s m args below meth c s₁ B hml hv
  obtain ⟨rfl, hP, hE⟩ := hv
  have hx := B.exec
  have hb := B.bytes
  have hr := B.returns
  have hlocks := B.notSynchronized
  have C0 : CallFix pg m c cX0_squareOfY 3 s ([.ref co, .long q0] : List Value).toArray wsX0_squareOfY RX0 := ⟨hx, hb, hml, findClass_of_methodNamed B.named, atoms_spec (ws := wsX0_squareOfY) B.pre⟩
  have hown := C0.2.2.2.1
  have hts := C0.2.2.2.2
  have hl := lv_entry ([.ref co, .long q0]) (n := 3) (Nat.le_of_ble_eq_true rfl)
  rw [lg_entry_eq]
  generalize (lg_sl ([.ref co, .long q0]) ++ List.replicate (3 - (lg_sl ([.ref co, .long q0])).length) Slot.unset).toArray = ls at hl ⊢
  have hl : lv_has ls 3 [(0, .ref co), (1, .long q0)] := hl
  unfold fX0_squareOfY at h
  refine lv_aload_n hx hb dX0_squareOfY_0 rfl (lv_at hl 0 rfl) ?_
  refine va_get (D := D) (ci := 0) (v := .ref fo) (C := RX0) (T := TX0) (N := 6) hx hb hts iwX0_squareOfY_0 hown hE.1 hP 0 rfl rfl 0 (by decide) (hts _ lkX0_squareOfY_0) (fun _ h9 => h9) rfl dX0_squareOfY_1 ?_
  refine lv_aload_n hx hb dX0_squareOfY_4 rfl (lv_at hl 0 rfl) ?_
  refine va_get (D := D) (ci := 0) (v := .ref fo) (C := RX0) (T := TX0) (N := 6) hx hb hts iwX0_squareOfY_0 hown hE.1 hP 0 rfl rfl 0 (by decide) (hts _ lkX0_squareOfY_0) (fun _ h9 => h9) rfl dX0_squareOfY_5 ?_
  refine lv_lload_n hx hb dX0_squareOfY_8 rfl (lv_at hl 1 rfl) ?_
  refine lv_lload_n hx hb dX0_squareOfY_9 rfl (lv_at hl 1 rfl) ?_
  obtain ⟨r1, h2, h⟩ := bind_s h
  refine kl (kV (As := [.long q0, .long q0]) (rest := [.ref fo]) C0 (kX2_product l D cJ cZ fo zp q0 q0 r1 h2) gX0_squareOfY_X2_product rfl ⟨rfl, rfl⟩ hdX2_product ⟨Nat.le_of_ble_eq_true rfl, Nat.le_of_ble_eq_true rfl⟩ 2 0 rfl rfl rfl (hP.sub [1] rfl) hE hl rfl rfl (Nat.le_of_ble_eq_true rfl) dX0_squareOfY_10 (Nat.zero_le _) (Nat.zero_le _)) ?_
  refine lv_lload_n hx hb dX0_squareOfY_13 rfl (lv_at hl 1 rfl) ?_
  obtain ⟨r3, h4, h⟩ := bind_s h
  refine kl (kV (As := [.long r1, .long q0]) (rest := []) C0 (kX2_product l D cJ cZ fo zp r1 q0 r3 h4) gX0_squareOfY_X2_product rfl ⟨rfl, rfl⟩ hdX2_product ⟨Nat.le_of_ble_eq_true rfl, Nat.le_of_ble_eq_true rfl⟩ 2 0 rfl rfl rfl (hP.sub [1] rfl) hE hl rfl rfl (Nat.le_of_ble_eq_true rfl) dX0_squareOfY_14 (Nat.zero_le _) (Nat.zero_le _)) ?_
  refine lv_lload_n hx hb dX0_squareOfY_17 rfl (lv_at hl 1 rfl) ?_
  refine lv_ladd hx hb dX0_squareOfY_18 ?_
  refine lv_aload_n hx hb dX0_squareOfY_19 rfl (lv_at hl 0 rfl) ?_
  refine va_get (D := D) (ci := 0) (v := .long zp) (C := RX0) (T := TX0) (N := 6) hx hb hts iwX0_squareOfY_0 hown hE.1 hP 0 rfl rfl 1 (by decide) (hts _ lkX0_squareOfY_1) (fun _ h9 => h9) rfl dX0_squareOfY_20 ?_
  obtain ⟨c5, h⟩ := ite_n h
  refine lv_lremJ hx hb dX0_squareOfY_23 c5 ?_
  exact reL hx hb hr hlocks h dX0_squareOfY_24
def fX0_passes  (zp : Int64) (q0 : Int64) (q1 : Int64) : Option (Bool) :=
  (fX2_product zp q1 q1).bind fun r1 =>
  (fX0_squareOfY zp q0).bind fun r3 =>
  if r1 = r3 then
    some true
  else
    some false
abbrev rmX0_passes : Room := { frames := 2, cells := 0, slots := 0, locals := 46 }
theorem lkX0_passes_0 : (.fieldLink RX0 9 "PairingDesk$Curve" "field" "LPairingDesk$PrimeField;" : Cond) ∈ wsX0_passes := by decide +kernel
theorem iwX0_passes_0 : ∀ w ∈ wsX00, w ∈ wsX0_passes := by decide +kernel
theorem hdX0_passes : KN yX0_passes 2 := by decide +kernel
set_option maxHeartbeats 4000000 in
set_option maxRecDepth 100000 in
theorem kX0_passes (l : Launch) (D : va_G) (cJ cZ : ClassId) (co fo : Nat) (zp : Int64) (zr : Int64) (zh : Int64) (zb : Int64) (zt : Int32) (q0 : Int64) (q1 : Int64) (rr : Bool) (h : fX0_passes zp q0 q1 = some rr) : Met l yX0_passes wsX0_passes rmX0_passes (PP D cJ cZ [.ref co, .long q0, .long q1] [(co, .inr (0, [.ref fo, .long zp, .long zr, .long zh, .long zb, .int zt])), (fo, .inr (2, [.long zp]))]) (SI (bI rr)) 0 0 (fun _ => False) := by
  refine Met.ofW (cc := cX0_passes) (maxL := 5) (ret := some .boolean) (by decide) rfl ?_
  intro pg e s m args below meth c s₁ B hml hv
  obtain ⟨rfl, hP, hE⟩ := hv
  have hx := B.exec
  have hb := B.bytes
  have hr := B.returns
  have hlocks := B.notSynchronized
  have C0 : CallFix pg m c cX0_passes 5 s ([.ref co, .long q0, .long q1] : List Value).toArray wsX0_passes RX0 := ⟨hx, hb, hml, findClass_of_methodNamed B.named, atoms_spec (ws := wsX0_passes) B.pre⟩
  have hown := C0.2.2.2.1
  have hts := C0.2.2.2.2
  have hl := lv_entry ([.ref co, .long q0, .long q1]) (n := 5) (Nat.le_of_ble_eq_true rfl)
  rw [lg_entry_eq]
  generalize (lg_sl ([.ref co, .long q0, .long q1]) ++ List.replicate (5 - (lg_sl ([.ref co, .long q0, .long q1])).length) Slot.unset).toArray = ls at hl ⊢
  have hl : lv_has ls 5 [(0, .ref co), (1, .long q0), (3, .long q1)] := hl
  unfold fX0_passes at h
  refine lv_aload_n hx hb dX0_passes_0 rfl (lv_at hl 0 rfl) ?_
  refine va_get (D := D) (ci := 0) (v := .ref fo) (C := RX0) (T := TX0) (N := 6) hx hb hts iwX0_passes_0 hown hE.1 hP 0 rfl rfl 0 (by decide) (hts _ lkX0_passes_0) (fun _ h9 => h9) rfl dX0_passes_1 ?_
  refine lv_lload_n hx hb dX0_passes_4 rfl (lv_at hl 2 rfl) ?_
  refine lv_lload_n hx hb dX0_passes_5 rfl (lv_at hl 2 rfl) ?_
  obtain ⟨r1, h2, h⟩ := bind_s h
  refine kl (kV (As := [.long q1, .long q1]) (rest := []) C0 (kX2_product l D cJ cZ fo zp q1 q1 r1 h2) gX0_passes_X2_product rfl ⟨rfl, rfl⟩ hdX2_product ⟨Nat.le_of_ble_eq_true rfl, Nat.le_of_ble_eq_true rfl⟩ 2 0 rfl rfl rfl (hP.sub [1] rfl) hE hl rfl rfl (Nat.le_of_ble_eq_true rfl) dX0_passes_6 (Nat.zero_le _) (Nat.zero_le _)) ?_
  refine lv_aload_n hx hb dX0_passes_9 rfl (lv_at hl 0 rfl) ?_
  refine lv_lload_n hx hb dX0_passes_10 rfl (lv_at hl 1 rfl) ?_
  obtain ⟨r3, h4, h⟩ := bind_s h
  refine kl (kV (As := [.long q0]) (rest := [.long r1]) C0 (kX0_squareOfY l D cJ cZ co fo zp zr zh zb zt q0 r3 h4) gX0_passes_X0_squareOfY rfl ⟨rfl, rfl⟩ hdX0_squareOfY ⟨Nat.le_of_ble_eq_true rfl, Nat.le_of_ble_eq_true rfl⟩ 0 0 rfl rfl rfl hP hE hl rfl rfl (Nat.le_of_ble_eq_true rfl) dX0_passes_11 (Nat.zero_le _) (Nat.zero_le _)) ?_
  refine lc_ne (tgt := 22) hx hb dX0_passes_14 dX0_passes_15 (by decide) (fun c5 => ?_) (fun c5 => ?_)
  · have h := ite_f c5 h
    refine lv_iconst (v := 0) hx hb dX0_passes_22 (by decide) ?_
    exact reZ (v := false) hx hb hr hlocks h dX0_passes_23
  · have h := ite_t c5 h
    refine lv_iconst (v := 1) hx hb dX0_passes_18 (by decide) ?_
    refine lv_goto (tgt := 23) hx hb dX0_passes_19 (by decide) ?_
    exact reZ (v := true) hx hb hr hlocks h dX0_passes_23
def fX0_areOpposite  (zp : Int64) (q0 : Int64) (q1 : Int64) : Option (Bool) :=
  (fX3_upper q0).bind fun r1 =>
  (fX3_upper q1).bind fun r3 =>
  if r1 = r3 then
    (fX3_lower q0).bind fun r6 =>
    (fX3_lower q1).bind fun r8 =>
    if zp = 0 then none else
    if (jrem (r6 + r8) zp) = 0 then
      some true
    else
      some false
  else
    some false
abbrev rmX0_areOpposite : Room := { frames := 1, cells := 0, slots := 0, locals := 21 }
theorem lkX0_areOpposite_0 : (.initialized RX3 : Cond) ∈ wsX0_areOpposite := by decide +kernel
theorem lkX0_areOpposite_1 : (.static yX3_upper : Cond) ∈ wsX0_areOpposite := by decide +kernel
theorem lkX0_areOpposite_2 : (.static yX3_lower : Cond) ∈ wsX0_areOpposite := by decide +kernel
theorem lkX0_areOpposite_3 : (.fieldLink RX0 21 "PairingDesk$Curve" "p" "J" : Cond) ∈ wsX0_areOpposite := by decide +kernel
theorem iwX0_areOpposite_0 : ∀ w ∈ wsX00, w ∈ wsX0_areOpposite := by decide +kernel
theorem hdX0_areOpposite : KN yX0_areOpposite 2 := by decide +kernel
set_option maxHeartbeats 4000000 in
set_option maxRecDepth 100000 in
theorem kX0_areOpposite (l : Launch) (D : va_G) (cJ cZ : ClassId) (co fo : Nat) (zp : Int64) (zr : Int64) (zh : Int64) (zb : Int64) (zt : Int32) (q0 : Int64) (q1 : Int64) (rr : Bool) (h : fX0_areOpposite zp q0 q1 = some rr) : Met l yX0_areOpposite wsX0_areOpposite rmX0_areOpposite (PP D cJ cZ [.ref co, .long q0, .long q1] [(co, .inr (0, [.ref fo, .long zp, .long zr, .long zh, .long zb, .int zt])), (fo, .inr (2, [.long zp]))]) (SI (bI rr)) 0 0 (fun _ => False) := by
  refine Met.ofW (cc := cX0_areOpposite) (maxL := 5) (ret := some .boolean) (by decide) rfl ?_
  intro pg e s m args below meth c s₁ B hml hv
  obtain ⟨rfl, hP, hE⟩ := hv
  have hx := B.exec
  have hb := B.bytes
  have hr := B.returns
  have hlocks := B.notSynchronized
  have C0 : CallFix pg m c cX0_areOpposite 5 s ([.ref co, .long q0, .long q1] : List Value).toArray wsX0_areOpposite RX0 := ⟨hx, hb, hml, findClass_of_methodNamed B.named, atoms_spec (ws := wsX0_areOpposite) B.pre⟩
  have hown := C0.2.2.2.1
  have hts := C0.2.2.2.2
  have hl := lv_entry ([.ref co, .long q0, .long q1]) (n := 5) (Nat.le_of_ble_eq_true rfl)
  rw [lg_entry_eq]
  generalize (lg_sl ([.ref co, .long q0, .long q1]) ++ List.replicate (5 - (lg_sl ([.ref co, .long q0, .long q1])).length) Slot.unset).toArray = ls at hl ⊢
  have hl : lv_has ls 5 [(0, .ref co), (1, .long q0), (3, .long q1)] := hl
  unfold fX0_areOpposite at h
  refine lv_lload_n hx hb dX0_areOpposite_0 rfl (lv_at hl 1 rfl) ?_
  obtain ⟨r1, h2, h⟩ := bind_s h
  refine kl (kN (As := [.long q0]) (rest := []) C0 (kX3_upper l D cJ cZ q0 r1 h2) gX0_areOpposite_X3_upper_n42 rfl ⟨rfl, rfl⟩ hE.2.2.1 (hts _ lkX0_areOpposite_0) (hts _ lkX0_areOpposite_1) hdX3_upper ⟨Nat.le_of_ble_eq_true rfl, Nat.le_of_ble_eq_true rfl⟩ (hP.sub [] rfl) hE hl rfl rfl (Nat.le_of_ble_eq_true rfl) dX0_areOpposite_1 (Nat.zero_le _) (Nat.zero_le _)) ?_
  refine lv_lload_n hx hb dX0_areOpposite_4 rfl (lv_at hl 2 rfl) ?_
  obtain ⟨r3, h4, h⟩ := bind_s h
  refine kl (kN (As := [.long q1]) (rest := [.long r1]) C0 (kX3_upper l D cJ cZ q1 r3 h4) gX0_areOpposite_X3_upper_n42 rfl ⟨rfl, rfl⟩ hE.2.2.1 (hts _ lkX0_areOpposite_0) (hts _ lkX0_areOpposite_1) hdX3_upper ⟨Nat.le_of_ble_eq_true rfl, Nat.le_of_ble_eq_true rfl⟩ (hP.sub [] rfl) hE hl rfl rfl (Nat.le_of_ble_eq_true rfl) dX0_areOpposite_5 (Nat.zero_le _) (Nat.zero_le _)) ?_
  refine lc_ne (tgt := 35) hx hb dX0_areOpposite_8 dX0_areOpposite_9 (by decide) (fun c5 => ?_) (fun c5 => ?_)
  · have h := ite_f c5 h
    refine lv_iconst (v := 0) hx hb dX0_areOpposite_35 (by decide) ?_
    exact reZ (v := false) hx hb hr hlocks h dX0_areOpposite_36
  · have h := ite_t c5 h
    refine lv_lload_n hx hb dX0_areOpposite_12 rfl (lv_at hl 1 rfl) ?_
    obtain ⟨r6, h7, h⟩ := bind_s h
    refine kl (kN (As := [.long q0]) (rest := []) C0 (kX3_lower l D cJ cZ q0 r6 h7) gX0_areOpposite_X3_lower_n45 rfl ⟨rfl, rfl⟩ hE.2.2.2.1 (hts _ lkX0_areOpposite_0) (hts _ lkX0_areOpposite_2) hdX3_lower ⟨Nat.le_of_ble_eq_true rfl, Nat.le_of_ble_eq_true rfl⟩ (hP.sub [] rfl) hE hl rfl rfl (Nat.le_of_ble_eq_true rfl) dX0_areOpposite_13 (Nat.zero_le _) (Nat.zero_le _)) ?_
    refine lv_lload_n hx hb dX0_areOpposite_16 rfl (lv_at hl 2 rfl) ?_
    obtain ⟨r8, h9, h⟩ := bind_s h
    refine kl (kN (As := [.long q1]) (rest := [.long r6]) C0 (kX3_lower l D cJ cZ q1 r8 h9) gX0_areOpposite_X3_lower_n45 rfl ⟨rfl, rfl⟩ hE.2.2.2.1 (hts _ lkX0_areOpposite_0) (hts _ lkX0_areOpposite_2) hdX3_lower ⟨Nat.le_of_ble_eq_true rfl, Nat.le_of_ble_eq_true rfl⟩ (hP.sub [] rfl) hE hl rfl rfl (Nat.le_of_ble_eq_true rfl) dX0_areOpposite_17 (Nat.zero_le _) (Nat.zero_le _)) ?_
    refine lv_ladd hx hb dX0_areOpposite_20 ?_
    refine lv_aload_n hx hb dX0_areOpposite_21 rfl (lv_at hl 0 rfl) ?_
    refine va_get (D := D) (ci := 0) (v := .long zp) (C := RX0) (T := TX0) (N := 6) hx hb hts iwX0_areOpposite_0 hown hE.1 hP 0 rfl rfl 1 (by decide) (hts _ lkX0_areOpposite_3) (fun _ h9 => h9) rfl dX0_areOpposite_22 ?_
    obtain ⟨c10, h⟩ := ite_n h
    refine lv_lremJ hx hb dX0_areOpposite_25 c10 ?_
    refine lv_lconst (v := 0) hx hb dX0_areOpposite_26 (by decide) ?_
    refine lc_ne (tgt := 35) hx hb dX0_areOpposite_27 dX0_areOpposite_28 (by decide) (fun c11 => ?_) (fun c11 => ?_)
    · have h := ite_f c11 h
      refine lv_iconst (v := 0) hx hb dX0_areOpposite_35 (by decide) ?_
      exact reZ (v := false) hx hb hr hlocks h dX0_areOpposite_36
    · have h := ite_t c11 h
      refine lv_iconst (v := 1) hx hb dX0_areOpposite_31 (by decide) ?_
      refine lv_goto (tgt := 36) hx hb dX0_areOpposite_32 (by decide) ?_
      exact reZ (v := true) hx hb hr hlocks h dX0_areOpposite_36
def fX0_slope (N : Nat) (zp : Int64) (q0 : Int64) (q1 : Int64) : Option (Int64) :=
  (fX3_upper q0).bind fun r1 =>
  (fX3_lower q0).bind fun r3 =>
  (fX3_upper q1).bind fun r5 =>
  if r1 = r5 then
    (fX2_product zp r1 r1).bind fun r20 =>
    if zp = 0 then none else
    bnd (jrem ((3 * r20) + 1) zp) fun w23 =>
    (fX2_inverse N zp (jrem (2 * r3) zp)).bind fun r24 =>
    (fX2_product zp w23 r24).bind fun r26 =>
    some r26
  else
    (fX3_lower q1).bind fun r8 =>
    (fX2_difference zp r8 r3).bind fun r10 =>
    (fX3_upper q1).bind fun r12 =>
    (fX2_difference zp r12 r1).bind fun r14 =>
    (fX2_inverse N zp r14).bind fun r16 =>
    (fX2_product zp r10 r16).bind fun r18 =>
    some r18
abbrev rmX0_slope : Room := { frames := 1, cells := 0, slots := 0, locals := 37 }
theorem lkX0_slope_0 : (.initialized RX3 : Cond) ∈ wsX0_slope := by decide +kernel
theorem lkX0_slope_1 : (.static yX3_upper : Cond) ∈ wsX0_slope := by decide +kernel
theorem lkX0_slope_2 : (.static yX3_lower : Cond) ∈ wsX0_slope := by decide +kernel
theorem lkX0_slope_3 : (.fieldLink RX0 9 "PairingDesk$Curve" "field" "LPairingDesk$PrimeField;" : Cond) ∈ wsX0_slope := by decide +kernel
theorem lkX0_slope_4 : (.constantLong RX0 48 (3) : Cond) ∈ wsX0_slope := by decide +kernel
theorem lkX0_slope_5 : (.fieldLink RX0 21 "PairingDesk$Curve" "p" "J" : Cond) ∈ wsX0_slope := by decide +kernel
theorem lkX0_slope_6 : (.constantLong RX0 50 (2) : Cond) ∈ wsX0_slope := by decide +kernel
theorem iwX0_slope_0 : ∀ w ∈ wsX00, w ∈ wsX0_slope := by decide +kernel
theorem hdX0_slope : KN yX0_slope 2 := by decide +kernel
set_option maxHeartbeats 4000000 in
set_option maxRecDepth 100000 in
theorem kX0_slope (l : Launch) (D : va_G) (cJ cZ : ClassId) (co fo : Nat) (N : Nat) (zp : Int64) (zr : Int64) (zh : Int64) (zb : Int64) (zt : Int32) (q0 : Int64) (q1 : Int64) (rr : Int64) (h : fX0_slope N zp q0 q1 = some rr) : Met l yX0_slope wsX0_slope rmX0_slope (PP D cJ cZ [.ref co, .long q0, .long q1] [(co, .inr (0, [.ref fo, .long zp, .long zr, .long zh, .long zb, .int zt])), (fo, .inr (2, [.long zp]))]) (SL rr) 0 0 (fun _ => False) := by
  refine Met.ofW (cc := cX0_slope) (maxL := 11) (ret := some .long) (by decide) rfl ?_
  intro pg e s m args below meth c s₁ B hml hv
  obtain ⟨rfl, hP, hE⟩ := hv
  have hx := B.exec
  have hb := B.bytes
  have hr := B.returns
  have hlocks := B.notSynchronized
  have C0 : CallFix pg m c cX0_slope 11 s ([.ref co, .long q0, .long q1] : List Value).toArray wsX0_slope RX0 := ⟨hx, hb, hml, findClass_of_methodNamed B.named, atoms_spec (ws := wsX0_slope) B.pre⟩
  have hown := C0.2.2.2.1
  have hts := C0.2.2.2.2
  have hl := lv_entry ([.ref co, .long q0, .long q1]) (n := 11) (Nat.le_of_ble_eq_true rfl)
  rw [lg_entry_eq]
  generalize (lg_sl ([.ref co, .long q0, .long q1]) ++ List.replicate (11 - (lg_sl ([.ref co, .long q0, .long q1])).length) Slot.unset).toArray = ls at hl ⊢
  have hl : lv_has ls 11 [(0, .ref co), (1, .long q0), (3, .long q1)] := hl
  unfold fX0_slope at h
  refine lv_lload_n hx hb dX0_slope_0 rfl (lv_at hl 1 rfl) ?_
  obtain ⟨r1, h2, h⟩ := bind_s h
  refine kl (kN (As := [.long q0]) (rest := []) C0 (kX3_upper l D cJ cZ q0 r1 h2) gX0_slope_X3_upper_n42 rfl ⟨rfl, rfl⟩ hE.2.2.1 (hts _ lkX0_slope_0) (hts _ lkX0_slope_1) hdX3_upper ⟨Nat.le_of_ble_eq_true rfl, Nat.le_of_ble_eq_true rfl⟩ (hP.sub [] rfl) hE hl rfl rfl (Nat.le_of_ble_eq_true rfl) dX0_slope_1 (Nat.zero_le _) (Nat.zero_le _)) ?_
  refine lv_lstore (lv' := [(5, .long r1), (0, .ref co), (1, .long q0), (3, .long q1)]) hx hb dX0_slope_4 hl (by decide) rfl (fun ls hl => ?_)
  refine lv_lload_n hx hb dX0_slope_6 rfl (lv_at hl 2 rfl) ?_
  obtain ⟨r3, h4, h⟩ := bind_s h
  refine kl (kN (As := [.long q0]) (rest := []) C0 (kX3_lower l D cJ cZ q0 r3 h4) gX0_slope_X3_lower_n45 rfl ⟨rfl, rfl⟩ hE.2.2.2.1 (hts _ lkX0_slope_0) (hts _ lkX0_slope_2) hdX3_lower ⟨Nat.le_of_ble_eq_true rfl, Nat.le_of_ble_eq_true rfl⟩ (hP.sub [] rfl) hE hl rfl rfl (Nat.le_of_ble_eq_true rfl) dX0_slope_7 (Nat.zero_le _) (Nat.zero_le _)) ?_
  refine lv_lstore (lv' := [(7, .long r3), (5, .long r1), (0, .ref co), (1, .long q0), (3, .long q1)]) hx hb dX0_slope_10 hl (by decide) rfl (fun ls hl => ?_)
  refine lv_lload hx hb dX0_slope_12 (lv_at hl 1 rfl) ?_
  refine lv_lload_n hx hb dX0_slope_14 rfl (lv_at hl 4 rfl) ?_
  obtain ⟨r5, h6, h⟩ := bind_s h
  refine kl (kN (As := [.long q1]) (rest := [.long r1]) C0 (kX3_upper l D cJ cZ q1 r5 h6) gX0_slope_X3_upper_n42 rfl ⟨rfl, rfl⟩ hE.2.2.1 (hts _ lkX0_slope_0) (hts _ lkX0_slope_1) hdX3_upper ⟨Nat.le_of_ble_eq_true rfl, Nat.le_of_ble_eq_true rfl⟩ (hP.sub [] rfl) hE hl rfl rfl (Nat.le_of_ble_eq_true rfl) dX0_slope_15 (Nat.zero_le _) (Nat.zero_le _)) ?_
  refine lc_ne (tgt := 74) hx hb dX0_slope_18 dX0_slope_19 (by decide) (fun c7 => ?_) (fun c7 => ?_)
  · have h := ite_f c7 h
    refine lv_aload_n hx hb dX0_slope_74 rfl (lv_at hl 2 rfl) ?_
    refine va_get (D := D) (ci := 0) (v := .ref fo) (C := RX0) (T := TX0) (N := 6) hx hb hts iwX0_slope_0 hown hE.1 hP 0 rfl rfl 0 (by decide) (hts _ lkX0_slope_3) (fun _ h9 => h9) rfl dX0_slope_75 ?_
    refine lv_lload_n hx hb dX0_slope_78 rfl (lv_at hl 4 rfl) ?_
    obtain ⟨r8, h9, h⟩ := bind_s h
    refine kl (kN (As := [.long q1]) (rest := [.ref fo]) C0 (kX3_lower l D cJ cZ q1 r8 h9) gX0_slope_X3_lower_n45 rfl ⟨rfl, rfl⟩ hE.2.2.2.1 (hts _ lkX0_slope_0) (hts _ lkX0_slope_2) hdX3_lower ⟨Nat.le_of_ble_eq_true rfl, Nat.le_of_ble_eq_true rfl⟩ (hP.sub [] rfl) hE hl rfl rfl (Nat.le_of_ble_eq_true rfl) dX0_slope_79 (Nat.zero_le _) (Nat.zero_le _)) ?_
    refine lv_lload hx hb dX0_slope_82 (lv_at hl 0 rfl) ?_
    obtain ⟨r10, h11, h⟩ := bind_s h
    refine kl (kV (As := [.long r8, .long r3]) (rest := []) C0 (kX2_difference l D cJ cZ fo zp r8 r3 r10 h11) gX0_slope_X2_difference rfl ⟨rfl, rfl⟩ hdX2_difference ⟨Nat.le_of_ble_eq_true rfl, Nat.le_of_ble_eq_true rfl⟩ 2 0 rfl rfl rfl (hP.sub [1] rfl) hE hl rfl rfl (Nat.le_of_ble_eq_true rfl) dX0_slope_84 (Nat.zero_le _) (Nat.zero_le _)) ?_
    refine lv_lstore (lv' := [(9, .long r10), (7, .long r3), (5, .long r1), (0, .ref co), (1, .long q0), (3, .long q1)]) hx hb dX0_slope_87 hl (by decide) rfl (fun ls hl => ?_)
    refine lv_aload_n hx hb dX0_slope_89 rfl (lv_at hl 3 rfl) ?_
    refine va_get (D := D) (ci := 0) (v := .ref fo) (C := RX0) (T := TX0) (N := 6) hx hb hts iwX0_slope_0 hown hE.1 hP 0 rfl rfl 0 (by decide) (hts _ lkX0_slope_3) (fun _ h9 => h9) rfl dX0_slope_90 ?_
    refine lv_lload hx hb dX0_slope_93 (lv_at hl 0 rfl) ?_
    refine lv_aload_n hx hb dX0_slope_95 rfl (lv_at hl 3 rfl) ?_
    refine va_get (D := D) (ci := 0) (v := .ref fo) (C := RX0) (T := TX0) (N := 6) hx hb hts iwX0_slope_0 hown hE.1 hP 0 rfl rfl 0 (by decide) (hts _ lkX0_slope_3) (fun _ h9 => h9) rfl dX0_slope_96 ?_
    refine lv_aload_n hx hb dX0_slope_99 rfl (lv_at hl 3 rfl) ?_
    refine va_get (D := D) (ci := 0) (v := .ref fo) (C := RX0) (T := TX0) (N := 6) hx hb hts iwX0_slope_0 hown hE.1 hP 0 rfl rfl 0 (by decide) (hts _ lkX0_slope_3) (fun _ h9 => h9) rfl dX0_slope_100 ?_
    refine lv_lload_n hx hb dX0_slope_103 rfl (lv_at hl 5 rfl) ?_
    obtain ⟨r12, h13, h⟩ := bind_s h
    refine kl (kN (As := [.long q1]) (rest := [.ref fo, .ref fo, .long r10, .ref fo]) C0 (kX3_upper l D cJ cZ q1 r12 h13) gX0_slope_X3_upper_n42 rfl ⟨rfl, rfl⟩ hE.2.2.1 (hts _ lkX0_slope_0) (hts _ lkX0_slope_1) hdX3_upper ⟨Nat.le_of_ble_eq_true rfl, Nat.le_of_ble_eq_true rfl⟩ (hP.sub [] rfl) hE hl rfl rfl (Nat.le_of_ble_eq_true rfl) dX0_slope_104 (Nat.zero_le _) (Nat.zero_le _)) ?_
    refine lv_lload hx hb dX0_slope_107 (lv_at hl 2 rfl) ?_
    obtain ⟨r14, h15, h⟩ := bind_s h
    refine kl (kV (As := [.long r12, .long r1]) (rest := [.ref fo, .long r10, .ref fo]) C0 (kX2_difference l D cJ cZ fo zp r12 r1 r14 h15) gX0_slope_X2_difference rfl ⟨rfl, rfl⟩ hdX2_difference ⟨Nat.le_of_ble_eq_true rfl, Nat.le_of_ble_eq_true rfl⟩ 2 0 rfl rfl rfl (hP.sub [1] rfl) hE hl rfl rfl (Nat.le_of_ble_eq_true rfl) dX0_slope_109 (Nat.zero_le _) (Nat.zero_le _)) ?_
    obtain ⟨r16, h17, h⟩ := bind_s h
    refine kl (kV (As := [.long r14]) (rest := [.long r10, .ref fo]) C0 (kX2_inverse l D cJ cZ fo N zp r14 r16 h17) gX0_slope_X2_inverse rfl ⟨rfl, rfl⟩ hdX2_inverse ⟨Nat.le_of_ble_eq_true rfl, Nat.le_of_ble_eq_true rfl⟩ 2 0 rfl rfl rfl (hP.sub [1] rfl) hE hl rfl rfl (Nat.le_of_ble_eq_true rfl) dX0_slope_112 (Nat.zero_le _) (Nat.zero_le _)) ?_
    obtain ⟨r18, h19, h⟩ := bind_s h
    refine kl (kV (As := [.long r10, .long r16]) (rest := []) C0 (kX2_product l D cJ cZ fo zp r10 r16 r18 h19) gX0_slope_X2_product rfl ⟨rfl, rfl⟩ hdX2_product ⟨Nat.le_of_ble_eq_true rfl, Nat.le_of_ble_eq_true rfl⟩ 2 0 rfl rfl rfl (hP.sub [1] rfl) hE hl rfl rfl (Nat.le_of_ble_eq_true rfl) dX0_slope_115 (Nat.zero_le _) (Nat.zero_le _)) ?_
    exact reL hx hb hr hlocks h dX0_slope_118
  · have h := ite_t c7 h
    refine lv_ldc2 (v := 3) hx hb hown (hts _ lkX0_slope_4) dX0_slope_22 ?_
    refine lv_aload_n hx hb dX0_slope_25 rfl (lv_at hl 2 rfl) ?_
    refine va_get (D := D) (ci := 0) (v := .ref fo) (C := RX0) (T := TX0) (N := 6) hx hb hts iwX0_slope_0 hown hE.1 hP 0 rfl rfl 0 (by decide) (hts _ lkX0_slope_3) (fun _ h9 => h9) rfl dX0_slope_26 ?_
    refine lv_lload hx hb dX0_slope_29 (lv_at hl 1 rfl) ?_
    refine lv_lload hx hb dX0_slope_31 (lv_at hl 1 rfl) ?_
    obtain ⟨r20, h21, h⟩ := bind_s h
    refine kl (kV (As := [.long r1, .long r1]) (rest := [.long 3]) C0 (kX2_product l D cJ cZ fo zp r1 r1 r20 h21) gX0_slope_X2_product rfl ⟨rfl, rfl⟩ hdX2_product ⟨Nat.le_of_ble_eq_true rfl, Nat.le_of_ble_eq_true rfl⟩ 2 0 rfl rfl rfl (hP.sub [1] rfl) hE hl rfl rfl (Nat.le_of_ble_eq_true rfl) dX0_slope_33 (Nat.zero_le _) (Nat.zero_le _)) ?_
    refine lv_lmul hx hb dX0_slope_36 ?_
    refine lv_lconst (v := 1) hx hb dX0_slope_37 (by decide) ?_
    refine lv_ladd hx hb dX0_slope_38 ?_
    refine lv_aload_n hx hb dX0_slope_39 rfl (lv_at hl 2 rfl) ?_
    refine va_get (D := D) (ci := 0) (v := .long zp) (C := RX0) (T := TX0) (N := 6) hx hb hts iwX0_slope_0 hown hE.1 hP 0 rfl rfl 1 (by decide) (hts _ lkX0_slope_5) (fun _ h9 => h9) rfl dX0_slope_40 ?_
    obtain ⟨c22, h⟩ := ite_n h
    refine lv_lremJ hx hb dX0_slope_43 c22 ?_
    obtain ⟨w23, ew23, h⟩ := bnd_s h
    refine tl ew23.symm ?_
    refine lv_lstore (lv' := [(9, .long w23), (7, .long r3), (5, .long r1), (0, .ref co), (1, .long q0), (3, .long q1)]) hx hb dX0_slope_44 hl (by decide) rfl (fun ls hl => ?_)
    refine lv_aload_n hx hb dX0_slope_46 rfl (lv_at hl 3 rfl) ?_
    refine va_get (D := D) (ci := 0) (v := .ref fo) (C := RX0) (T := TX0) (N := 6) hx hb hts iwX0_slope_0 hown hE.1 hP 0 rfl rfl 0 (by decide) (hts _ lkX0_slope_3) (fun _ h9 => h9) rfl dX0_slope_47 ?_
    refine lv_lload hx hb dX0_slope_50 (lv_at hl 0 rfl) ?_
    refine lv_aload_n hx hb dX0_slope_52 rfl (lv_at hl 3 rfl) ?_
    refine va_get (D := D) (ci := 0) (v := .ref fo) (C := RX0) (T := TX0) (N := 6) hx hb hts iwX0_slope_0 hown hE.1 hP 0 rfl rfl 0 (by decide) (hts _ lkX0_slope_3) (fun _ h9 => h9) rfl dX0_slope_53 ?_
    refine lv_ldc2 (v := 2) hx hb hown (hts _ lkX0_slope_6) dX0_slope_56 ?_
    refine lv_lload hx hb dX0_slope_59 (lv_at hl 1 rfl) ?_
    refine lv_lmul hx hb dX0_slope_61 ?_
    refine lv_aload_n hx hb dX0_slope_62 rfl (lv_at hl 3 rfl) ?_
    refine va_get (D := D) (ci := 0) (v := .long zp) (C := RX0) (T := TX0) (N := 6) hx hb hts iwX0_slope_0 hown hE.1 hP 0 rfl rfl 1 (by decide) (hts _ lkX0_slope_5) (fun _ h9 => h9) rfl dX0_slope_63 ?_
    refine lv_lremJ hx hb dX0_slope_66 c22 ?_
    obtain ⟨r24, h25, h⟩ := bind_s h
    refine kl (kV (As := [.long (jrem (2 * r3) zp)]) (rest := [.long w23, .ref fo]) C0 (kX2_inverse l D cJ cZ fo N zp (jrem (2 * r3) zp) r24 h25) gX0_slope_X2_inverse rfl ⟨rfl, rfl⟩ hdX2_inverse ⟨Nat.le_of_ble_eq_true rfl, Nat.le_of_ble_eq_true rfl⟩ 2 0 rfl rfl rfl (hP.sub [1] rfl) hE hl rfl rfl (Nat.le_of_ble_eq_true rfl) dX0_slope_67 (Nat.zero_le _) (Nat.zero_le _)) ?_
    obtain ⟨r26, h27, h⟩ := bind_s h
    refine kl (kV (As := [.long w23, .long r24]) (rest := []) C0 (kX2_product l D cJ cZ fo zp w23 r24 r26 h27) gX0_slope_X2_product rfl ⟨rfl, rfl⟩ hdX2_product ⟨Nat.le_of_ble_eq_true rfl, Nat.le_of_ble_eq_true rfl⟩ 2 0 rfl rfl rfl (hP.sub [1] rfl) hE hl rfl rfl (Nat.le_of_ble_eq_true rfl) dX0_slope_70 (Nat.zero_le _) (Nat.zero_le _)) ?_
    exact reL hx hb hr hlocks h dX0_slope_73
def fX0_sum (N : Nat) (zp : Int64) (q0 : Int64) (q1 : Int64) : Option (Int64) :=
  if q0 = (-1) then
    some q1
  else
    if q1 = (-1) then
      some q0
    else
      (fX0_areOpposite zp q0 q1).bind fun r3 =>
      if (bI r3) = 0 then
        (fX0_slope N zp q0 q1).bind fun r6 =>
        (fX2_product zp r6 r6).bind fun r8 =>
        (fX3_upper q0).bind fun r10 =>
        (fX2_difference zp r8 r10).bind fun r12 =>
        (fX3_upper q1).bind fun r14 =>
        (fX2_difference zp r12 r14).bind fun r16 =>
        (fX3_upper q0).bind fun r18 =>
        (fX2_difference zp r18 r16).bind fun r20 =>
        (fX2_product zp r6 r20).bind fun r22 =>
        (fX3_lower q0).bind fun r24 =>
        (fX2_difference zp r22 r24).bind fun r26 =>
        (fX3_joined r16 r26).bind fun r28 =>
        some r28
      else
        some (-1)
abbrev rmX0_sum : Room := { frames := 2, cells := 0, slots := 0, locals := 67 }
theorem lkX0_sum_0 : (.constantLong RX0 58 (-1) : Cond) ∈ wsX0_sum := by decide +kernel
theorem lkX0_sum_1 : (.fieldLink RX0 9 "PairingDesk$Curve" "field" "LPairingDesk$PrimeField;" : Cond) ∈ wsX0_sum := by decide +kernel
theorem lkX0_sum_2 : (.initialized RX3 : Cond) ∈ wsX0_sum := by decide +kernel
theorem lkX0_sum_3 : (.static yX3_upper : Cond) ∈ wsX0_sum := by decide +kernel
theorem lkX0_sum_4 : (.static yX3_lower : Cond) ∈ wsX0_sum := by decide +kernel
theorem lkX0_sum_5 : (.static yX3_joined : Cond) ∈ wsX0_sum := by decide +kernel
theorem iwX0_sum_0 : ∀ w ∈ wsX00, w ∈ wsX0_sum := by decide +kernel
theorem hdX0_sum : KN yX0_sum 2 := by decide +kernel
set_option maxHeartbeats 4000000 in
set_option maxRecDepth 100000 in
theorem kX0_sum (l : Launch) (D : va_G) (cJ cZ : ClassId) (co fo : Nat) (N : Nat) (zp : Int64) (zr : Int64) (zh : Int64) (zb : Int64) (zt : Int32) (q0 : Int64) (q1 : Int64) (rr : Int64) (h : fX0_sum N zp q0 q1 = some rr) : Met l yX0_sum wsX0_sum rmX0_sum (PP D cJ cZ [.ref co, .long q0, .long q1] [(co, .inr (0, [.ref fo, .long zp, .long zr, .long zh, .long zb, .int zt])), (fo, .inr (2, [.long zp]))]) (SL rr) 0 0 (fun _ => False) := by
  refine Met.ofW (cc := cX0_sum) (maxL := 11) (ret := some .long) (by decide) rfl ?_
  intro pg e s m args below meth c s₁ B hml hv
  obtain ⟨rfl, hP, hE⟩ := hv
  have hx := B.exec
  have hb := B.bytes
  have hr := B.returns
  have hlocks := B.notSynchronized
  have C0 : CallFix pg m c cX0_sum 11 s ([.ref co, .long q0, .long q1] : List Value).toArray wsX0_sum RX0 := ⟨hx, hb, hml, findClass_of_methodNamed B.named, atoms_spec (ws := wsX0_sum) B.pre⟩
  have hown := C0.2.2.2.1
  have hts := C0.2.2.2.2
  have hl := lv_entry ([.ref co, .long q0, .long q1]) (n := 11) (Nat.le_of_ble_eq_true rfl)
  rw [lg_entry_eq]
  generalize (lg_sl ([.ref co, .long q0, .long q1]) ++ List.replicate (11 - (lg_sl ([.ref co, .long q0, .long q1])).length) Slot.unset).toArray = ls at hl ⊢
  have hl : lv_has ls 11 [(0, .ref co), (1, .long q0), (3, .long q1)] := hl
  unfold fX0_sum at h
  refine lv_lload_n hx hb dX0_sum_0 rfl (lv_at hl 1 rfl) ?_
  refine lv_ldc2 (v := (-1)) hx hb hown (hts _ lkX0_sum_0) dX0_sum_1 ?_
  refine lc_ne (tgt := 10) hx hb dX0_sum_4 dX0_sum_5 (by decide) (fun c1 => ?_) (fun c1 => ?_)
  · have h := ite_f c1 h
    refine lv_lload_n hx hb dX0_sum_10 rfl (lv_at hl 2 rfl) ?_
    refine lv_ldc2 (v := (-1)) hx hb hown (hts _ lkX0_sum_0) dX0_sum_11 ?_
    refine lc_ne (tgt := 20) hx hb dX0_sum_14 dX0_sum_15 (by decide) (fun c2 => ?_) (fun c2 => ?_)
    · have h := ite_f c2 h
      refine lv_aload_n hx hb dX0_sum_20 rfl (lv_at hl 0 rfl) ?_
      refine lv_lload_n hx hb dX0_sum_21 rfl (lv_at hl 1 rfl) ?_
      refine lv_lload_n hx hb dX0_sum_22 rfl (lv_at hl 2 rfl) ?_
      obtain ⟨r3, h4, h⟩ := bind_s h
      refine ki (kV (As := [.long q0, .long q1]) (rest := []) C0 (kX0_areOpposite l D cJ cZ co fo zp zr zh zb zt q0 q1 r3 h4) gX0_sum_X0_areOpposite rfl ⟨rfl, rfl⟩ hdX0_areOpposite ⟨Nat.le_of_ble_eq_true rfl, Nat.le_of_ble_eq_true rfl⟩ 0 0 rfl rfl rfl hP hE hl rfl rfl (Nat.le_of_ble_eq_true rfl) dX0_sum_23 (Nat.zero_le _) (Nat.zero_le _)) ?_
      refine lv_if_eq (tgt := 33) hx hb dX0_sum_26 (by decide) (fun c5 => ?_) (fun c5 => ?_)
      · have h := ite_t c5 h
        refine lv_aload_n hx hb dX0_sum_33 rfl (lv_at hl 0 rfl) ?_
        refine lv_lload_n hx hb dX0_sum_34 rfl (lv_at hl 1 rfl) ?_
        refine lv_lload_n hx hb dX0_sum_35 rfl (lv_at hl 2 rfl) ?_
        obtain ⟨r6, h7, h⟩ := bind_s h
        refine kl (kV (As := [.long q0, .long q1]) (rest := []) C0 (kX0_slope l D cJ cZ co fo N zp zr zh zb zt q0 q1 r6 h7) gX0_sum_X0_slope rfl ⟨rfl, rfl⟩ hdX0_slope ⟨Nat.le_of_ble_eq_true rfl, Nat.le_of_ble_eq_true rfl⟩ 0 0 rfl rfl rfl hP hE hl rfl rfl (Nat.le_of_ble_eq_true rfl) dX0_sum_36 (Nat.zero_le _) (Nat.zero_le _)) ?_
        refine lv_lstore (lv' := [(5, .long r6), (0, .ref co), (1, .long q0), (3, .long q1)]) hx hb dX0_sum_39 hl (by decide) rfl (fun ls hl => ?_)
        refine lv_aload_n hx hb dX0_sum_41 rfl (lv_at hl 1 rfl) ?_
        refine va_get (D := D) (ci := 0) (v := .ref fo) (C := RX0) (T := TX0) (N := 6) hx hb hts iwX0_sum_0 hown hE.1 hP 0 rfl rfl 0 (by decide) (hts _ lkX0_sum_1) (fun _ h9 => h9) rfl dX0_sum_42 ?_
        refine lv_aload_n hx hb dX0_sum_45 rfl (lv_at hl 1 rfl) ?_
        refine va_get (D := D) (ci := 0) (v := .ref fo) (C := RX0) (T := TX0) (N := 6) hx hb hts iwX0_sum_0 hown hE.1 hP 0 rfl rfl 0 (by decide) (hts _ lkX0_sum_1) (fun _ h9 => h9) rfl dX0_sum_46 ?_
        refine lv_aload_n hx hb dX0_sum_49 rfl (lv_at hl 1 rfl) ?_
        refine va_get (D := D) (ci := 0) (v := .ref fo) (C := RX0) (T := TX0) (N := 6) hx hb hts iwX0_sum_0 hown hE.1 hP 0 rfl rfl 0 (by decide) (hts _ lkX0_sum_1) (fun _ h9 => h9) rfl dX0_sum_50 ?_
        refine lv_lload hx hb dX0_sum_53 (lv_at hl 0 rfl) ?_
        refine lv_lload hx hb dX0_sum_55 (lv_at hl 0 rfl) ?_
        obtain ⟨r8, h9, h⟩ := bind_s h
        refine kl (kV (As := [.long r6, .long r6]) (rest := [.ref fo, .ref fo]) C0 (kX2_product l D cJ cZ fo zp r6 r6 r8 h9) gX0_sum_X2_product rfl ⟨rfl, rfl⟩ hdX2_product ⟨Nat.le_of_ble_eq_true rfl, Nat.le_of_ble_eq_true rfl⟩ 2 0 rfl rfl rfl (hP.sub [1] rfl) hE hl rfl rfl (Nat.le_of_ble_eq_true rfl) dX0_sum_57 (Nat.zero_le _) (Nat.zero_le _)) ?_
        refine lv_lload_n hx hb dX0_sum_60 rfl (lv_at hl 2 rfl) ?_
        obtain ⟨r10, h11, h⟩ := bind_s h
        refine kl (kN (As := [.long q0]) (rest := [.long r8, .ref fo, .ref fo]) C0 (kX3_upper l D cJ cZ q0 r10 h11) gX0_sum_X3_upper_n42 rfl ⟨rfl, rfl⟩ hE.2.2.1 (hts _ lkX0_sum_2) (hts _ lkX0_sum_3) hdX3_upper ⟨Nat.le_of_ble_eq_true rfl, Nat.le_of_ble_eq_true rfl⟩ (hP.sub [] rfl) hE hl rfl rfl (Nat.le_of_ble_eq_true rfl) dX0_sum_61 (Nat.zero_le _) (Nat.zero_le _)) ?_
        obtain ⟨r12, h13, h⟩ := bind_s h
        refine kl (kV (As := [.long r8, .long r10]) (rest := [.ref fo]) C0 (kX2_difference l D cJ cZ fo zp r8 r10 r12 h13) gX0_sum_X2_difference rfl ⟨rfl, rfl⟩ hdX2_difference ⟨Nat.le_of_ble_eq_true rfl, Nat.le_of_ble_eq_true rfl⟩ 2 0 rfl rfl rfl (hP.sub [1] rfl) hE hl rfl rfl (Nat.le_of_ble_eq_true rfl) dX0_sum_64 (Nat.zero_le _) (Nat.zero_le _)) ?_
        refine lv_lload_n hx hb dX0_sum_67 rfl (lv_at hl 3 rfl) ?_
        obtain ⟨r14, h15, h⟩ := bind_s h
        refine kl (kN (As := [.long q1]) (rest := [.long r12, .ref fo]) C0 (kX3_upper l D cJ cZ q1 r14 h15) gX0_sum_X3_upper_n42 rfl ⟨rfl, rfl⟩ hE.2.2.1 (hts _ lkX0_sum_2) (hts _ lkX0_sum_3) hdX3_upper ⟨Nat.le_of_ble_eq_true rfl, Nat.le_of_ble_eq_true rfl⟩ (hP.sub [] rfl) hE hl rfl rfl (Nat.le_of_ble_eq_true rfl) dX0_sum_68 (Nat.zero_le _) (Nat.zero_le _)) ?_
        obtain ⟨r16, h17, h⟩ := bind_s h
        refine kl (kV (As := [.long r12, .long r14]) (rest := []) C0 (kX2_difference l D cJ cZ fo zp r12 r14 r16 h17) gX0_sum_X2_difference rfl ⟨rfl, rfl⟩ hdX2_difference ⟨Nat.le_of_ble_eq_true rfl, Nat.le_of_ble_eq_true rfl⟩ 2 0 rfl rfl rfl (hP.sub [1] rfl) hE hl rfl rfl (Nat.le_of_ble_eq_true rfl) dX0_sum_71 (Nat.zero_le _) (Nat.zero_le _)) ?_
        refine lv_lstore (lv' := [(7, .long r16), (5, .long r6), (0, .ref co), (1, .long q0), (3, .long q1)]) hx hb dX0_sum_74 hl (by decide) rfl (fun ls hl => ?_)
        refine lv_aload_n hx hb dX0_sum_76 rfl (lv_at hl 2 rfl) ?_
        refine va_get (D := D) (ci := 0) (v := .ref fo) (C := RX0) (T := TX0) (N := 6) hx hb hts iwX0_sum_0 hown hE.1 hP 0 rfl rfl 0 (by decide) (hts _ lkX0_sum_1) (fun _ h9 => h9) rfl dX0_sum_77 ?_
        refine lv_aload_n hx hb dX0_sum_80 rfl (lv_at hl 2 rfl) ?_
        refine va_get (D := D) (ci := 0) (v := .ref fo) (C := RX0) (T := TX0) (N := 6) hx hb hts iwX0_sum_0 hown hE.1 hP 0 rfl rfl 0 (by decide) (hts _ lkX0_sum_1) (fun _ h9 => h9) rfl dX0_sum_81 ?_
        refine lv_lload hx hb dX0_sum_84 (lv_at hl 1 rfl) ?_
        refine lv_aload_n hx hb dX0_sum_86 rfl (lv_at hl 2 rfl) ?_
        refine va_get (D := D) (ci := 0) (v := .ref fo) (C := RX0) (T := TX0) (N := 6) hx hb hts iwX0_sum_0 hown hE.1 hP 0 rfl rfl 0 (by decide) (hts _ lkX0_sum_1) (fun _ h9 => h9) rfl dX0_sum_87 ?_
        refine lv_lload_n hx hb dX0_sum_90 rfl (lv_at hl 3 rfl) ?_
        obtain ⟨r18, h19, h⟩ := bind_s h
        refine kl (kN (As := [.long q0]) (rest := [.ref fo, .long r6, .ref fo, .ref fo]) C0 (kX3_upper l D cJ cZ q0 r18 h19) gX0_sum_X3_upper_n42 rfl ⟨rfl, rfl⟩ hE.2.2.1 (hts _ lkX0_sum_2) (hts _ lkX0_sum_3) hdX3_upper ⟨Nat.le_of_ble_eq_true rfl, Nat.le_of_ble_eq_true rfl⟩ (hP.sub [] rfl) hE hl rfl rfl (Nat.le_of_ble_eq_true rfl) dX0_sum_91 (Nat.zero_le _) (Nat.zero_le _)) ?_
        refine lv_lload hx hb dX0_sum_94 (lv_at hl 0 rfl) ?_
        obtain ⟨r20, h21, h⟩ := bind_s h
        refine kl (kV (As := [.long r18, .long r16]) (rest := [.long r6, .ref fo, .ref fo]) C0 (kX2_difference l D cJ cZ fo zp r18 r16 r20 h21) gX0_sum_X2_difference rfl ⟨rfl, rfl⟩ hdX2_difference ⟨Nat.le_of_ble_eq_true rfl, Nat.le_of_ble_eq_true rfl⟩ 2 0 rfl rfl rfl (hP.sub [1] rfl) hE hl rfl rfl (Nat.le_of_ble_eq_true rfl) dX0_sum_96 (Nat.zero_le _) (Nat.zero_le _)) ?_
        obtain ⟨r22, h23, h⟩ := bind_s h
        refine kl (kV (As := [.long r6, .long r20]) (rest := [.ref fo]) C0 (kX2_product l D cJ cZ fo zp r6 r20 r22 h23) gX0_sum_X2_product rfl ⟨rfl, rfl⟩ hdX2_product ⟨Nat.le_of_ble_eq_true rfl, Nat.le_of_ble_eq_true rfl⟩ 2 0 rfl rfl rfl (hP.sub [1] rfl) hE hl rfl rfl (Nat.le_of_ble_eq_true rfl) dX0_sum_99 (Nat.zero_le _) (Nat.zero_le _)) ?_
        refine lv_lload_n hx hb dX0_sum_102 rfl (lv_at hl 3 rfl) ?_
        obtain ⟨r24, h25, h⟩ := bind_s h
        refine kl (kN (As := [.long q0]) (rest := [.long r22, .ref fo]) C0 (kX3_lower l D cJ cZ q0 r24 h25) gX0_sum_X3_lower_n45 rfl ⟨rfl, rfl⟩ hE.2.2.2.1 (hts _ lkX0_sum_2) (hts _ lkX0_sum_4) hdX3_lower ⟨Nat.le_of_ble_eq_true rfl, Nat.le_of_ble_eq_true rfl⟩ (hP.sub [] rfl) hE hl rfl rfl (Nat.le_of_ble_eq_true rfl) dX0_sum_103 (Nat.zero_le _) (Nat.zero_le _)) ?_
        obtain ⟨r26, h27, h⟩ := bind_s h
        refine kl (kV (As := [.long r22, .long r24]) (rest := []) C0 (kX2_difference l D cJ cZ fo zp r22 r24 r26 h27) gX0_sum_X2_difference rfl ⟨rfl, rfl⟩ hdX2_difference ⟨Nat.le_of_ble_eq_true rfl, Nat.le_of_ble_eq_true rfl⟩ 2 0 rfl rfl rfl (hP.sub [1] rfl) hE hl rfl rfl (Nat.le_of_ble_eq_true rfl) dX0_sum_106 (Nat.zero_le _) (Nat.zero_le _)) ?_
        refine lv_lstore (lv' := [(9, .long r26), (7, .long r16), (5, .long r6), (0, .ref co), (1, .long q0), (3, .long q1)]) hx hb dX0_sum_109 hl (by decide) rfl (fun ls hl => ?_)
        refine lv_lload hx hb dX0_sum_111 (lv_at hl 1 rfl) ?_
        refine lv_lload hx hb dX0_sum_113 (lv_at hl 0 rfl) ?_
        obtain ⟨r28, h29, h⟩ := bind_s h
        refine kl (kN (As := [.long r16, .long r26]) (rest := []) C0 (kX3_joined l D cJ cZ r16 r26 r28 h29) gX0_sum_X3_joined_n67 rfl ⟨rfl, rfl⟩ hE.2.1 (hts _ lkX0_sum_2) (hts _ lkX0_sum_5) hdX3_joined ⟨Nat.le_of_ble_eq_true rfl, Nat.le_of_ble_eq_true rfl⟩ (hP.sub [] rfl) hE hl rfl rfl (Nat.le_of_ble_eq_true rfl) dX0_sum_115 (Nat.zero_le _) (Nat.zero_le _)) ?_
        exact reL hx hb hr hlocks h dX0_sum_118
      · have h := ite_f c5 h
        refine lv_ldc2 (v := (-1)) hx hb hown (hts _ lkX0_sum_0) dX0_sum_29 ?_
        exact reL hx hb hr hlocks h dX0_sum_32
    · have h := ite_t c2 h
      refine lv_lload_n hx hb dX0_sum_18 rfl (lv_at hl 1 rfl) ?_
      exact reL hx hb hr hlocks h dX0_sum_19
  · have h := ite_t c1 h
    refine lv_lload_n hx hb dX0_sum_8 rfl (lv_at hl 2 rfl) ?_
    exact reL hx hb hr hlocks h dX0_sum_9
def fX0_multiple_20 (N : Nat) (zp : Int64) : Nat → Int64 → Int64 → Int64 → Option (Int64)
  | 0, _, _, _ => none
  | n + 1, l5, l7, l9 =>
    if l9 ≤ 0 then
      some l5
    else
      if (jrem l9 2) = 1 then
        (fX0_sum N zp l5 l7).bind fun r8 =>
        (fX0_sum N zp l7 l7).bind fun r10 =>
        bnd (jshr l9 1) fun w12 =>
        fX0_multiple_20 N zp n r8 r10 w12
      else
        (fX0_sum N zp l7 l7).bind fun r5 =>
        bnd (jshr l9 1) fun w7 =>
        fX0_multiple_20 N zp n l5 r5 w7
def fX0_multiple (N : Nat) (zp : Int64) (q0 : Int64) (q1 : Int64) : Option (Int64) :=
  (fJ9_floorMod_f86c9 q0 (zp + 1)).bind fun r1 =>
  fX0_multiple_20 N zp N (-1) q1 r1
abbrev rmX0_multiple : Room := { frames := 3, cells := 0, slots := 0, locals := 97 }
theorem lkX0_multiple_0 : (.constantLong RX0 58 (-1) : Cond) ∈ wsX0_multiple := by decide +kernel
theorem lkX0_multiple_1 : (.fieldLink RX0 21 "PairingDesk$Curve" "p" "J" : Cond) ∈ wsX0_multiple := by decide +kernel
theorem lkX0_multiple_2 : (.constantLong RX0 50 (2) : Cond) ∈ wsX0_multiple := by decide +kernel
theorem iwX0_multiple_0 : ∀ w ∈ wsX00, w ∈ wsX0_multiple := by decide +kernel
theorem hdX0_multiple : KN yX0_multiple 2 := by decide +kernel
set_option maxHeartbeats 4000000 in
set_option maxRecDepth 100000 in
theorem kX0_multiple (l : Launch) (D : va_G) (cJ cZ : ClassId) (co fo : Nat) (N : Nat) (zp : Int64) (zr : Int64) (zh : Int64) (zb : Int64) (zt : Int32) (q0 : Int64) (q1 : Int64) (rr : Int64) (h : fX0_multiple N zp q0 q1 = some rr) : Met l yX0_multiple wsX0_multiple rmX0_multiple (PP D cJ cZ [.ref co, .long q0, .long q1] [(co, .inr (0, [.ref fo, .long zp, .long zr, .long zh, .long zb, .int zt])), (fo, .inr (2, [.long zp]))]) (SL rr) 0 0 (fun _ => False) := by
  refine Met.ofW (cc := cX0_multiple) (maxL := 11) (ret := some .long) (by decide) rfl ?_
  intro pg e s m args below meth c s₁ B hml hv
  obtain ⟨rfl, hP, hE⟩ := hv
  have hx := B.exec
  have hb := B.bytes
  have hr := B.returns
  have hlocks := B.notSynchronized
  have C0 : CallFix pg m c cX0_multiple 11 s ([.ref co, .long q0, .long q1] : List Value).toArray wsX0_multiple RX0 := ⟨hx, hb, hml, findClass_of_methodNamed B.named, atoms_spec (ws := wsX0_multiple) B.pre⟩
  have hown := C0.2.2.2.1
  have hts := C0.2.2.2.2
  have hl := lv_entry ([.ref co, .long q0, .long q1]) (n := 11) (Nat.le_of_ble_eq_true rfl)
  rw [lg_entry_eq]
  generalize (lg_sl ([.ref co, .long q0, .long q1]) ++ List.replicate (11 - (lg_sl ([.ref co, .long q0, .long q1])).length) Slot.unset).toArray = ls at hl ⊢
  have hl : lv_has ls 11 [(0, .ref co), (1, .long q0), (3, .long q1)] := hl
  have loop20 : ∀ (n : Nat) (l5 : Int64) (l7 : Int64) (l9 : Int64), fX0_multiple_20 N zp n l5 l7 l9 = some rr → ∀ ls : Array Slot, lv_has ls 11 [(0, .ref co), (5, .long l5), (7, .long l7), (9, .long l9)] → W pg l e (headSpec wsX0_multiple rmX0_multiple).room s m ([.ref co, .long q0, .long q1] : List Value).toArray below meth c s.heap [] 0 0 (MQ below (SL rr) ([.ref co, .long q0, .long q1] : List Value).toArray s 0 0 (fun _ => False)) (F0 m 20 ls []) := by
    intro n
    induction n with
    | zero =>
      intro l5 l7 l9 h
      cases h
    | succ n ih =>
      intro l5 l7 l9 h ls hl
      rw [fX0_multiple_20] at h
      refine lv_lload hx hb dX0_multiple_20 (lv_at hl 3 rfl) ?_
      refine lv_lconst (v := 0) hx hb dX0_multiple_22 (by decide) ?_
      refine lc_le (tgt := 67) hx hb dX0_multiple_23 dX0_multiple_24 (by decide) (fun c3 => ?_) (fun c3 => ?_)
      · have h := ite_t c3 h
        refine lv_lload hx hb dX0_multiple_67 (lv_at hl 1 rfl) ?_
        exact reL hx hb hr hlocks h dX0_multiple_69
      · have h := ite_f c3 h
        refine lv_lload hx hb dX0_multiple_27 (lv_at hl 3 rfl) ?_
        refine lv_ldc2 (v := 2) hx hb hown (hts _ lkX0_multiple_2) dX0_multiple_29 ?_
        refine lv_lremJ hx hb dX0_multiple_32 (by decide) ?_
        refine lv_lconst (v := 1) hx hb dX0_multiple_33 (by decide) ?_
        refine lc_ne (tgt := 48) hx hb dX0_multiple_34 dX0_multiple_35 (by decide) (fun c4 => ?_) (fun c4 => ?_)
        · have h := ite_f c4 h
          refine lv_aload_n hx hb dX0_multiple_48 rfl (lv_at hl 0 rfl) ?_
          refine lv_lload hx hb dX0_multiple_49 (lv_at hl 2 rfl) ?_
          refine lv_lload hx hb dX0_multiple_51 (lv_at hl 2 rfl) ?_
          obtain ⟨r5, h6, h⟩ := bind_s h
          refine kl (kV (As := [.long l7, .long l7]) (rest := []) C0 (kX0_sum l D cJ cZ co fo N zp zr zh zb zt l7 l7 r5 h6) gX0_multiple_X0_sum rfl ⟨rfl, rfl⟩ hdX0_sum ⟨Nat.le_of_ble_eq_true rfl, Nat.le_of_ble_eq_true rfl⟩ 0 0 rfl rfl rfl hP hE hl rfl rfl (Nat.le_of_ble_eq_true rfl) dX0_multiple_53 (Nat.zero_le _) (Nat.zero_le _)) ?_
          refine lv_lstore (lv' := [(7, .long r5), (0, .ref co), (5, .long l5), (9, .long l9)]) hx hb dX0_multiple_56 hl (by decide) rfl (fun ls hl => ?_)
          refine lv_lload hx hb dX0_multiple_58 (lv_at hl 3 rfl) ?_
          refine lv_iconst (v := 1) hx hb dX0_multiple_60 (by decide) ?_
          refine lv_lshr (v := jshr l9 1) hx hb dX0_multiple_61 rfl ?_
          obtain ⟨w7, ew7, h⟩ := bnd_s h
          refine tl ew7.symm ?_
          refine lv_lstore (lv' := [(9, .long w7), (7, .long r5), (0, .ref co), (5, .long l5)]) hx hb dX0_multiple_62 hl (by decide) rfl (fun ls hl => ?_)
          refine lv_goto (tgt := 20) hx hb dX0_multiple_64 (by decide) ?_
          exact ih l5 r5 w7 h ls (lv_sub hl [2, 3, 1, 0] rfl)
        · have h := ite_t c4 h
          refine lv_aload_n hx hb dX0_multiple_38 rfl (lv_at hl 0 rfl) ?_
          refine lv_lload hx hb dX0_multiple_39 (lv_at hl 1 rfl) ?_
          refine lv_lload hx hb dX0_multiple_41 (lv_at hl 2 rfl) ?_
          obtain ⟨r8, h9, h⟩ := bind_s h
          refine kl (kV (As := [.long l5, .long l7]) (rest := []) C0 (kX0_sum l D cJ cZ co fo N zp zr zh zb zt l5 l7 r8 h9) gX0_multiple_X0_sum rfl ⟨rfl, rfl⟩ hdX0_sum ⟨Nat.le_of_ble_eq_true rfl, Nat.le_of_ble_eq_true rfl⟩ 0 0 rfl rfl rfl hP hE hl rfl rfl (Nat.le_of_ble_eq_true rfl) dX0_multiple_43 (Nat.zero_le _) (Nat.zero_le _)) ?_
          refine lv_lstore (lv' := [(5, .long r8), (0, .ref co), (7, .long l7), (9, .long l9)]) hx hb dX0_multiple_46 hl (by decide) rfl (fun ls hl => ?_)
          refine lv_aload_n hx hb dX0_multiple_48 rfl (lv_at hl 1 rfl) ?_
          refine lv_lload hx hb dX0_multiple_49 (lv_at hl 2 rfl) ?_
          refine lv_lload hx hb dX0_multiple_51 (lv_at hl 2 rfl) ?_
          obtain ⟨r10, h11, h⟩ := bind_s h
          refine kl (kV (As := [.long l7, .long l7]) (rest := []) C0 (kX0_sum l D cJ cZ co fo N zp zr zh zb zt l7 l7 r10 h11) gX0_multiple_X0_sum rfl ⟨rfl, rfl⟩ hdX0_sum ⟨Nat.le_of_ble_eq_true rfl, Nat.le_of_ble_eq_true rfl⟩ 0 0 rfl rfl rfl hP hE hl rfl rfl (Nat.le_of_ble_eq_true rfl) dX0_multiple_53 (Nat.zero_le _) (Nat.zero_le _)) ?_
          refine lv_lstore (lv' := [(7, .long r10), (5, .long r8), (0, .ref co), (9, .long l9)]) hx hb dX0_multiple_56 hl (by decide) rfl (fun ls hl => ?_)
          refine lv_lload hx hb dX0_multiple_58 (lv_at hl 3 rfl) ?_
          refine lv_iconst (v := 1) hx hb dX0_multiple_60 (by decide) ?_
          refine lv_lshr (v := jshr l9 1) hx hb dX0_multiple_61 rfl ?_
          obtain ⟨w12, ew12, h⟩ := bnd_s h
          refine tl ew12.symm ?_
          refine lv_lstore (lv' := [(9, .long w12), (7, .long r10), (5, .long r8), (0, .ref co)]) hx hb dX0_multiple_62 hl (by decide) rfl (fun ls hl => ?_)
          refine lv_goto (tgt := 20) hx hb dX0_multiple_64 (by decide) ?_
          exact ih r8 r10 w12 h ls (lv_sub hl [3, 2, 1, 0] rfl)
  unfold fX0_multiple at h
  refine lv_ldc2 (v := (-1)) hx hb hown (hts _ lkX0_multiple_0) dX0_multiple_0 ?_
  refine lv_lstore (lv' := [(5, .long (-1)), (0, .ref co), (1, .long q0), (3, .long q1)]) hx hb dX0_multiple_3 hl (by decide) rfl (fun ls hl => ?_)
  refine lv_lload_n hx hb dX0_multiple_5 rfl (lv_at hl 3 rfl) ?_
  refine lv_lstore (lv' := [(7, .long q1), (5, .long (-1)), (0, .ref co), (1, .long q0), (3, .long q1)]) hx hb dX0_multiple_6 hl (by decide) rfl (fun ls hl => ?_)
  refine lv_lload_n hx hb dX0_multiple_8 rfl (lv_at hl 3 rfl) ?_
  refine lv_aload_n hx hb dX0_multiple_9 rfl (lv_at hl 2 rfl) ?_
  refine va_get (D := D) (ci := 0) (v := .long zp) (C := RX0) (T := TX0) (N := 6) hx hb hts iwX0_multiple_0 hown hE.1 hP 0 rfl rfl 1 (by decide) (hts _ lkX0_multiple_1) (fun _ h9 => h9) rfl dX0_multiple_10 ?_
  refine lv_lconst (v := 1) hx hb dX0_multiple_13 (by decide) ?_
  refine lv_ladd hx hb dX0_multiple_14 ?_
  obtain ⟨r1, h2, h⟩ := bind_s h
  refine kl (kS (As := [.long q0, .long (zp + 1)]) (rest := []) C0 (kJ9_floorMod_f86c9 l D cJ cZ q0 (zp + 1) r1 h2) gX0_multiple_J9_floorMod_f86c9 rfl ⟨rfl, rfl⟩ hdJ9_floorMod_f86c9 ⟨Nat.le_of_ble_eq_true rfl, Nat.le_of_ble_eq_true rfl⟩ (hP.sub [] rfl) hE hl rfl rfl (Nat.le_of_ble_eq_true rfl) dX0_multiple_15 (Nat.zero_le _) (Nat.zero_le _)) ?_
  refine lv_lstore (lv' := [(9, .long r1), (7, .long q1), (5, .long (-1)), (0, .ref co), (1, .long q0), (3, .long q1)]) hx hb dX0_multiple_18 hl (by decide) rfl (fun ls hl => ?_)
  exact loop20 N (-1) q1 r1 h ls (lv_sub hl [3, 2, 1, 0] rfl)
def fX0_orderWithout (N : Nat) (zp : Int64) (q0 : Int64) (q1 : Int64) (q2 : Int64) : Option (Int64) :=
  if q0 = 0 then none else
  (fX0_multiple N zp (q1 / q0) q2).bind fun r2 =>
  if r2 = (-1) then
    some (q1 / q0)
  else
    some q1
abbrev rmX0_orderWithout : Room := { frames := 4, cells := 0, slots := 0, locals := 127 }
theorem lkX0_orderWithout_0 : (.constantLong RX0 58 (-1) : Cond) ∈ wsX0_orderWithout := by decide +kernel
theorem hdX0_orderWithout : KN yX0_orderWithout 3 := by decide +kernel
set_option maxHeartbeats 4000000 in
set_option maxRecDepth 100000 in
theorem kX0_orderWithout (l : Launch) (D : va_G) (cJ cZ : ClassId) (co fo : Nat) (N : Nat) (zp : Int64) (zr : Int64) (zh : Int64) (zb : Int64) (zt : Int32) (q0 : Int64) (q1 : Int64) (q2 : Int64) (rr : Int64) (h : fX0_orderWithout N zp q0 q1 q2 = some rr) : Met l yX0_orderWithout wsX0_orderWithout rmX0_orderWithout (PP D cJ cZ [.ref co, .long q0, .long q1, .long q2] [(co, .inr (0, [.ref fo, .long zp, .long zr, .long zh, .long zb, .int zt])), (fo, .inr (2, [.long zp]))]) (SL rr) 0 0 (fun _ => False) := by
  refine Met.ofW (cc := cX0_orderWithout) (maxL := 7) (ret := some .long) (by decide) rfl ?_
  intro pg e s m args below meth c s₁ B hml hv
  obtain ⟨rfl, hP, hE⟩ := hv
  have hx := B.exec
  have hb := B.bytes
  have hr := B.returns
  have hlocks := B.notSynchronized
  have C0 : CallFix pg m c cX0_orderWithout 7 s ([.ref co, .long q0, .long q1, .long q2] : List Value).toArray wsX0_orderWithout RX0 := ⟨hx, hb, hml, findClass_of_methodNamed B.named, atoms_spec (ws := wsX0_orderWithout) B.pre⟩
  have hown := C0.2.2.2.1
  have hts := C0.2.2.2.2
  have hl := lv_entry ([.ref co, .long q0, .long q1, .long q2]) (n := 7) (Nat.le_of_ble_eq_true rfl)
  rw [lg_entry_eq]
  generalize (lg_sl ([.ref co, .long q0, .long q1, .long q2]) ++ List.replicate (7 - (lg_sl ([.ref co, .long q0, .long q1, .long q2])).length) Slot.unset).toArray = ls at hl ⊢
  have hl : lv_has ls 7 [(0, .ref co), (1, .long q0), (3, .long q1), (5, .long q2)] := hl
  unfold fX0_orderWithout at h
  refine lv_aload_n hx hb dX0_orderWithout_0 rfl (lv_at hl 0 rfl) ?_
  refine lv_lload_n hx hb dX0_orderWithout_1 rfl (lv_at hl 2 rfl) ?_
  refine lv_lload_n hx hb dX0_orderWithout_2 rfl (lv_at hl 1 rfl) ?_
  obtain ⟨c1, h⟩ := ite_n h
  refine lv_ldiv hx hb dX0_orderWithout_3 c1 ?_
  refine lv_lload hx hb dX0_orderWithout_4 (lv_at hl 3 rfl) ?_
  obtain ⟨r2, h3, h⟩ := bind_s h
  refine kl (kV (As := [.long (q1 / q0), .long q2]) (rest := []) C0 (kX0_multiple l D cJ cZ co fo N zp zr zh zb zt (q1 / q0) q2 r2 h3) gX0_orderWithout_X0_multiple rfl ⟨rfl, rfl⟩ hdX0_multiple ⟨Nat.le_of_ble_eq_true rfl, Nat.le_of_ble_eq_true rfl⟩ 0 0 rfl rfl rfl hP hE hl rfl rfl (Nat.le_of_ble_eq_true rfl) dX0_orderWithout_6 (Nat.zero_le _) (Nat.zero_le _)) ?_
  refine lv_ldc2 (v := (-1)) hx hb hown (hts _ lkX0_orderWithout_0) dX0_orderWithout_9 ?_
  refine lc_ne (tgt := 22) hx hb dX0_orderWithout_12 dX0_orderWithout_13 (by decide) (fun c4 => ?_) (fun c4 => ?_)
  · have h := ite_f c4 h
    refine lv_lload_n hx hb dX0_orderWithout_22 rfl (lv_at hl 2 rfl) ?_
    exact reL hx hb hr hlocks h dX0_orderWithout_23
  · have h := ite_t c4 h
    refine lv_lload_n hx hb dX0_orderWithout_16 rfl (lv_at hl 2 rfl) ?_
    refine lv_lload_n hx hb dX0_orderWithout_17 rfl (lv_at hl 1 rfl) ?_
    refine lv_ldiv hx hb dX0_orderWithout_18 c1 ?_
    refine lv_goto (tgt := 23) hx hb dX0_orderWithout_19 (by decide) ?_
    exact reL hx hb hr hlocks h dX0_orderWithout_23
def fX0_orderOf_34 (N : Nat) (zp : Int64) (l1 : Int64) (l7 : Int64) : Nat → Int64 → Int64 → Int32 → Option (Int64 × Int64 × Int32)
  | 0, _, _, _ => none
  | n + 1, l3, l5, l9 =>
    if 32 ≤ l9 then
      some (l3, l5, l9)
    else
      if l7 = 0 then none else
      if (jrem l5 l7) = 0 then
        bnd (l5 / l7) fun w10 =>
        (fX0_orderWithout N zp l7 l3 l1).bind fun r11 =>
        bnd (l9 + 1) fun w13 =>
        fX0_orderOf_34 N zp l1 l7 n r11 w10 w13
      else
        some (l3, l5, l9)
def fX0_orderOf_20 (N : Nat) (zp : Int64) (l1 : Int64) : Nat → Int64 → Int64 → Int64 → Option (Int64)
  | 0, _, _, _ => none
  | n + 1, l3, l5, l7 =>
    if l5 < (l7 * l7) then
      if l5 ≤ 1 then
        some l3
      else
        (fX0_orderWithout N zp l5 l3 l1).bind fun r5 =>
        some r5
    else
      (fX0_orderOf_34 N zp l1 l7 N l3 l5 0).bind fun (x14, x15, x16) =>
      bnd (l7 + 1) fun w18 =>
      fX0_orderOf_20 N zp l1 n x14 x15 w18
def fX0_orderOf (N : Nat) (zp : Int64) (q0 : Int64) : Option (Int64) :=
  bnd (zp + 1) fun w1 =>
  bnd (zp + 1) fun w2 =>
  fX0_orderOf_20 N zp q0 N w1 w2 2
abbrev rmX0_orderOf : Room := { frames := 5, cells := 0, slots := 0, locals := 153 }
theorem lkX0_orderOf_0 : (.fieldLink RX0 21 "PairingDesk$Curve" "p" "J" : Cond) ∈ wsX0_orderOf := by decide +kernel
theorem lkX0_orderOf_1 : (.constantLong RX0 50 (2) : Cond) ∈ wsX0_orderOf := by decide +kernel
theorem iwX0_orderOf_0 : ∀ w ∈ wsX00, w ∈ wsX0_orderOf := by decide +kernel
theorem hdX0_orderOf : KN yX0_orderOf 1 := by decide +kernel
set_option maxHeartbeats 4000000 in
set_option maxRecDepth 100000 in
theorem kX0_orderOf (l : Launch) (D : va_G) (cJ cZ : ClassId) (co fo : Nat) (N : Nat) (zp : Int64) (zr : Int64) (zh : Int64) (zb : Int64) (zt : Int32) (q0 : Int64) (rr : Int64) (h : fX0_orderOf N zp q0 = some rr) : Met l yX0_orderOf wsX0_orderOf rmX0_orderOf (PP D cJ cZ [.ref co, .long q0] [(co, .inr (0, [.ref fo, .long zp, .long zr, .long zh, .long zb, .int zt])), (fo, .inr (2, [.long zp]))]) (SL rr) 0 0 (fun _ => False) := by
  refine Met.ofW (cc := cX0_orderOf) (maxL := 10) (ret := some .long) (by decide) rfl ?_
  intro pg e s m args below meth c s₁ B hml hv
  obtain ⟨rfl, hP, hE⟩ := hv
  have hx := B.exec
  have hb := B.bytes
  have hr := B.returns
  have hlocks := B.notSynchronized
  have C0 : CallFix pg m c cX0_orderOf 10 s ([.ref co, .long q0] : List Value).toArray wsX0_orderOf RX0 := ⟨hx, hb, hml, findClass_of_methodNamed B.named, atoms_spec (ws := wsX0_orderOf) B.pre⟩
  have hown := C0.2.2.2.1
  have hts := C0.2.2.2.2
  have hl := lv_entry ([.ref co, .long q0]) (n := 10) (Nat.le_of_ble_eq_true rfl)
  rw [lg_entry_eq]
  generalize (lg_sl ([.ref co, .long q0]) ++ List.replicate (10 - (lg_sl ([.ref co, .long q0])).length) Slot.unset).toArray = ls at hl ⊢
  have hl : lv_has ls 10 [(0, .ref co), (1, .long q0)] := hl
  have loop34 : ∀ (l1 : Int64) (l7 : Int64), ∀ (n : Nat) (l3 : Int64) (l5 : Int64) (l9 : Int32) (u : Int64 × Int64 × Int32), fX0_orderOf_34 N zp l1 l7 n l3 l5 l9 = some u → ∀ ls : Array Slot, lv_has ls 10 [(0, .ref co), (1, .long l1), (3, .long l3), (5, .long l5), (7, .long l7), (9, .int l9)] → ( ∀ ls : Array Slot, lv_has ls 10 [(0, .ref co), (1, .long l1), (3, .long u.1), (5, .long u.2.1), (7, .long l7), (9, .int u.2.2)] → W pg l e (headSpec wsX0_orderOf rmX0_orderOf).room s m ([.ref co, .long q0] : List Value).toArray below meth c s.heap [] 0 0 (MQ below (SL rr) ([.ref co, .long q0] : List Value).toArray s 0 0 (fun _ => False)) (F0 m 73 ls [])) → W pg l e (headSpec wsX0_orderOf rmX0_orderOf).room s m ([.ref co, .long q0] : List Value).toArray below meth c s.heap [] 0 0 (MQ below (SL rr) ([.ref co, .long q0] : List Value).toArray s 0 0 (fun _ => False)) (F0 m 34 ls []) := by
    intro l1 l7
    intro n
    induction n with
    | zero =>
      intro l3 l5 l9 u h
      cases h
    | succ n ih =>
      intro l3 l5 l9 u h ls hl kk
      rw [fX0_orderOf_34] at h
      refine lv_iload hx hb dX0_orderOf_34 (lv_at hl 5 rfl) ?_
      refine lv_bipush (v := 32) hx hb dX0_orderOf_36 (by decide) ?_
      refine lv_icmp_ge (tgt := 73) hx hb dX0_orderOf_38 (by decide) (fun c7 => ?_) (fun c7 => ?_)
      · have h := ite_t c7 h
        cases h
        exact kk ls (lv_sub hl [0, 1, 2, 3, 4, 5] rfl)
      · have h := ite_f c7 h
        refine lv_lload hx hb dX0_orderOf_41 (lv_at hl 3 rfl) ?_
        refine lv_lload hx hb dX0_orderOf_43 (lv_at hl 4 rfl) ?_
        obtain ⟨c8, h⟩ := ite_n h
        refine lv_lremJ hx hb dX0_orderOf_45 c8 ?_
        refine lv_lconst (v := 0) hx hb dX0_orderOf_46 (by decide) ?_
        refine lc_ne (tgt := 73) hx hb dX0_orderOf_47 dX0_orderOf_48 (by decide) (fun c9 => ?_) (fun c9 => ?_)
        · have h := ite_f c9 h
          cases h
          exact kk ls (lv_sub hl [0, 1, 2, 3, 4, 5] rfl)
        · have h := ite_t c9 h
          refine lv_lload hx hb dX0_orderOf_51 (lv_at hl 3 rfl) ?_
          refine lv_lload hx hb dX0_orderOf_53 (lv_at hl 4 rfl) ?_
          refine lv_ldiv hx hb dX0_orderOf_55 c8 ?_
          obtain ⟨w10, ew10, h⟩ := bnd_s h
          refine tl ew10.symm ?_
          refine lv_lstore (lv' := [(5, .long w10), (0, .ref co), (1, .long l1), (3, .long l3), (7, .long l7), (9, .int l9)]) hx hb dX0_orderOf_56 hl (by decide) rfl (fun ls hl => ?_)
          refine lv_aload_n hx hb dX0_orderOf_58 rfl (lv_at hl 1 rfl) ?_
          refine lv_lload hx hb dX0_orderOf_59 (lv_at hl 4 rfl) ?_
          refine lv_lload_n hx hb dX0_orderOf_61 rfl (lv_at hl 3 rfl) ?_
          refine lv_lload_n hx hb dX0_orderOf_62 rfl (lv_at hl 2 rfl) ?_
          obtain ⟨r11, h12, h⟩ := bind_s h
          refine kl (kV (As := [.long l7, .long l3, .long l1]) (rest := []) C0 (kX0_orderWithout l D cJ cZ co fo N zp zr zh zb zt l7 l3 l1 r11 h12) gX0_orderOf_X0_orderWithout rfl ⟨rfl, rfl⟩ hdX0_orderWithout ⟨Nat.le_of_ble_eq_true rfl, Nat.le_of_ble_eq_true rfl⟩ 0 0 rfl rfl rfl hP hE hl rfl rfl (Nat.le_of_ble_eq_true rfl) dX0_orderOf_63 (Nat.zero_le _) (Nat.zero_le _)) ?_
          refine lv_lstore_n (lv' := [(3, .long r11), (5, .long w10), (0, .ref co), (1, .long l1), (7, .long l7), (9, .int l9)]) hx hb dX0_orderOf_66 rfl hl (by decide) rfl (fun ls hl => ?_)
          obtain ⟨w13, ew13, h⟩ := bnd_s h
          refine lv_iinc (v := w13) (lv' := [(9, .int w13), (3, .long r11), (5, .long w10), (0, .ref co), (1, .long l1), (7, .long l7)]) hx hb dX0_orderOf_67 hl (k := 5) rfl (by rw [ew13]; rfl) (by decide) rfl (fun ls hl => ?_)
          refine lv_goto (tgt := 34) hx hb dX0_orderOf_70 (by decide) ?_
          exact ih r11 w10 w13 u h ls (lv_sub hl [3, 4, 1, 2, 5, 0] rfl) kk
  have loop20 : ∀ (l1 : Int64), ∀ (n : Nat) (l3 : Int64) (l5 : Int64) (l7 : Int64), fX0_orderOf_20 N zp l1 n l3 l5 l7 = some rr → ∀ ls : Array Slot, lv_has ls 10 [(0, .ref co), (1, .long l1), (3, .long l3), (5, .long l5), (7, .long l7)] → W pg l e (headSpec wsX0_orderOf rmX0_orderOf).room s m ([.ref co, .long q0] : List Value).toArray below meth c s.heap [] 0 0 (MQ below (SL rr) ([.ref co, .long q0] : List Value).toArray s 0 0 (fun _ => False)) (F0 m 20 ls []) := by
    intro l1
    intro n
    induction n with
    | zero =>
      intro l3 l5 l7 h
      cases h
    | succ n ih =>
      intro l3 l5 l7 h ls hl
      rw [fX0_orderOf_20] at h
      refine lv_lload hx hb dX0_orderOf_20 (lv_at hl 4 rfl) ?_
      refine lv_lload hx hb dX0_orderOf_22 (lv_at hl 4 rfl) ?_
      refine lv_lmul hx hb dX0_orderOf_24 ?_
      refine lv_lload hx hb dX0_orderOf_25 (lv_at hl 3 rfl) ?_
      refine lc_gt (tgt := 82) hx hb dX0_orderOf_27 dX0_orderOf_28 (by decide) (fun c3 => ?_) (fun c3 => ?_)
      · have h := ite_t c3 h
        refine lv_lload hx hb dX0_orderOf_82 (lv_at hl 3 rfl) ?_
        refine lv_lconst (v := 1) hx hb dX0_orderOf_84 (by decide) ?_
        refine lc_le (tgt := 100) hx hb dX0_orderOf_85 dX0_orderOf_86 (by decide) (fun c4 => ?_) (fun c4 => ?_)
        · have h := ite_t c4 h
          refine lv_lload_n hx hb dX0_orderOf_100 rfl (lv_at hl 2 rfl) ?_
          exact reL hx hb hr hlocks h dX0_orderOf_101
        · have h := ite_f c4 h
          refine lv_aload_n hx hb dX0_orderOf_89 rfl (lv_at hl 0 rfl) ?_
          refine lv_lload hx hb dX0_orderOf_90 (lv_at hl 3 rfl) ?_
          refine lv_lload_n hx hb dX0_orderOf_92 rfl (lv_at hl 2 rfl) ?_
          refine lv_lload_n hx hb dX0_orderOf_93 rfl (lv_at hl 1 rfl) ?_
          obtain ⟨r5, h6, h⟩ := bind_s h
          refine kl (kV (As := [.long l5, .long l3, .long l1]) (rest := []) C0 (kX0_orderWithout l D cJ cZ co fo N zp zr zh zb zt l5 l3 l1 r5 h6) gX0_orderOf_X0_orderWithout rfl ⟨rfl, rfl⟩ hdX0_orderWithout ⟨Nat.le_of_ble_eq_true rfl, Nat.le_of_ble_eq_true rfl⟩ 0 0 rfl rfl rfl hP hE hl rfl rfl (Nat.le_of_ble_eq_true rfl) dX0_orderOf_94 (Nat.zero_le _) (Nat.zero_le _)) ?_
          refine lv_goto (tgt := 101) hx hb dX0_orderOf_97 (by decide) ?_
          exact reL hx hb hr hlocks h dX0_orderOf_101
      · have h := ite_f c3 h
        refine lv_iconst (v := 0) hx hb dX0_orderOf_31 (by decide) ?_
        refine lv_istore (lv' := [(9, .int 0), (0, .ref co), (1, .long l1), (3, .long l3), (5, .long l5), (7, .long l7)]) hx hb dX0_orderOf_32 hl (by decide) rfl (fun ls hl => ?_)
        obtain ⟨⟨x14, x15, x16⟩, h17, h⟩ := bind_s h
        try dsimp only at h
        refine loop34 l1 l7 N l3 l5 0 _ h17 ls (lv_sub hl [1, 2, 3, 4, 5, 0] rfl) (fun ls hl => ?_)
        refine lv_lload hx hb dX0_orderOf_73 (lv_at hl 4 rfl) ?_
        refine lv_lconst (v := 1) hx hb dX0_orderOf_75 (by decide) ?_
        refine lv_ladd hx hb dX0_orderOf_76 ?_
        obtain ⟨w18, ew18, h⟩ := bnd_s h
        refine tl ew18.symm ?_
        refine lv_lstore (lv' := [(7, .long w18), (0, .ref co), (1, .long l1), (3, .long x14), (5, .long x15), (9, .int x16)]) hx hb dX0_orderOf_77 hl (by decide) rfl (fun ls hl => ?_)
        refine lv_goto (tgt := 20) hx hb dX0_orderOf_79 (by decide) ?_
        exact ih x14 x15 w18 h ls (lv_sub hl [1, 2, 3, 4, 0] rfl)
  unfold fX0_orderOf at h
  refine lv_aload_n hx hb dX0_orderOf_0 rfl (lv_at hl 0 rfl) ?_
  refine va_get (D := D) (ci := 0) (v := .long zp) (C := RX0) (T := TX0) (N := 6) hx hb hts iwX0_orderOf_0 hown hE.1 hP 0 rfl rfl 1 (by decide) (hts _ lkX0_orderOf_0) (fun _ h9 => h9) rfl dX0_orderOf_1 ?_
  refine lv_lconst (v := 1) hx hb dX0_orderOf_4 (by decide) ?_
  refine lv_ladd hx hb dX0_orderOf_5 ?_
  obtain ⟨w1, ew1, h⟩ := bnd_s h
  refine tl ew1.symm ?_
  refine lv_lstore_n (lv' := [(3, .long w1), (0, .ref co), (1, .long q0)]) hx hb dX0_orderOf_6 rfl hl (by decide) rfl (fun ls hl => ?_)
  refine lv_aload_n hx hb dX0_orderOf_7 rfl (lv_at hl 1 rfl) ?_
  refine va_get (D := D) (ci := 0) (v := .long zp) (C := RX0) (T := TX0) (N := 6) hx hb hts iwX0_orderOf_0 hown hE.1 hP 0 rfl rfl 1 (by decide) (hts _ lkX0_orderOf_0) (fun _ h9 => h9) rfl dX0_orderOf_8 ?_
  refine lv_lconst (v := 1) hx hb dX0_orderOf_11 (by decide) ?_
  refine lv_ladd hx hb dX0_orderOf_12 ?_
  obtain ⟨w2, ew2, h⟩ := bnd_s h
  refine tl ew2.symm ?_
  refine lv_lstore (lv' := [(5, .long w2), (3, .long w1), (0, .ref co), (1, .long q0)]) hx hb dX0_orderOf_13 hl (by decide) rfl (fun ls hl => ?_)
  refine lv_ldc2 (v := 2) hx hb hown (hts _ lkX0_orderOf_1) dX0_orderOf_15 ?_
  refine lv_lstore (lv' := [(7, .long 2), (5, .long w2), (3, .long w1), (0, .ref co), (1, .long q0)]) hx hb dX0_orderOf_18 hl (by decide) rfl (fun ls hl => ?_)
  exact loop20 q0 N w1 w2 2 h ls (lv_sub hl [3, 4, 2, 1, 0] rfl)
def fX0_firstTried  (zp : Int64) (q0 : Int64) : Option (Int64) :=
  if zp = 0 then none else
  some (jrem (((jrem (jushr q0 1) zp) * 2) + (q0 &&& 1)) zp)
abbrev rmX0_firstTried : Room := { frames := 0, cells := 0, slots := 0, locals := 0 }
theorem lkX0_firstTried_0 : (.fieldLink RX0 21 "PairingDesk$Curve" "p" "J" : Cond) ∈ wsX0_firstTried := by decide +kernel
theorem lkX0_firstTried_1 : (.constantLong RX0 50 (2) : Cond) ∈ wsX0_firstTried := by decide +kernel
theorem iwX0_firstTried_0 : ∀ w ∈ wsX00, w ∈ wsX0_firstTried := by decide +kernel
theorem hdX0_firstTried : KN yX0_firstTried 1 := by decide +kernel
set_option maxHeartbeats 4000000 in
set_option maxRecDepth 100000 in
theorem kX0_firstTried (l : Launch) (D : va_G) (cJ cZ : ClassId) (co fo : Nat) (zp : Int64) (zr : Int64) (zh : Int64) (zb : Int64) (zt : Int32) (q0 : Int64) (rr : Int64) (h : fX0_firstTried zp q0 = some rr) : Met l yX0_firstTried wsX0_firstTried rmX0_firstTried (PP D cJ cZ [.ref co, .long q0] [(co, .inr (0, [.ref fo, .long zp, .long zr, .long zh, .long zb, .int zt])), (fo, .inr (2, [.long zp]))]) (SL rr) 0 0 (fun _ => False) := by
  refine Met.ofW (cc := cX0_firstTried) (maxL := 3) (ret := some .long) (by decide) rfl ?_
  intro pg e s m args below meth c s₁ B hml hv
  obtain ⟨rfl, hP, hE⟩ := hv
  have hx := B.exec
  have hb := B.bytes
  have hr := B.returns
  have hlocks := B.notSynchronized
  have C0 : CallFix pg m c cX0_firstTried 3 s ([.ref co, .long q0] : List Value).toArray wsX0_firstTried RX0 := ⟨hx, hb, hml, findClass_of_methodNamed B.named, atoms_spec (ws := wsX0_firstTried) B.pre⟩
  have hown := C0.2.2.2.1
  have hts := C0.2.2.2.2
  have hl := lv_entry ([.ref co, .long q0]) (n := 3) (Nat.le_of_ble_eq_true rfl)
  rw [lg_entry_eq]
  generalize (lg_sl ([.ref co, .long q0]) ++ List.replicate (3 - (lg_sl ([.ref co, .long q0])).length) Slot.unset).toArray = ls at hl ⊢
  have hl : lv_has ls 3 [(0, .ref co), (1, .long q0)] := hl
  unfold fX0_firstTried at h
  refine lv_lload_n hx hb dX0_firstTried_0 rfl (lv_at hl 1 rfl) ?_
  refine lv_iconst (v := 1) hx hb dX0_firstTried_1 (by decide) ?_
  refine lv_lushr (v := jushr q0 1) hx hb dX0_firstTried_2 rfl ?_
  refine lv_aload_n hx hb dX0_firstTried_3 rfl (lv_at hl 0 rfl) ?_
  refine va_get (D := D) (ci := 0) (v := .long zp) (C := RX0) (T := TX0) (N := 6) hx hb hts iwX0_firstTried_0 hown hE.1 hP 0 rfl rfl 1 (by decide) (hts _ lkX0_firstTried_0) (fun _ h9 => h9) rfl dX0_firstTried_4 ?_
  obtain ⟨c1, h⟩ := ite_n h
  refine lv_lremJ hx hb dX0_firstTried_7 c1 ?_
  refine lv_ldc2 (v := 2) hx hb hown (hts _ lkX0_firstTried_1) dX0_firstTried_8 ?_
  refine lv_lmul hx hb dX0_firstTried_11 ?_
  refine lv_lload_n hx hb dX0_firstTried_12 rfl (lv_at hl 1 rfl) ?_
  refine lv_lconst (v := 1) hx hb dX0_firstTried_13 (by decide) ?_
  refine lv_land hx hb dX0_firstTried_14 ?_
  refine lv_ladd hx hb dX0_firstTried_15 ?_
  refine lv_aload_n hx hb dX0_firstTried_16 rfl (lv_at hl 0 rfl) ?_
  refine va_get (D := D) (ci := 0) (v := .long zp) (C := RX0) (T := TX0) (N := 6) hx hb hts iwX0_firstTried_0 hown hE.1 hP 0 rfl rfl 1 (by decide) (hts _ lkX0_firstTried_0) (fun _ h9 => h9) rfl dX0_firstTried_17 ?_
  refine lv_lremJ hx hb dX0_firstTried_20 c1 ?_
  exact reL hx hb hr hlocks h dX0_firstTried_21
def fX0_turned_9 (N : Nat) (zp : Int64) (zh : Int64) : Nat → Int64 → Int32 → Int32 → Option (Int64 × Int32)
  | 0, _, _, _ => none
  | n + 1, l3, l5, zt =>
    if 1000 < l5 then
      some ((-1), zt)
    else
      (fX0_squareOfY zp l3).bind fun r4 =>
      (fX2_evenRoot N zp r4).bind fun r6 =>
      if r6 ≤ 0 then
        if zp = 0 then none else
        bnd (jrem (l3 + 1) zp) fun w10 =>
        bnd (l5 + 1) fun w11 =>
        fX0_turned_9 N zp zh n w10 w11 l5
      else
        (fX3_joined l3 r6).bind fun r12 =>
        (fX0_multiple N zp zh r12).bind fun r14 =>
        if r14 = (-1) then
          if zp = 0 then none else
          bnd (jrem (l3 + 1) zp) fun w18 =>
          bnd (l5 + 1) fun w19 =>
          fX0_turned_9 N zp zh n w18 w19 l5
        else
          some (r14, l5)
def fX0_turned (N : Nat) (zp : Int64) (zh : Int64) (zt : Int32) (q0 : Int64) : Option (Int64 × Int32) :=
  (fX0_firstTried zp q0).bind fun r1 =>
  fX0_turned_9 N zp zh N r1 1 zt
abbrev rmX0_turned : Room := { frames := 4, cells := 0, slots := 0, locals := 127 }
theorem lkX0_turned_0 : (.constantLong RX0 58 (-1) : Cond) ∈ wsX0_turned := by decide +kernel
theorem lkX0_turned_1 : (.fieldLink RX0 88 "PairingDesk$Curve" "tried" "I" : Cond) ∈ wsX0_turned := by decide +kernel
theorem lkX0_turned_2 : (.fieldLink RX0 9 "PairingDesk$Curve" "field" "LPairingDesk$PrimeField;" : Cond) ∈ wsX0_turned := by decide +kernel
theorem lkX0_turned_3 : (.fieldLink RX0 21 "PairingDesk$Curve" "p" "J" : Cond) ∈ wsX0_turned := by decide +kernel
theorem lkX0_turned_4 : (.fieldLink RX0 25 "PairingDesk$Curve" "h" "J" : Cond) ∈ wsX0_turned := by decide +kernel
theorem lkX0_turned_5 : (.initialized RX3 : Cond) ∈ wsX0_turned := by decide +kernel
theorem lkX0_turned_6 : (.static yX3_joined : Cond) ∈ wsX0_turned := by decide +kernel
theorem iwX0_turned_0 : ∀ w ∈ wsX00, w ∈ wsX0_turned := by decide +kernel
theorem hdX0_turned : KN yX0_turned 1 := by decide +kernel
set_option maxHeartbeats 4000000 in
set_option maxRecDepth 100000 in
theorem kX0_turned (l : Launch) (D : va_G) (cJ cZ : ClassId) (co fo : Nat) (N : Nat) (zp : Int64) (zr : Int64) (zh : Int64) (zb : Int64) (zt : Int32) (q0 : Int64) (sz : Nat) (rr : Int64) (ozt : Int32) (h : fX0_turned N zp zh zt q0 = some (rr, ozt)) : Met l yX0_turned wsX0_turned rmX0_turned (PE D cJ cZ [.ref co, .long q0] [(co, .inr (0, [.ref fo, .long zp, .long zr, .long zh, .long zb, .int zt])), (fo, .inr (2, [.long zp]))] sz) (QE D (some (.long rr)) [(co, .inr (0, [.ref fo, .long zp, .long zr, .long zh, .long zb, .int ozt])), (fo, .inr (2, [.long zp]))] (va_A [(co, .inr (0, [.ref fo, .long zp, .long zr, .long zh, .long zb, .int zt])), (fo, .inr (2, [.long zp]))] sz)) 0 0 (va_A [(co, .inr (0, [.ref fo, .long zp, .long zr, .long zh, .long zb, .int zt])), (fo, .inr (2, [.long zp]))] sz) := by
  refine Met.ofW (cc := cX0_turned) (maxL := 10) (ret := some .long) (by decide) rfl ?_
  intro pg e s m args below meth c s₁ B hml hv
  obtain ⟨rfl, hsz, hP, hE, hD0⟩ := hv
  have hx := B.exec
  have hb := B.bytes
  have hr := B.returns
  have hlocks := B.notSynchronized
  have C0 : CallFix pg m c cX0_turned 10 s ([.ref co, .long q0] : List Value).toArray wsX0_turned RX0 := ⟨hx, hb, hml, findClass_of_methodNamed B.named, atoms_spec (ws := wsX0_turned) B.pre⟩
  have hown := C0.2.2.2.1
  have hts := C0.2.2.2.2
  subst hsz
  have hD := hD0.self (sz := s.heap.size)
  generalize hAe : va_A [(co, .inr (0, [.ref fo, .long zp, .long zr, .long zh, .long zb, .int zt])), (fo, .inr (2, [.long zp]))] s.heap.size = A at hD ⊢
  have hA : ∀ q : Nat, s.heap.size ≤ q → A q := fun q h => by rw [← hAe]; exact Or.inr h
  have hS : va_S A s.heap s.heap [] := va_S.rf
  have hP : va_P D vwCl [(co, .inr (0, [.ref fo, .long zp, .long zr, .long zh, .long zb, .int zt])), (fo, .inr (2, [.long zp]))] s.heap := hP
  have hl := lv_entry ([.ref co, .long q0]) (n := 10) (Nat.le_of_ble_eq_true rfl)
  rw [lg_entry_eq]
  generalize (lg_sl ([.ref co, .long q0]) ++ List.replicate (10 - (lg_sl ([.ref co, .long q0])).length) Slot.unset).toArray = ls at hl ⊢
  have hl : lv_has ls 10 [(0, .ref co), (1, .long q0)] := hl
  have loop9 : ∀ (n : Nat) (l3 : Int64) (l5 : Int32) (zt : Int32), fX0_turned_9 N zp zh n l3 l5 zt = some (rr, ozt) → ∀ (H : Heap) (locs : List Loc), va_P D vwCl [(co, .inr (0, [.ref fo, .long zp, .long zr, .long zh, .long zb, .int zt])), (fo, .inr (2, [.long zp]))] H → va_D A [(co, .inr (0, [.ref fo, .long zp, .long zr, .long zh, .long zb, .int zt])), (fo, .inr (2, [.long zp]))] → va_S A s.heap H locs → ∀ ls : Array Slot, lv_has ls 10 [(0, .ref co), (3, .long l3), (5, .int l5)] → W pg l e (headSpec wsX0_turned rmX0_turned).room s m ([.ref co, .long q0] : List Value).toArray below meth c H locs 0 0 (MQ below (QE D (some (.long rr)) [(co, .inr (0, [.ref fo, .long zp, .long zr, .long zh, .long zb, .int ozt])), (fo, .inr (2, [.long zp]))] A) ([.ref co, .long q0] : List Value).toArray s 0 0 A) (F0 m 9 ls []) := by
    intro n
    induction n with
    | zero =>
      intro l3 l5 zt h
      cases h
    | succ n ih =>
      intro l3 l5 zt h H locs hP hD hS ls hl
      rw [fX0_turned_9] at h
      refine lv_iload hx hb dX0_turned_9 (lv_at hl 2 rfl) ?_
      refine lv_sipush (v := 1000) hx hb dX0_turned_11 (by decide) ?_
      refine lv_icmp_gt (tgt := 93) hx hb dX0_turned_14 (by decide) (fun c3 => ?_) (fun c3 => ?_)
      · have h := ite_t c3 h
        refine lv_ldc2 (v := (-1)) hx hb hown (hts _ lkX0_turned_0) dX0_turned_93 ?_
        cases h
        exact rfL hx hb hr hlocks hP hD hS dX0_turned_96
      · have h := ite_f c3 h
        refine lv_aload_n hx hb dX0_turned_17 rfl (lv_at hl 0 rfl) ?_
        refine lv_iload hx hb dX0_turned_18 (lv_at hl 2 rfl) ?_
        refine va_put (D := D) (ci := 0) (v := .int l5) (ty := .int) (C := RX0) (T := TX0) (N := 6) hx hb hts iwX0_turned_0 tyX0 tyX0_ok nmX0 hown hE.1 hP hD hS 0 rfl rfl 5 (by decide) (hts _ lkX0_turned_1) (fun _ h9 => h9) rfl (by decide +kernel) rfl rfl (Nat.le_of_ble_eq_true rfl) dX0_turned_20 (fun H locs hP hD hS => ?_)
        have hP : va_P D vwCl [(co, .inr (0, [.ref fo, .long zp, .long zr, .long zh, .long zb, .int l5])), (fo, .inr (2, [.long zp]))] H := hP
        have hD : va_D A [(co, .inr (0, [.ref fo, .long zp, .long zr, .long zh, .long zb, .int l5])), (fo, .inr (2, [.long zp]))] := hD
        refine lv_aload_n hx hb dX0_turned_23 rfl (lv_at hl 0 rfl) ?_
        refine va_get (D := D) (ci := 0) (v := .ref fo) (C := RX0) (T := TX0) (N := 6) hx hb hts iwX0_turned_0 hown hE.1 hP 0 rfl rfl 0 (by decide) (hts _ lkX0_turned_2) (fun _ h9 => h9) rfl dX0_turned_24 ?_
        refine lv_aload_n hx hb dX0_turned_27 rfl (lv_at hl 0 rfl) ?_
        refine lv_lload_n hx hb dX0_turned_28 rfl (lv_at hl 1 rfl) ?_
        obtain ⟨r4, h5, h⟩ := bind_s h
        refine kl (kV (As := [.long l3]) (rest := [.ref fo]) C0 (kX0_squareOfY l D cJ cZ co fo zp zr zh zb l5 l3 r4 h5) gX0_turned_X0_squareOfY rfl ⟨rfl, rfl⟩ hdX0_squareOfY ⟨Nat.le_of_ble_eq_true rfl, Nat.le_of_ble_eq_true rfl⟩ 0 0 rfl rfl rfl hP hE hl rfl rfl (Nat.le_of_ble_eq_true rfl) dX0_turned_29 (Nat.zero_le _) (Nat.zero_le _)) ?_
        obtain ⟨r6, h7, h⟩ := bind_s h
        refine kl (kV (As := [.long r4]) (rest := []) C0 (kX2_evenRoot l D cJ cZ fo N zp r4 r6 h7) gX0_turned_X2_evenRoot rfl ⟨rfl, rfl⟩ hdX2_evenRoot ⟨Nat.le_of_ble_eq_true rfl, Nat.le_of_ble_eq_true rfl⟩ 2 0 rfl rfl rfl (hP.sub [1] rfl) hE hl rfl rfl (Nat.le_of_ble_eq_true rfl) dX0_turned_32 (Nat.zero_le _) (Nat.zero_le _)) ?_
        refine lv_lstore (lv' := [(6, .long r6), (0, .ref co), (3, .long l3), (5, .int l5)]) hx hb dX0_turned_35 hl (by decide) rfl (fun ls hl => ?_)
        refine lv_lload hx hb dX0_turned_37 (lv_at hl 0 rfl) ?_
        refine lv_lconst (v := 0) hx hb dX0_turned_39 (by decide) ?_
        refine lc_le (tgt := 61) hx hb dX0_turned_40 dX0_turned_41 (by decide) (fun c8 => ?_) (fun c8 => ?_)
        · have h := ite_t c8 h
          refine lv_ldc2 (v := (-1)) hx hb hown (hts _ lkX0_turned_0) dX0_turned_61 ?_
          refine lv_lstore (lv' := [(8, .long (-1)), (6, .long r6), (0, .ref co), (3, .long l3), (5, .int l5)]) hx hb dX0_turned_64 hl (by decide) rfl (fun ls hl => ?_)
          refine lv_lload hx hb dX0_turned_66 (lv_at hl 0 rfl) ?_
          refine lv_ldc2 (v := (-1)) hx hb hown (hts _ lkX0_turned_0) dX0_turned_68 ?_
          refine lc_eq (tgt := 78) hx hb dX0_turned_71 dX0_turned_72 (by decide) (fun _ => ?_) (fun cc => absurd (by decide) cc)
          refine lv_lload_n hx hb dX0_turned_78 rfl (lv_at hl 3 rfl) ?_
          refine lv_lconst (v := 1) hx hb dX0_turned_79 (by decide) ?_
          refine lv_ladd hx hb dX0_turned_80 ?_
          refine lv_aload_n hx hb dX0_turned_81 rfl (lv_at hl 2 rfl) ?_
          refine va_get (D := D) (ci := 0) (v := .long zp) (C := RX0) (T := TX0) (N := 6) hx hb hts iwX0_turned_0 hown hE.1 hP 0 rfl rfl 1 (by decide) (hts _ lkX0_turned_3) (fun _ h9 => h9) rfl dX0_turned_82 ?_
          obtain ⟨c9, h⟩ := ite_n h
          refine lv_lremJ hx hb dX0_turned_85 c9 ?_
          obtain ⟨w10, ew10, h⟩ := bnd_s h
          refine tl ew10.symm ?_
          refine lv_lstore_n (lv' := [(3, .long w10), (8, .long (-1)), (6, .long r6), (0, .ref co), (5, .int l5)]) hx hb dX0_turned_86 rfl hl (by decide) rfl (fun ls hl => ?_)
          obtain ⟨w11, ew11, h⟩ := bnd_s h
          refine lv_iinc (v := w11) (lv' := [(5, .int w11), (3, .long w10), (8, .long (-1)), (6, .long r6), (0, .ref co)]) hx hb dX0_turned_87 hl (k := 4) rfl (by rw [ew11]; rfl) (by decide) rfl (fun ls hl => ?_)
          refine lv_goto (tgt := 9) hx hb dX0_turned_90 (by decide) ?_
          exact ih w10 w11 l5 h H locs hP hD hS ls (lv_sub hl [4, 1, 0] rfl)
        · have h := ite_f c8 h
          refine lv_aload_n hx hb dX0_turned_44 rfl (lv_at hl 1 rfl) ?_
          refine lv_aload_n hx hb dX0_turned_45 rfl (lv_at hl 1 rfl) ?_
          refine va_get (D := D) (ci := 0) (v := .long zh) (C := RX0) (T := TX0) (N := 6) hx hb hts iwX0_turned_0 hown hE.1 hP 0 rfl rfl 3 (by decide) (hts _ lkX0_turned_4) (fun _ h9 => h9) rfl dX0_turned_46 ?_
          refine lv_lload_n hx hb dX0_turned_49 rfl (lv_at hl 2 rfl) ?_
          refine lv_lload hx hb dX0_turned_50 (lv_at hl 0 rfl) ?_
          obtain ⟨r12, h13, h⟩ := bind_s h
          refine kl (kN (As := [.long l3, .long r6]) (rest := [.long zh, .ref co]) C0 (kX3_joined l D cJ cZ l3 r6 r12 h13) gX0_turned_X3_joined_n67 rfl ⟨rfl, rfl⟩ hE.2.1 (hts _ lkX0_turned_5) (hts _ lkX0_turned_6) hdX3_joined ⟨Nat.le_of_ble_eq_true rfl, Nat.le_of_ble_eq_true rfl⟩ (hP.sub [] rfl) hE hl rfl rfl (Nat.le_of_ble_eq_true rfl) dX0_turned_52 (Nat.zero_le _) (Nat.zero_le _)) ?_
          obtain ⟨r14, h15, h⟩ := bind_s h
          refine kl (kV (As := [.long zh, .long r12]) (rest := []) C0 (kX0_multiple l D cJ cZ co fo N zp zr zh zb l5 zh r12 r14 h15) gX0_turned_X0_multiple rfl ⟨rfl, rfl⟩ hdX0_multiple ⟨Nat.le_of_ble_eq_true rfl, Nat.le_of_ble_eq_true rfl⟩ 0 0 rfl rfl rfl hP hE hl rfl rfl (Nat.le_of_ble_eq_true rfl) dX0_turned_55 (Nat.zero_le _) (Nat.zero_le _)) ?_
          refine lv_goto (tgt := 64) hx hb dX0_turned_58 (by decide) ?_
          refine lv_lstore (lv' := [(8, .long r14), (6, .long r6), (0, .ref co), (3, .long l3), (5, .int l5)]) hx hb dX0_turned_64 hl (by decide) rfl (fun ls hl => ?_)
          refine lv_lload hx hb dX0_turned_66 (lv_at hl 0 rfl) ?_
          refine lv_ldc2 (v := (-1)) hx hb hown (hts _ lkX0_turned_0) dX0_turned_68 ?_
          refine lc_eq (tgt := 78) hx hb dX0_turned_71 dX0_turned_72 (by decide) (fun c16 => ?_) (fun c16 => ?_)
          · have h := ite_t c16 h
            refine lv_lload_n hx hb dX0_turned_78 rfl (lv_at hl 3 rfl) ?_
            refine lv_lconst (v := 1) hx hb dX0_turned_79 (by decide) ?_
            refine lv_ladd hx hb dX0_turned_80 ?_
            refine lv_aload_n hx hb dX0_turned_81 rfl (lv_at hl 2 rfl) ?_
            refine va_get (D := D) (ci := 0) (v := .long zp) (C := RX0) (T := TX0) (N := 6) hx hb hts iwX0_turned_0 hown hE.1 hP 0 rfl rfl 1 (by decide) (hts _ lkX0_turned_3) (fun _ h9 => h9) rfl dX0_turned_82 ?_
            obtain ⟨c17, h⟩ := ite_n h
            refine lv_lremJ hx hb dX0_turned_85 c17 ?_
            obtain ⟨w18, ew18, h⟩ := bnd_s h
            refine tl ew18.symm ?_
            refine lv_lstore_n (lv' := [(3, .long w18), (8, .long r14), (6, .long r6), (0, .ref co), (5, .int l5)]) hx hb dX0_turned_86 rfl hl (by decide) rfl (fun ls hl => ?_)
            obtain ⟨w19, ew19, h⟩ := bnd_s h
            refine lv_iinc (v := w19) (lv' := [(5, .int w19), (3, .long w18), (8, .long r14), (6, .long r6), (0, .ref co)]) hx hb dX0_turned_87 hl (k := 4) rfl (by rw [ew19]; rfl) (by decide) rfl (fun ls hl => ?_)
            refine lv_goto (tgt := 9) hx hb dX0_turned_90 (by decide) ?_
            exact ih w18 w19 l5 h H locs hP hD hS ls (lv_sub hl [4, 1, 0] rfl)
          · have h := ite_f c16 h
            refine lv_lload hx hb dX0_turned_75 (lv_at hl 0 rfl) ?_
            cases h
            exact rfL hx hb hr hlocks hP hD hS dX0_turned_77
  suffices key : ∀ (H : Heap) (locs : List Loc), va_P D vwCl [(co, .inr (0, [.ref fo, .long zp, .long zr, .long zh, .long zb, .int zt])), (fo, .inr (2, [.long zp]))] H → va_D A [(co, .inr (0, [.ref fo, .long zp, .long zr, .long zh, .long zb, .int zt])), (fo, .inr (2, [.long zp]))] → va_S A s.heap H locs → W pg l e (headSpec wsX0_turned rmX0_turned).room s m ([.ref co, .long q0] : List Value).toArray below meth c H locs 0 0 (MQ below (QE D (some (.long rr)) [(co, .inr (0, [.ref fo, .long zp, .long zr, .long zh, .long zb, .int ozt])), (fo, .inr (2, [.long zp]))] A) ([.ref co, .long q0] : List Value).toArray s 0 0 A) (F0 m 0 ls []) from key s.heap [] hP hD hS
  intro H locs hP hD hS
  unfold fX0_turned at h
  refine lv_aload_n hx hb dX0_turned_0 rfl (lv_at hl 0 rfl) ?_
  refine lv_lload_n hx hb dX0_turned_1 rfl (lv_at hl 1 rfl) ?_
  obtain ⟨r1, h2, h⟩ := bind_s h
  refine kl (kV (As := [.long q0]) (rest := []) C0 (kX0_firstTried l D cJ cZ co fo zp zr zh zb zt q0 r1 h2) gX0_turned_X0_firstTried rfl ⟨rfl, rfl⟩ hdX0_firstTried ⟨Nat.le_of_ble_eq_true rfl, Nat.le_of_ble_eq_true rfl⟩ 0 0 rfl rfl rfl hP hE hl rfl rfl (Nat.le_of_ble_eq_true rfl) dX0_turned_2 (Nat.zero_le _) (Nat.zero_le _)) ?_
  refine lv_lstore_n (lv' := [(3, .long r1), (0, .ref co), (1, .long q0)]) hx hb dX0_turned_5 rfl hl (by decide) rfl (fun ls hl => ?_)
  refine lv_iconst (v := 1) hx hb dX0_turned_6 (by decide) ?_
  refine lv_istore (lv' := [(5, .int 1), (3, .long r1), (0, .ref co), (1, .long q0)]) hx hb dX0_turned_7 hl (by decide) rfl (fun ls hl => ?_)
  exact loop9 N r1 1 zt h H locs hP hD hS ls (lv_sub hl [2, 1, 0] rfl)
def fX0_pointWritten (N : Nat) (zp : Int64) (q0 : Int64) : Option (Int64) :=
  if q0 = (-1) then
    some (-1)
  else
    if q0 < 0 then
      some (-2)
    else
      if (q0 / 2) < zp then
        bnd (q0 / 2) fun w4 =>
        (fX0_squareOfY zp w4).bind fun r5 =>
        (fX2_evenRoot N zp r5).bind fun r7 =>
        if r7 = (-1) then
          some (-2)
        else
          if r7 = 0 then
            if (jrem q0 2) = 1 then
              some (-2)
            else
              (fX3_joined w4 r7).bind fun r17 =>
              some r17
          else
            if (jrem q0 2) = 1 then
              (fX3_joined w4 (zp - r7)).bind fun r14 =>
              some r14
            else
              (fX3_joined w4 r7).bind fun r12 =>
              some r12
      else
        some (-2)
abbrev rmX0_pointWritten : Room := { frames := 2, cells := 0, slots := 0, locals := 52 }
theorem lkX0_pointWritten_0 : (.constantLong RX0 58 (-1) : Cond) ∈ wsX0_pointWritten := by decide +kernel
theorem lkX0_pointWritten_1 : (.constantLong RX0 95 (-2) : Cond) ∈ wsX0_pointWritten := by decide +kernel
theorem lkX0_pointWritten_2 : (.constantLong RX0 50 (2) : Cond) ∈ wsX0_pointWritten := by decide +kernel
theorem lkX0_pointWritten_3 : (.fieldLink RX0 21 "PairingDesk$Curve" "p" "J" : Cond) ∈ wsX0_pointWritten := by decide +kernel
theorem lkX0_pointWritten_4 : (.fieldLink RX0 9 "PairingDesk$Curve" "field" "LPairingDesk$PrimeField;" : Cond) ∈ wsX0_pointWritten := by decide +kernel
theorem lkX0_pointWritten_5 : (.initialized RX3 : Cond) ∈ wsX0_pointWritten := by decide +kernel
theorem lkX0_pointWritten_6 : (.static yX3_joined : Cond) ∈ wsX0_pointWritten := by decide +kernel
theorem iwX0_pointWritten_0 : ∀ w ∈ wsX00, w ∈ wsX0_pointWritten := by decide +kernel
theorem hdX0_pointWritten : KN yX0_pointWritten 1 := by decide +kernel
set_option maxHeartbeats 4000000 in
set_option maxRecDepth 100000 in
theorem kX0_pointWritten (l : Launch) (D : va_G) (cJ cZ : ClassId) (co fo : Nat) (N : Nat) (zp : Int64) (zr : Int64) (zh : Int64) (zb : Int64) (zt : Int32) (q0 : Int64) (rr : Int64) (h : fX0_pointWritten N zp q0 = some rr) : Met l yX0_pointWritten wsX0_pointWritten rmX0_pointWritten (PP D cJ cZ [.ref co, .long q0] [(co, .inr (0, [.ref fo, .long zp, .long zr, .long zh, .long zb, .int zt])), (fo, .inr (2, [.long zp]))]) (SL rr) 0 0 (fun _ => False) := by
  refine Met.ofW (cc := cX0_pointWritten) (maxL := 7) (ret := some .long) (by decide) rfl ?_
  intro pg e s m args below meth c s₁ B hml hv
  obtain ⟨rfl, hP, hE⟩ := hv
  have hx := B.exec
  have hb := B.bytes
  have hr := B.returns
  have hlocks := B.notSynchronized
  have C0 : CallFix pg m c cX0_pointWritten 7 s ([.ref co, .long q0] : List Value).toArray wsX0_pointWritten RX0 := ⟨hx, hb, hml, findClass_of_methodNamed B.named, atoms_spec (ws := wsX0_pointWritten) B.pre⟩
  have hown := C0.2.2.2.1
  have hts := C0.2.2.2.2
  have hl := lv_entry ([.ref co, .long q0]) (n := 7) (Nat.le_of_ble_eq_true rfl)
  rw [lg_entry_eq]
  generalize (lg_sl ([.ref co, .long q0]) ++ List.replicate (7 - (lg_sl ([.ref co, .long q0])).length) Slot.unset).toArray = ls at hl ⊢
  have hl : lv_has ls 7 [(0, .ref co), (1, .long q0)] := hl
  unfold fX0_pointWritten at h
  refine lv_lload_n hx hb dX0_pointWritten_0 rfl (lv_at hl 1 rfl) ?_
  refine lv_ldc2 (v := (-1)) hx hb hown (hts _ lkX0_pointWritten_0) dX0_pointWritten_1 ?_
  refine lc_ne (tgt := 12) hx hb dX0_pointWritten_4 dX0_pointWritten_5 (by decide) (fun c1 => ?_) (fun c1 => ?_)
  · have h := ite_f c1 h
    refine lv_lload_n hx hb dX0_pointWritten_12 rfl (lv_at hl 1 rfl) ?_
    refine lv_lconst (v := 0) hx hb dX0_pointWritten_13 (by decide) ?_
    refine lc_lt (tgt := 31) hx hb dX0_pointWritten_14 dX0_pointWritten_15 (by decide) (fun c2 => ?_) (fun c2 => ?_)
    · have h := ite_t c2 h
      refine lv_ldc2 (v := (-2)) hx hb hown (hts _ lkX0_pointWritten_1) dX0_pointWritten_31 ?_
      exact reL hx hb hr hlocks h dX0_pointWritten_34
    · have h := ite_f c2 h
      refine lv_lload_n hx hb dX0_pointWritten_18 rfl (lv_at hl 1 rfl) ?_
      refine lv_ldc2 (v := 2) hx hb hown (hts _ lkX0_pointWritten_2) dX0_pointWritten_19 ?_
      refine lv_ldiv hx hb dX0_pointWritten_22 (by decide) ?_
      refine lv_aload_n hx hb dX0_pointWritten_23 rfl (lv_at hl 0 rfl) ?_
      refine va_get (D := D) (ci := 0) (v := .long zp) (C := RX0) (T := TX0) (N := 6) hx hb hts iwX0_pointWritten_0 hown hE.1 hP 0 rfl rfl 1 (by decide) (hts _ lkX0_pointWritten_3) (fun _ h9 => h9) rfl dX0_pointWritten_24 ?_
      refine lc_lt (tgt := 35) hx hb dX0_pointWritten_27 dX0_pointWritten_28 (by decide) (fun c3 => ?_) (fun c3 => ?_)
      · have h := ite_t c3 h
        refine lv_lload_n hx hb dX0_pointWritten_35 rfl (lv_at hl 1 rfl) ?_
        refine lv_ldc2 (v := 2) hx hb hown (hts _ lkX0_pointWritten_2) dX0_pointWritten_36 ?_
        refine lv_ldiv hx hb dX0_pointWritten_39 (by decide) ?_
        obtain ⟨w4, ew4, h⟩ := bnd_s h
        refine tl ew4.symm ?_
        refine lv_lstore_n (lv' := [(3, .long w4), (0, .ref co), (1, .long q0)]) hx hb dX0_pointWritten_40 rfl hl (by decide) rfl (fun ls hl => ?_)
        refine lv_aload_n hx hb dX0_pointWritten_41 rfl (lv_at hl 1 rfl) ?_
        refine va_get (D := D) (ci := 0) (v := .ref fo) (C := RX0) (T := TX0) (N := 6) hx hb hts iwX0_pointWritten_0 hown hE.1 hP 0 rfl rfl 0 (by decide) (hts _ lkX0_pointWritten_4) (fun _ h9 => h9) rfl dX0_pointWritten_42 ?_
        refine lv_aload_n hx hb dX0_pointWritten_45 rfl (lv_at hl 1 rfl) ?_
        refine lv_lload_n hx hb dX0_pointWritten_46 rfl (lv_at hl 0 rfl) ?_
        obtain ⟨r5, h6, h⟩ := bind_s h
        refine kl (kV (As := [.long w4]) (rest := [.ref fo]) C0 (kX0_squareOfY l D cJ cZ co fo zp zr zh zb zt w4 r5 h6) gX0_pointWritten_X0_squareOfY rfl ⟨rfl, rfl⟩ hdX0_squareOfY ⟨Nat.le_of_ble_eq_true rfl, Nat.le_of_ble_eq_true rfl⟩ 0 0 rfl rfl rfl hP hE hl rfl rfl (Nat.le_of_ble_eq_true rfl) dX0_pointWritten_47 (Nat.zero_le _) (Nat.zero_le _)) ?_
        obtain ⟨r7, h8, h⟩ := bind_s h
        refine kl (kV (As := [.long r5]) (rest := []) C0 (kX2_evenRoot l D cJ cZ fo N zp r5 r7 h8) gX0_pointWritten_X2_evenRoot rfl ⟨rfl, rfl⟩ hdX2_evenRoot ⟨Nat.le_of_ble_eq_true rfl, Nat.le_of_ble_eq_true rfl⟩ 2 0 rfl rfl rfl (hP.sub [1] rfl) hE hl rfl rfl (Nat.le_of_ble_eq_true rfl) dX0_pointWritten_50 (Nat.zero_le _) (Nat.zero_le _)) ?_
        refine lv_lstore (lv' := [(5, .long r7), (3, .long w4), (0, .ref co), (1, .long q0)]) hx hb dX0_pointWritten_53 hl (by decide) rfl (fun ls hl => ?_)
        refine lv_lload hx hb dX0_pointWritten_55 (lv_at hl 0 rfl) ?_
        refine lv_ldc2 (v := (-1)) hx hb hown (hts _ lkX0_pointWritten_0) dX0_pointWritten_57 ?_
        refine lc_eq (tgt := 81) hx hb dX0_pointWritten_60 dX0_pointWritten_61 (by decide) (fun c9 => ?_) (fun c9 => ?_)
        · have h := ite_t c9 h
          refine lv_ldc2 (v := (-2)) hx hb hown (hts _ lkX0_pointWritten_1) dX0_pointWritten_81 ?_
          exact reL hx hb hr hlocks h dX0_pointWritten_84
        · have h := ite_f c9 h
          refine lv_lload hx hb dX0_pointWritten_64 (lv_at hl 0 rfl) ?_
          refine lv_lconst (v := 0) hx hb dX0_pointWritten_66 (by decide) ?_
          refine lc_ne (tgt := 85) hx hb dX0_pointWritten_67 dX0_pointWritten_68 (by decide) (fun c10 => ?_) (fun c10 => ?_)
          · have h := ite_f c10 h
            refine lv_lload_n hx hb dX0_pointWritten_85 rfl (lv_at hl 1 rfl) ?_
            refine lv_lload_n hx hb dX0_pointWritten_86 rfl (lv_at hl 3 rfl) ?_
            refine lv_ldc2 (v := 2) hx hb hown (hts _ lkX0_pointWritten_2) dX0_pointWritten_87 ?_
            refine lv_lremJ hx hb dX0_pointWritten_90 (by decide) ?_
            refine lv_lconst (v := 1) hx hb dX0_pointWritten_91 (by decide) ?_
            refine lc_ne (tgt := 106) hx hb dX0_pointWritten_92 dX0_pointWritten_93 (by decide) (fun c11 => ?_) (fun c11 => ?_)
            · have h := ite_f c11 h
              refine lv_lload hx hb dX0_pointWritten_106 (lv_at hl 0 rfl) ?_
              obtain ⟨r12, h13, h⟩ := bind_s h
              refine kl (kN (As := [.long w4, .long r7]) (rest := []) C0 (kX3_joined l D cJ cZ w4 r7 r12 h13) gX0_pointWritten_X3_joined_n67 rfl ⟨rfl, rfl⟩ hE.2.1 (hts _ lkX0_pointWritten_5) (hts _ lkX0_pointWritten_6) hdX3_joined ⟨Nat.le_of_ble_eq_true rfl, Nat.le_of_ble_eq_true rfl⟩ (hP.sub [] rfl) hE hl rfl rfl (Nat.le_of_ble_eq_true rfl) dX0_pointWritten_108 (Nat.zero_le _) (Nat.zero_le _)) ?_
              exact reL hx hb hr hlocks h dX0_pointWritten_111
            · have h := ite_t c11 h
              refine lv_aload_n hx hb dX0_pointWritten_96 rfl (lv_at hl 2 rfl) ?_
              refine va_get (D := D) (ci := 0) (v := .long zp) (C := RX0) (T := TX0) (N := 6) hx hb hts iwX0_pointWritten_0 hown hE.1 hP 0 rfl rfl 1 (by decide) (hts _ lkX0_pointWritten_3) (fun _ h9 => h9) rfl dX0_pointWritten_97 ?_
              refine lv_lload hx hb dX0_pointWritten_100 (lv_at hl 0 rfl) ?_
              refine lv_lsub hx hb dX0_pointWritten_102 ?_
              refine lv_goto (tgt := 108) hx hb dX0_pointWritten_103 (by decide) ?_
              obtain ⟨r14, h15, h⟩ := bind_s h
              refine kl (kN (As := [.long w4, .long (zp - r7)]) (rest := []) C0 (kX3_joined l D cJ cZ w4 (zp - r7) r14 h15) gX0_pointWritten_X3_joined_n67 rfl ⟨rfl, rfl⟩ hE.2.1 (hts _ lkX0_pointWritten_5) (hts _ lkX0_pointWritten_6) hdX3_joined ⟨Nat.le_of_ble_eq_true rfl, Nat.le_of_ble_eq_true rfl⟩ (hP.sub [] rfl) hE hl rfl rfl (Nat.le_of_ble_eq_true rfl) dX0_pointWritten_108 (Nat.zero_le _) (Nat.zero_le _)) ?_
              exact reL hx hb hr hlocks h dX0_pointWritten_111
          · have h := ite_t c10 h
            refine lv_lload_n hx hb dX0_pointWritten_71 rfl (lv_at hl 3 rfl) ?_
            refine lv_ldc2 (v := 2) hx hb hown (hts _ lkX0_pointWritten_2) dX0_pointWritten_72 ?_
            refine lv_lremJ hx hb dX0_pointWritten_75 (by decide) ?_
            refine lv_lconst (v := 1) hx hb dX0_pointWritten_76 (by decide) ?_
            refine lc_ne (tgt := 85) hx hb dX0_pointWritten_77 dX0_pointWritten_78 (by decide) (fun c16 => ?_) (fun c16 => ?_)
            · have h := ite_f c16 h
              refine lv_lload_n hx hb dX0_pointWritten_85 rfl (lv_at hl 1 rfl) ?_
              refine lv_lload_n hx hb dX0_pointWritten_86 rfl (lv_at hl 3 rfl) ?_
              refine lv_ldc2 (v := 2) hx hb hown (hts _ lkX0_pointWritten_2) dX0_pointWritten_87 ?_
              refine lv_lremJ hx hb dX0_pointWritten_90 (by decide) ?_
              refine lv_lconst (v := 1) hx hb dX0_pointWritten_91 (by decide) ?_
              refine lc_ne (tgt := 106) hx hb dX0_pointWritten_92 dX0_pointWritten_93 (by decide) (fun _ => ?_) (fun cc => absurd cc c16)
              refine lv_lload hx hb dX0_pointWritten_106 (lv_at hl 0 rfl) ?_
              obtain ⟨r17, h18, h⟩ := bind_s h
              refine kl (kN (As := [.long w4, .long r7]) (rest := []) C0 (kX3_joined l D cJ cZ w4 r7 r17 h18) gX0_pointWritten_X3_joined_n67 rfl ⟨rfl, rfl⟩ hE.2.1 (hts _ lkX0_pointWritten_5) (hts _ lkX0_pointWritten_6) hdX3_joined ⟨Nat.le_of_ble_eq_true rfl, Nat.le_of_ble_eq_true rfl⟩ (hP.sub [] rfl) hE hl rfl rfl (Nat.le_of_ble_eq_true rfl) dX0_pointWritten_108 (Nat.zero_le _) (Nat.zero_le _)) ?_
              exact reL hx hb hr hlocks h dX0_pointWritten_111
            · have h := ite_t c16 h
              refine lv_ldc2 (v := (-2)) hx hb hown (hts _ lkX0_pointWritten_1) dX0_pointWritten_81 ?_
              exact reL hx hb hr hlocks h dX0_pointWritten_84
      · have h := ite_f c3 h
        refine lv_ldc2 (v := (-2)) hx hb hown (hts _ lkX0_pointWritten_1) dX0_pointWritten_31 ?_
        exact reL hx hb hr hlocks h dX0_pointWritten_34
  · have h := ite_t c1 h
    refine lv_ldc2 (v := (-1)) hx hb hown (hts _ lkX0_pointWritten_0) dX0_pointWritten_8 ?_
    exact reL hx hb hr hlocks h dX0_pointWritten_11
