def fX4_open (N : Nat) (zp : Int64) (zr : Int64) (zh : Int64) (zx : Int64) (zy : Int64) (zi : Bool) (zpx : Nat → Int64) (zpy : Nat → Int64) (zip : Nat → Bool) (q0 : Int32) (q1 : Int32) : Option (Int32 × Int64 × Int64 × Bool × (Nat → Int64) × (Nat → Int64) × (Nat → Bool)) :=
  if zp = 0 then
    some ((-3), zx, zy, zi, zpx, zpy, zip)
  else
    (fX4_isSlot q0).bind fun r2 =>
    if (bI r2) = 0 then
      some ((-2), zx, zy, zi, zpx, zpy, zip)
    else
      (fX4_in q1.toInt64 1 (zr - 1)).bind fun r5 =>
      if (bI r5) = 0 then
        some ((-2), zx, zy, zi, zpx, zpy, zip)
      else
        (fX4_turnOf N zp zh zx zy zi 1).bind fun (r8, o9, o10, o11) =>
        (fX4_take N zp o9 o10 o11 q1.toInt64).bind fun (o13, o14, o15) =>
        (fX4_store o13 o14 o15 zpx zpy zip q0).bind fun (o17, o18, o19) =>
        some (1, o13, o14, o15, o17, o18, o19)
abbrev rmX4_open : Room := { frames := 7, cells := 0, slots := 0, locals := 190 }
theorem lkX4_open_0 : (.fieldLink RX4 28 "PairingDeskModel" "p" "J" : Cond) ∈ wsX4_open := by decide +kernel
theorem lkX4_open_1 : (.fieldLink RX4 48 "PairingDeskModel" "\x72" "J" : Cond) ∈ wsX4_open := by decide +kernel
theorem iwX4_open_4 : ∀ w ∈ wsX40, w ∈ wsX4_open := by decide +kernel
theorem hdX4_open : KN yX4_open 2 := by decide +kernel
set_option maxHeartbeats 4000000 in
set_option maxRecDepth 100000 in
theorem kX4_open (l : Launch) (D : va_G) (cJ cZ : ClassId) (mo a1 a2 a3 a4 a5 : Nat) (N : Nat) (zp : Int64) (zr : Int64) (zh : Int64) (zx : Int64) (zy : Int64) (zi : Bool) (zu : Int64) (zv : Int64) (zl : Int32) (zpx : Nat → Int64) (zpy : Nat → Int64) (zip : Nat → Bool) (zvu : Nat → Int64) (zvv : Nat → Int64) (q0 : Int32) (q1 : Int32) (sz : Nat) (rr : Int32) (ozx : Int64) (ozy : Int64) (ozi : Bool) (ozpx : Nat → Int64) (ozpy : Nat → Int64) (ozip : Nat → Bool) (h : fX4_open N zp zr zh zx zy zi zpx zpy zip q0 q1 = some (rr, ozx, ozy, ozi, ozpx, ozpy, ozip)) : Met l yX4_open wsX4_open rmX4_open (PE D cJ cZ [.ref mo, .int q0, .int q1] [(mo, .inr (4, [.long zp, .long zr, .long zh, .ref a1, .ref a2, .ref a3, .ref a4, .ref a5, .long zx, .long zy, .int (bI zi), .long zu, .long zv, .int zl])), (a1, .inl (cJ, 16, .inr (.inl zpx))), (a2, .inl (cJ, 16, .inr (.inl zpy))), (a3, .inl (cZ, 16, .inl (fun i => bI (zip i)))), (a4, .inl (cJ, 8, .inr (.inl zvu))), (a5, .inl (cJ, 8, .inr (.inl zvv)))] sz) (QE D (some (.int rr)) [(mo, .inr (4, [.long zp, .long zr, .long zh, .ref a1, .ref a2, .ref a3, .ref a4, .ref a5, .long ozx, .long ozy, .int (bI ozi), .long zu, .long zv, .int zl])), (a1, .inl (cJ, 16, .inr (.inl ozpx))), (a2, .inl (cJ, 16, .inr (.inl ozpy))), (a3, .inl (cZ, 16, .inl (fun i => bI (ozip i)))), (a4, .inl (cJ, 8, .inr (.inl zvu))), (a5, .inl (cJ, 8, .inr (.inl zvv)))] (va_A [(mo, .inr (4, [.long zp, .long zr, .long zh, .ref a1, .ref a2, .ref a3, .ref a4, .ref a5, .long zx, .long zy, .int (bI zi), .long zu, .long zv, .int zl])), (a1, .inl (cJ, 16, .inr (.inl zpx))), (a2, .inl (cJ, 16, .inr (.inl zpy))), (a3, .inl (cZ, 16, .inl (fun i => bI (zip i)))), (a4, .inl (cJ, 8, .inr (.inl zvu))), (a5, .inl (cJ, 8, .inr (.inl zvv)))] sz)) 0 0 (va_A [(mo, .inr (4, [.long zp, .long zr, .long zh, .ref a1, .ref a2, .ref a3, .ref a4, .ref a5, .long zx, .long zy, .int (bI zi), .long zu, .long zv, .int zl])), (a1, .inl (cJ, 16, .inr (.inl zpx))), (a2, .inl (cJ, 16, .inr (.inl zpy))), (a3, .inl (cZ, 16, .inl (fun i => bI (zip i)))), (a4, .inl (cJ, 8, .inr (.inl zvu))), (a5, .inl (cJ, 8, .inr (.inl zvv)))] sz) := by
  refine Met.ofW (cc := cX4_open) (maxL := 4) (ret := some .int) (by decide) rfl ?_
  intro pg e s m args below meth c s₁ B hml hv
  obtain ⟨rfl, hsz, hP, hE, hD0⟩ := hv
  have hx := B.exec
  have hb := B.bytes
  have hr := B.returns
  have hlocks := B.notSynchronized
  have C0 : CallFix pg m c cX4_open 4 s ([.ref mo, .int q0, .int q1] : List Value).toArray wsX4_open RX4 := ⟨hx, hb, hml, findClass_of_methodNamed B.named, atoms_spec (ws := wsX4_open) B.pre⟩
  have hown := C0.2.2.2.1
  have hts := C0.2.2.2.2
  subst hsz
  have hD := hD0.self (sz := s.heap.size)
  generalize hAe : va_A [(mo, .inr (4, [.long zp, .long zr, .long zh, .ref a1, .ref a2, .ref a3, .ref a4, .ref a5, .long zx, .long zy, .int (bI zi), .long zu, .long zv, .int zl])), (a1, .inl (cJ, 16, .inr (.inl zpx))), (a2, .inl (cJ, 16, .inr (.inl zpy))), (a3, .inl (cZ, 16, .inl (fun i => bI (zip i)))), (a4, .inl (cJ, 8, .inr (.inl zvu))), (a5, .inl (cJ, 8, .inr (.inl zvv)))] s.heap.size = A at hD ⊢
  have hA : ∀ q : Nat, s.heap.size ≤ q → A q := fun q h => by rw [← hAe]; exact Or.inr h
  have hS : va_S A s.heap s.heap [] := va_S.rf
  have hP : va_P D vwCl [(mo, .inr (4, [.long zp, .long zr, .long zh, .ref a1, .ref a2, .ref a3, .ref a4, .ref a5, .long zx, .long zy, .int (bI zi), .long zu, .long zv, .int zl])), (a1, .inl (cJ, 16, .inr (.inl zpx))), (a2, .inl (cJ, 16, .inr (.inl zpy))), (a3, .inl (cZ, 16, .inl (fun i => bI (zip i)))), (a4, .inl (cJ, 8, .inr (.inl zvu))), (a5, .inl (cJ, 8, .inr (.inl zvv)))] s.heap := hP
  have hl := lv_entry ([.ref mo, .int q0, .int q1]) (n := 4) (Nat.le_of_ble_eq_true rfl)
  rw [lg_entry_eq]
  generalize (lg_sl ([.ref mo, .int q0, .int q1]) ++ List.replicate (4 - (lg_sl ([.ref mo, .int q0, .int q1])).length) Slot.unset).toArray = ls at hl ⊢
  have hl : lv_has ls 4 [(0, .ref mo), (1, .int q0), (2, .int q1)] := hl
  suffices key : ∀ (H : Heap) (locs : List Loc), va_P D vwCl [(mo, .inr (4, [.long zp, .long zr, .long zh, .ref a1, .ref a2, .ref a3, .ref a4, .ref a5, .long zx, .long zy, .int (bI zi), .long zu, .long zv, .int zl])), (a1, .inl (cJ, 16, .inr (.inl zpx))), (a2, .inl (cJ, 16, .inr (.inl zpy))), (a3, .inl (cZ, 16, .inl (fun i => bI (zip i)))), (a4, .inl (cJ, 8, .inr (.inl zvu))), (a5, .inl (cJ, 8, .inr (.inl zvv)))] H → va_D A [(mo, .inr (4, [.long zp, .long zr, .long zh, .ref a1, .ref a2, .ref a3, .ref a4, .ref a5, .long zx, .long zy, .int (bI zi), .long zu, .long zv, .int zl])), (a1, .inl (cJ, 16, .inr (.inl zpx))), (a2, .inl (cJ, 16, .inr (.inl zpy))), (a3, .inl (cZ, 16, .inl (fun i => bI (zip i)))), (a4, .inl (cJ, 8, .inr (.inl zvu))), (a5, .inl (cJ, 8, .inr (.inl zvv)))] → va_S A s.heap H locs → W pg l e (headSpec wsX4_open rmX4_open).room s m ([.ref mo, .int q0, .int q1] : List Value).toArray below meth c H locs 0 0 (MQ below (QE D (some (.int rr)) [(mo, .inr (4, [.long zp, .long zr, .long zh, .ref a1, .ref a2, .ref a3, .ref a4, .ref a5, .long ozx, .long ozy, .int (bI ozi), .long zu, .long zv, .int zl])), (a1, .inl (cJ, 16, .inr (.inl ozpx))), (a2, .inl (cJ, 16, .inr (.inl ozpy))), (a3, .inl (cZ, 16, .inl (fun i => bI (ozip i)))), (a4, .inl (cJ, 8, .inr (.inl zvu))), (a5, .inl (cJ, 8, .inr (.inl zvv)))] A) ([.ref mo, .int q0, .int q1] : List Value).toArray s 0 0 A) (F0 m 0 ls []) from key s.heap [] hP hD hS
  intro H locs hP hD hS
  unfold fX4_open at h
  refine lv_aload_n hx hb dX4_open_0 rfl (lv_at hl 0 rfl) ?_
  refine va_get (D := D) (ci := 4) (v := .long zp) (C := RX4) (T := TX4) (N := 14) hx hb hts iwX4_open_4 hown hE.1 hP 0 rfl rfl 0 (by decide) (hts _ lkX4_open_0) (fun _ h9 => h9) rfl dX4_open_1 ?_
  refine lv_lconst (v := 0) hx hb dX4_open_4 (by decide) ?_
  refine lc_ne (tgt := 12) hx hb dX4_open_5 dX4_open_6 (by decide) (fun c1 => ?_) (fun c1 => ?_)
  · have h := ite_f c1 h
    refine lv_iload_n hx hb dX4_open_12 rfl (lv_at hl 1 rfl) ?_
    obtain ⟨r2, h3, h⟩ := bind_s h
    refine ki (kS (As := [.int q0]) (rest := []) C0 (kX4_isSlot l D cJ cZ q0 r2 h3) gX4_open_X4_isSlot rfl ⟨rfl, rfl⟩ hdX4_isSlot ⟨Nat.le_of_ble_eq_true rfl, Nat.le_of_ble_eq_true rfl⟩ (hP.sub [] rfl) hE hl rfl rfl (Nat.le_of_ble_eq_true rfl) dX4_open_13 (Nat.zero_le _) (Nat.zero_le _)) ?_
    refine lv_if_eq (tgt := 34) hx hb dX4_open_16 (by decide) (fun c4 => ?_) (fun c4 => ?_)
    · have h := ite_t c4 h
      refine lv_bipush (v := (-2)) hx hb dX4_open_34 (by decide) ?_
      cases h
      exact rfI hx hb hr hlocks hP hD hS dX4_open_36
    · have h := ite_f c4 h
      refine lv_iload_n hx hb dX4_open_19 rfl (lv_at hl 2 rfl) ?_
      refine lv_i2l (v := q1.toInt64) hx hb dX4_open_20 rfl ?_
      refine lv_lconst (v := 1) hx hb dX4_open_21 (by decide) ?_
      refine lv_aload_n hx hb dX4_open_22 rfl (lv_at hl 0 rfl) ?_
      refine va_get (D := D) (ci := 4) (v := .long zr) (C := RX4) (T := TX4) (N := 14) hx hb hts iwX4_open_4 hown hE.1 hP 0 rfl rfl 1 (by decide) (hts _ lkX4_open_1) (fun _ h9 => h9) rfl dX4_open_23 ?_
      refine lv_lconst (v := 1) hx hb dX4_open_26 (by decide) ?_
      refine lv_lsub hx hb dX4_open_27 ?_
      obtain ⟨r5, h6, h⟩ := bind_s h
      refine ki (kS (As := [.long q1.toInt64, .long 1, .long (zr - 1)]) (rest := []) C0 (kX4_in l D cJ cZ q1.toInt64 1 (zr - 1) r5 h6) gX4_open_X4_in rfl ⟨rfl, rfl⟩ hdX4_in ⟨Nat.le_of_ble_eq_true rfl, Nat.le_of_ble_eq_true rfl⟩ (hP.sub [] rfl) hE hl rfl rfl (Nat.le_of_ble_eq_true rfl) dX4_open_28 (Nat.zero_le _) (Nat.zero_le _)) ?_
      refine lv_if_ne (tgt := 37) hx hb dX4_open_31 (by decide) (fun c7 => ?_) (fun c7 => ?_)
      · have h := ite_f c7 h
        refine lv_aload_n hx hb dX4_open_37 rfl (lv_at hl 0 rfl) ?_
        refine lv_lconst (v := 1) hx hb dX4_open_38 (by decide) ?_
        obtain ⟨⟨r8, o9, o10, o11⟩, h12, h⟩ := bind_s h
        try dsimp only at h
        refine kE (wc := [(mo, .inr (4, [.long zp, .long zr, .long zh, .ref a1, .ref a2, .ref a3, .ref a4, .ref a5, .long zx, .long zy, .int (bI zi), .long zu, .long zv, .int zl])), (a1, .inl (cJ, 16, .inr (.inl zpx))), (a2, .inl (cJ, 16, .inr (.inl zpy))), (a3, .inl (cZ, 16, .inl (fun i => bI (zip i)))), (a4, .inl (cJ, 8, .inr (.inl zvu))), (a5, .inl (cJ, 8, .inr (.inl zvv)))]) (wr := []) [0, 1, 2, 3, 4, 5] [] hP hD hS hA rfl rfl rfl (by decide) rfl (eV (As := [.long 1]) (rest := []) C0 (kX4_turnOf l D cJ cZ mo a1 a2 a3 a4 a5 N zp zr zh zx zy zi zu zv zl zpx zpy zip zvu zvv 1 H.size r8 o9 o10 o11 h12) gX4_open_X4_turnOf rfl ⟨rfl, rfl⟩ hdX4_turnOf ⟨Nat.le_of_ble_eq_true rfl, Nat.le_of_ble_eq_true rfl⟩ 4 0 rfl rfl rfl hP hD hE hl rfl rfl (Nat.le_of_ble_eq_true rfl) dX4_open_39 ⟨Nat.zero_le _, Nat.zero_le _⟩) (fun H locs hP hD hS => ?_)
        have hP : va_P D vwCl [(mo, .inr (4, [.long zp, .long zr, .long zh, .ref a1, .ref a2, .ref a3, .ref a4, .ref a5, .long o9, .long o10, .int (bI o11), .long zu, .long zv, .int zl])), (a1, .inl (cJ, 16, .inr (.inl zpx))), (a2, .inl (cJ, 16, .inr (.inl zpy))), (a3, .inl (cZ, 16, .inl (fun i => bI (zip i)))), (a4, .inl (cJ, 8, .inr (.inl zvu))), (a5, .inl (cJ, 8, .inr (.inl zvv)))] H := hP
        have hD : va_D A [(mo, .inr (4, [.long zp, .long zr, .long zh, .ref a1, .ref a2, .ref a3, .ref a4, .ref a5, .long o9, .long o10, .int (bI o11), .long zu, .long zv, .int zl])), (a1, .inl (cJ, 16, .inr (.inl zpx))), (a2, .inl (cJ, 16, .inr (.inl zpy))), (a3, .inl (cZ, 16, .inl (fun i => bI (zip i)))), (a4, .inl (cJ, 8, .inr (.inl zvu))), (a5, .inl (cJ, 8, .inr (.inl zvv)))] := hD
        refine lv_istore_n (lv' := [(3, .int r8), (0, .ref mo), (1, .int q0), (2, .int q1)]) hx hb dX4_open_42 rfl hl (by decide) rfl (fun ls hl => ?_)
        refine lv_aload_n hx hb dX4_open_43 rfl (lv_at hl 1 rfl) ?_
        refine lv_iload_n hx hb dX4_open_44 rfl (lv_at hl 3 rfl) ?_
        refine lv_i2l (v := q1.toInt64) hx hb dX4_open_45 rfl ?_
        obtain ⟨⟨o13, o14, o15⟩, h16, h⟩ := bind_s h
        try dsimp only at h
        refine kE (wc := [(mo, .inr (4, [.long zp, .long zr, .long zh, .ref a1, .ref a2, .ref a3, .ref a4, .ref a5, .long o9, .long o10, .int (bI o11), .long zu, .long zv, .int zl])), (a1, .inl (cJ, 16, .inr (.inl zpx))), (a2, .inl (cJ, 16, .inr (.inl zpy))), (a3, .inl (cZ, 16, .inl (fun i => bI (zip i)))), (a4, .inl (cJ, 8, .inr (.inl zvu))), (a5, .inl (cJ, 8, .inr (.inl zvv)))]) (wr := []) [0, 1, 2, 3, 4, 5] [] hP hD hS hA rfl rfl rfl (by decide) rfl (eV (As := [.long q1.toInt64]) (rest := []) C0 (kX4_take l D cJ cZ mo a1 a2 a3 a4 a5 N zp zr zh o9 o10 o11 zu zv zl zpx zpy zip zvu zvv q1.toInt64 H.size o13 o14 o15 h16) gX4_open_X4_take rfl ⟨rfl, rfl⟩ hdX4_take ⟨Nat.le_of_ble_eq_true rfl, Nat.le_of_ble_eq_true rfl⟩ 4 0 rfl rfl rfl hP hD hE hl rfl rfl (Nat.le_of_ble_eq_true rfl) dX4_open_46 ⟨Nat.zero_le _, Nat.zero_le _⟩) (fun H locs hP hD hS => ?_)
        have hP : va_P D vwCl [(mo, .inr (4, [.long zp, .long zr, .long zh, .ref a1, .ref a2, .ref a3, .ref a4, .ref a5, .long o13, .long o14, .int (bI o15), .long zu, .long zv, .int zl])), (a1, .inl (cJ, 16, .inr (.inl zpx))), (a2, .inl (cJ, 16, .inr (.inl zpy))), (a3, .inl (cZ, 16, .inl (fun i => bI (zip i)))), (a4, .inl (cJ, 8, .inr (.inl zvu))), (a5, .inl (cJ, 8, .inr (.inl zvv)))] H := hP
        have hD : va_D A [(mo, .inr (4, [.long zp, .long zr, .long zh, .ref a1, .ref a2, .ref a3, .ref a4, .ref a5, .long o13, .long o14, .int (bI o15), .long zu, .long zv, .int zl])), (a1, .inl (cJ, 16, .inr (.inl zpx))), (a2, .inl (cJ, 16, .inr (.inl zpy))), (a3, .inl (cZ, 16, .inl (fun i => bI (zip i)))), (a4, .inl (cJ, 8, .inr (.inl zvu))), (a5, .inl (cJ, 8, .inr (.inl zvv)))] := hD
        refine lv_aload_n hx hb dX4_open_49 rfl (lv_at hl 1 rfl) ?_
        refine lv_iload_n hx hb dX4_open_50 rfl (lv_at hl 2 rfl) ?_
        obtain ⟨⟨o17, o18, o19⟩, h20, h⟩ := bind_s h
        try dsimp only at h
        refine kE (wc := [(mo, .inr (4, [.long zp, .long zr, .long zh, .ref a1, .ref a2, .ref a3, .ref a4, .ref a5, .long o13, .long o14, .int (bI o15), .long zu, .long zv, .int zl])), (a1, .inl (cJ, 16, .inr (.inl zpx))), (a2, .inl (cJ, 16, .inr (.inl zpy))), (a3, .inl (cZ, 16, .inl (fun i => bI (zip i)))), (a4, .inl (cJ, 8, .inr (.inl zvu))), (a5, .inl (cJ, 8, .inr (.inl zvv)))]) (wr := []) [0, 1, 2, 3, 4, 5] [] hP hD hS hA rfl rfl rfl (by decide) rfl (eV (As := [.int q0]) (rest := []) C0 (kX4_store l D cJ cZ mo a1 a2 a3 a4 a5 zp zr zh o13 o14 o15 zu zv zl zpx zpy zip zvu zvv q0 H.size o17 o18 o19 h20) gX4_open_X4_store rfl ⟨rfl, rfl⟩ hdX4_store ⟨Nat.le_of_ble_eq_true rfl, Nat.le_of_ble_eq_true rfl⟩ 4 0 rfl rfl rfl hP hD hE hl rfl rfl (Nat.le_of_ble_eq_true rfl) dX4_open_51 ⟨Nat.zero_le _, Nat.zero_le _⟩) (fun H locs hP hD hS => ?_)
        have hP : va_P D vwCl [(mo, .inr (4, [.long zp, .long zr, .long zh, .ref a1, .ref a2, .ref a3, .ref a4, .ref a5, .long o13, .long o14, .int (bI o15), .long zu, .long zv, .int zl])), (a1, .inl (cJ, 16, .inr (.inl o17))), (a2, .inl (cJ, 16, .inr (.inl o18))), (a3, .inl (cZ, 16, .inl (fun i => bI (o19 i)))), (a4, .inl (cJ, 8, .inr (.inl zvu))), (a5, .inl (cJ, 8, .inr (.inl zvv)))] H := hP
        have hD : va_D A [(mo, .inr (4, [.long zp, .long zr, .long zh, .ref a1, .ref a2, .ref a3, .ref a4, .ref a5, .long o13, .long o14, .int (bI o15), .long zu, .long zv, .int zl])), (a1, .inl (cJ, 16, .inr (.inl o17))), (a2, .inl (cJ, 16, .inr (.inl o18))), (a3, .inl (cZ, 16, .inl (fun i => bI (o19 i)))), (a4, .inl (cJ, 8, .inr (.inl zvu))), (a5, .inl (cJ, 8, .inr (.inl zvv)))] := hD
        refine lv_iconst (v := 1) hx hb dX4_open_54 (by decide) ?_
        cases h
        exact rfI hx hb hr hlocks hP hD hS dX4_open_55
      · have h := ite_t c7 h
        refine lv_bipush (v := (-2)) hx hb dX4_open_34 (by decide) ?_
        cases h
        exact rfI hx hb hr hlocks hP hD hS dX4_open_36
  · have h := ite_t c1 h
    refine lv_bipush (v := (-3)) hx hb dX4_open_9 (by decide) ?_
    cases h
    exact rfI hx hb hr hlocks hP hD hS dX4_open_11
def fX4_sign (N : Nat) (zp : Int64) (zr : Int64) (zh : Int64) (zx : Int64) (zy : Int64) (zi : Bool) (zpx : Nat → Int64) (zpy : Nat → Int64) (zip : Nat → Bool) (q0 : Int32) (q1 : Int32) (q2 : Int64) : Option (Int32 × Int64 × Int64 × Bool × (Nat → Int64) × (Nat → Int64) × (Nat → Bool)) :=
  if zp = 0 then
    some ((-3), zx, zy, zi, zpx, zpy, zip)
  else
    (fX4_isSlot q0).bind fun r2 =>
    if (bI r2) = 0 then
      some ((-2), zx, zy, zi, zpx, zpy, zip)
    else
      (fX4_in q1.toInt64 1 (zr - 1)).bind fun r5 =>
      if (bI r5) = 0 then
        some ((-2), zx, zy, zi, zpx, zpy, zip)
      else
        (fX4_turnOf N zp zh zx zy zi q2).bind fun (r8, o9, o10, o11) =>
        (fX4_take N zp o9 o10 o11 q1.toInt64).bind fun (o13, o14, o15) =>
        (fX4_store o13 o14 o15 zpx zpy zip q0).bind fun (o17, o18, o19) =>
        some (1, o13, o14, o15, o17, o18, o19)
abbrev rmX4_sign : Room := { frames := 7, cells := 0, slots := 0, locals := 190 }
theorem lkX4_sign_0 : (.fieldLink RX4 28 "PairingDeskModel" "p" "J" : Cond) ∈ wsX4_sign := by decide +kernel
theorem lkX4_sign_1 : (.fieldLink RX4 48 "PairingDeskModel" "\x72" "J" : Cond) ∈ wsX4_sign := by decide +kernel
theorem iwX4_sign_4 : ∀ w ∈ wsX40, w ∈ wsX4_sign := by decide +kernel
theorem hdX4_sign : KN yX4_sign 3 := by decide +kernel
set_option maxHeartbeats 4000000 in
set_option maxRecDepth 100000 in
theorem kX4_sign (l : Launch) (D : va_G) (cJ cZ : ClassId) (mo a1 a2 a3 a4 a5 : Nat) (N : Nat) (zp : Int64) (zr : Int64) (zh : Int64) (zx : Int64) (zy : Int64) (zi : Bool) (zu : Int64) (zv : Int64) (zl : Int32) (zpx : Nat → Int64) (zpy : Nat → Int64) (zip : Nat → Bool) (zvu : Nat → Int64) (zvv : Nat → Int64) (q0 : Int32) (q1 : Int32) (q2 : Int64) (sz : Nat) (rr : Int32) (ozx : Int64) (ozy : Int64) (ozi : Bool) (ozpx : Nat → Int64) (ozpy : Nat → Int64) (ozip : Nat → Bool) (h : fX4_sign N zp zr zh zx zy zi zpx zpy zip q0 q1 q2 = some (rr, ozx, ozy, ozi, ozpx, ozpy, ozip)) : Met l yX4_sign wsX4_sign rmX4_sign (PE D cJ cZ [.ref mo, .int q0, .int q1, .long q2] [(mo, .inr (4, [.long zp, .long zr, .long zh, .ref a1, .ref a2, .ref a3, .ref a4, .ref a5, .long zx, .long zy, .int (bI zi), .long zu, .long zv, .int zl])), (a1, .inl (cJ, 16, .inr (.inl zpx))), (a2, .inl (cJ, 16, .inr (.inl zpy))), (a3, .inl (cZ, 16, .inl (fun i => bI (zip i)))), (a4, .inl (cJ, 8, .inr (.inl zvu))), (a5, .inl (cJ, 8, .inr (.inl zvv)))] sz) (QE D (some (.int rr)) [(mo, .inr (4, [.long zp, .long zr, .long zh, .ref a1, .ref a2, .ref a3, .ref a4, .ref a5, .long ozx, .long ozy, .int (bI ozi), .long zu, .long zv, .int zl])), (a1, .inl (cJ, 16, .inr (.inl ozpx))), (a2, .inl (cJ, 16, .inr (.inl ozpy))), (a3, .inl (cZ, 16, .inl (fun i => bI (ozip i)))), (a4, .inl (cJ, 8, .inr (.inl zvu))), (a5, .inl (cJ, 8, .inr (.inl zvv)))] (va_A [(mo, .inr (4, [.long zp, .long zr, .long zh, .ref a1, .ref a2, .ref a3, .ref a4, .ref a5, .long zx, .long zy, .int (bI zi), .long zu, .long zv, .int zl])), (a1, .inl (cJ, 16, .inr (.inl zpx))), (a2, .inl (cJ, 16, .inr (.inl zpy))), (a3, .inl (cZ, 16, .inl (fun i => bI (zip i)))), (a4, .inl (cJ, 8, .inr (.inl zvu))), (a5, .inl (cJ, 8, .inr (.inl zvv)))] sz)) 0 0 (va_A [(mo, .inr (4, [.long zp, .long zr, .long zh, .ref a1, .ref a2, .ref a3, .ref a4, .ref a5, .long zx, .long zy, .int (bI zi), .long zu, .long zv, .int zl])), (a1, .inl (cJ, 16, .inr (.inl zpx))), (a2, .inl (cJ, 16, .inr (.inl zpy))), (a3, .inl (cZ, 16, .inl (fun i => bI (zip i)))), (a4, .inl (cJ, 8, .inr (.inl zvu))), (a5, .inl (cJ, 8, .inr (.inl zvv)))] sz) := by
  refine Met.ofW (cc := cX4_sign) (maxL := 6) (ret := some .int) (by decide) rfl ?_
  intro pg e s m args below meth c s₁ B hml hv
  obtain ⟨rfl, hsz, hP, hE, hD0⟩ := hv
  have hx := B.exec
  have hb := B.bytes
  have hr := B.returns
  have hlocks := B.notSynchronized
  have C0 : CallFix pg m c cX4_sign 6 s ([.ref mo, .int q0, .int q1, .long q2] : List Value).toArray wsX4_sign RX4 := ⟨hx, hb, hml, findClass_of_methodNamed B.named, atoms_spec (ws := wsX4_sign) B.pre⟩
  have hown := C0.2.2.2.1
  have hts := C0.2.2.2.2
  subst hsz
  have hD := hD0.self (sz := s.heap.size)
  generalize hAe : va_A [(mo, .inr (4, [.long zp, .long zr, .long zh, .ref a1, .ref a2, .ref a3, .ref a4, .ref a5, .long zx, .long zy, .int (bI zi), .long zu, .long zv, .int zl])), (a1, .inl (cJ, 16, .inr (.inl zpx))), (a2, .inl (cJ, 16, .inr (.inl zpy))), (a3, .inl (cZ, 16, .inl (fun i => bI (zip i)))), (a4, .inl (cJ, 8, .inr (.inl zvu))), (a5, .inl (cJ, 8, .inr (.inl zvv)))] s.heap.size = A at hD ⊢
  have hA : ∀ q : Nat, s.heap.size ≤ q → A q := fun q h => by rw [← hAe]; exact Or.inr h
  have hS : va_S A s.heap s.heap [] := va_S.rf
  have hP : va_P D vwCl [(mo, .inr (4, [.long zp, .long zr, .long zh, .ref a1, .ref a2, .ref a3, .ref a4, .ref a5, .long zx, .long zy, .int (bI zi), .long zu, .long zv, .int zl])), (a1, .inl (cJ, 16, .inr (.inl zpx))), (a2, .inl (cJ, 16, .inr (.inl zpy))), (a3, .inl (cZ, 16, .inl (fun i => bI (zip i)))), (a4, .inl (cJ, 8, .inr (.inl zvu))), (a5, .inl (cJ, 8, .inr (.inl zvv)))] s.heap := hP
  have hl := lv_entry ([.ref mo, .int q0, .int q1, .long q2]) (n := 6) (Nat.le_of_ble_eq_true rfl)
  rw [lg_entry_eq]
  generalize (lg_sl ([.ref mo, .int q0, .int q1, .long q2]) ++ List.replicate (6 - (lg_sl ([.ref mo, .int q0, .int q1, .long q2])).length) Slot.unset).toArray = ls at hl ⊢
  have hl : lv_has ls 6 [(0, .ref mo), (1, .int q0), (2, .int q1), (3, .long q2)] := hl
  suffices key : ∀ (H : Heap) (locs : List Loc), va_P D vwCl [(mo, .inr (4, [.long zp, .long zr, .long zh, .ref a1, .ref a2, .ref a3, .ref a4, .ref a5, .long zx, .long zy, .int (bI zi), .long zu, .long zv, .int zl])), (a1, .inl (cJ, 16, .inr (.inl zpx))), (a2, .inl (cJ, 16, .inr (.inl zpy))), (a3, .inl (cZ, 16, .inl (fun i => bI (zip i)))), (a4, .inl (cJ, 8, .inr (.inl zvu))), (a5, .inl (cJ, 8, .inr (.inl zvv)))] H → va_D A [(mo, .inr (4, [.long zp, .long zr, .long zh, .ref a1, .ref a2, .ref a3, .ref a4, .ref a5, .long zx, .long zy, .int (bI zi), .long zu, .long zv, .int zl])), (a1, .inl (cJ, 16, .inr (.inl zpx))), (a2, .inl (cJ, 16, .inr (.inl zpy))), (a3, .inl (cZ, 16, .inl (fun i => bI (zip i)))), (a4, .inl (cJ, 8, .inr (.inl zvu))), (a5, .inl (cJ, 8, .inr (.inl zvv)))] → va_S A s.heap H locs → W pg l e (headSpec wsX4_sign rmX4_sign).room s m ([.ref mo, .int q0, .int q1, .long q2] : List Value).toArray below meth c H locs 0 0 (MQ below (QE D (some (.int rr)) [(mo, .inr (4, [.long zp, .long zr, .long zh, .ref a1, .ref a2, .ref a3, .ref a4, .ref a5, .long ozx, .long ozy, .int (bI ozi), .long zu, .long zv, .int zl])), (a1, .inl (cJ, 16, .inr (.inl ozpx))), (a2, .inl (cJ, 16, .inr (.inl ozpy))), (a3, .inl (cZ, 16, .inl (fun i => bI (ozip i)))), (a4, .inl (cJ, 8, .inr (.inl zvu))), (a5, .inl (cJ, 8, .inr (.inl zvv)))] A) ([.ref mo, .int q0, .int q1, .long q2] : List Value).toArray s 0 0 A) (F0 m 0 ls []) from key s.heap [] hP hD hS
  intro H locs hP hD hS
  unfold fX4_sign at h
  refine lv_aload_n hx hb dX4_sign_0 rfl (lv_at hl 0 rfl) ?_
  refine va_get (D := D) (ci := 4) (v := .long zp) (C := RX4) (T := TX4) (N := 14) hx hb hts iwX4_sign_4 hown hE.1 hP 0 rfl rfl 0 (by decide) (hts _ lkX4_sign_0) (fun _ h9 => h9) rfl dX4_sign_1 ?_
  refine lv_lconst (v := 0) hx hb dX4_sign_4 (by decide) ?_
  refine lc_ne (tgt := 12) hx hb dX4_sign_5 dX4_sign_6 (by decide) (fun c1 => ?_) (fun c1 => ?_)
  · have h := ite_f c1 h
    refine lv_iload_n hx hb dX4_sign_12 rfl (lv_at hl 1 rfl) ?_
    obtain ⟨r2, h3, h⟩ := bind_s h
    refine ki (kS (As := [.int q0]) (rest := []) C0 (kX4_isSlot l D cJ cZ q0 r2 h3) gX4_sign_X4_isSlot rfl ⟨rfl, rfl⟩ hdX4_isSlot ⟨Nat.le_of_ble_eq_true rfl, Nat.le_of_ble_eq_true rfl⟩ (hP.sub [] rfl) hE hl rfl rfl (Nat.le_of_ble_eq_true rfl) dX4_sign_13 (Nat.zero_le _) (Nat.zero_le _)) ?_
    refine lv_if_eq (tgt := 34) hx hb dX4_sign_16 (by decide) (fun c4 => ?_) (fun c4 => ?_)
    · have h := ite_t c4 h
      refine lv_bipush (v := (-2)) hx hb dX4_sign_34 (by decide) ?_
      cases h
      exact rfI hx hb hr hlocks hP hD hS dX4_sign_36
    · have h := ite_f c4 h
      refine lv_iload_n hx hb dX4_sign_19 rfl (lv_at hl 2 rfl) ?_
      refine lv_i2l (v := q1.toInt64) hx hb dX4_sign_20 rfl ?_
      refine lv_lconst (v := 1) hx hb dX4_sign_21 (by decide) ?_
      refine lv_aload_n hx hb dX4_sign_22 rfl (lv_at hl 0 rfl) ?_
      refine va_get (D := D) (ci := 4) (v := .long zr) (C := RX4) (T := TX4) (N := 14) hx hb hts iwX4_sign_4 hown hE.1 hP 0 rfl rfl 1 (by decide) (hts _ lkX4_sign_1) (fun _ h9 => h9) rfl dX4_sign_23 ?_
      refine lv_lconst (v := 1) hx hb dX4_sign_26 (by decide) ?_
      refine lv_lsub hx hb dX4_sign_27 ?_
      obtain ⟨r5, h6, h⟩ := bind_s h
      refine ki (kS (As := [.long q1.toInt64, .long 1, .long (zr - 1)]) (rest := []) C0 (kX4_in l D cJ cZ q1.toInt64 1 (zr - 1) r5 h6) gX4_sign_X4_in rfl ⟨rfl, rfl⟩ hdX4_in ⟨Nat.le_of_ble_eq_true rfl, Nat.le_of_ble_eq_true rfl⟩ (hP.sub [] rfl) hE hl rfl rfl (Nat.le_of_ble_eq_true rfl) dX4_sign_28 (Nat.zero_le _) (Nat.zero_le _)) ?_
      refine lv_if_ne (tgt := 37) hx hb dX4_sign_31 (by decide) (fun c7 => ?_) (fun c7 => ?_)
      · have h := ite_f c7 h
        refine lv_aload_n hx hb dX4_sign_37 rfl (lv_at hl 0 rfl) ?_
        refine lv_lload_n hx hb dX4_sign_38 rfl (lv_at hl 3 rfl) ?_
        obtain ⟨⟨r8, o9, o10, o11⟩, h12, h⟩ := bind_s h
        try dsimp only at h
        refine kE (wc := [(mo, .inr (4, [.long zp, .long zr, .long zh, .ref a1, .ref a2, .ref a3, .ref a4, .ref a5, .long zx, .long zy, .int (bI zi), .long zu, .long zv, .int zl])), (a1, .inl (cJ, 16, .inr (.inl zpx))), (a2, .inl (cJ, 16, .inr (.inl zpy))), (a3, .inl (cZ, 16, .inl (fun i => bI (zip i)))), (a4, .inl (cJ, 8, .inr (.inl zvu))), (a5, .inl (cJ, 8, .inr (.inl zvv)))]) (wr := []) [0, 1, 2, 3, 4, 5] [] hP hD hS hA rfl rfl rfl (by decide) rfl (eV (As := [.long q2]) (rest := []) C0 (kX4_turnOf l D cJ cZ mo a1 a2 a3 a4 a5 N zp zr zh zx zy zi zu zv zl zpx zpy zip zvu zvv q2 H.size r8 o9 o10 o11 h12) gX4_sign_X4_turnOf rfl ⟨rfl, rfl⟩ hdX4_turnOf ⟨Nat.le_of_ble_eq_true rfl, Nat.le_of_ble_eq_true rfl⟩ 4 0 rfl rfl rfl hP hD hE hl rfl rfl (Nat.le_of_ble_eq_true rfl) dX4_sign_39 ⟨Nat.zero_le _, Nat.zero_le _⟩) (fun H locs hP hD hS => ?_)
        have hP : va_P D vwCl [(mo, .inr (4, [.long zp, .long zr, .long zh, .ref a1, .ref a2, .ref a3, .ref a4, .ref a5, .long o9, .long o10, .int (bI o11), .long zu, .long zv, .int zl])), (a1, .inl (cJ, 16, .inr (.inl zpx))), (a2, .inl (cJ, 16, .inr (.inl zpy))), (a3, .inl (cZ, 16, .inl (fun i => bI (zip i)))), (a4, .inl (cJ, 8, .inr (.inl zvu))), (a5, .inl (cJ, 8, .inr (.inl zvv)))] H := hP
        have hD : va_D A [(mo, .inr (4, [.long zp, .long zr, .long zh, .ref a1, .ref a2, .ref a3, .ref a4, .ref a5, .long o9, .long o10, .int (bI o11), .long zu, .long zv, .int zl])), (a1, .inl (cJ, 16, .inr (.inl zpx))), (a2, .inl (cJ, 16, .inr (.inl zpy))), (a3, .inl (cZ, 16, .inl (fun i => bI (zip i)))), (a4, .inl (cJ, 8, .inr (.inl zvu))), (a5, .inl (cJ, 8, .inr (.inl zvv)))] := hD
        refine lv_istore (lv' := [(5, .int r8), (0, .ref mo), (1, .int q0), (2, .int q1), (3, .long q2)]) hx hb dX4_sign_42 hl (by decide) rfl (fun ls hl => ?_)
        refine lv_aload_n hx hb dX4_sign_44 rfl (lv_at hl 1 rfl) ?_
        refine lv_iload_n hx hb dX4_sign_45 rfl (lv_at hl 3 rfl) ?_
        refine lv_i2l (v := q1.toInt64) hx hb dX4_sign_46 rfl ?_
        obtain ⟨⟨o13, o14, o15⟩, h16, h⟩ := bind_s h
        try dsimp only at h
        refine kE (wc := [(mo, .inr (4, [.long zp, .long zr, .long zh, .ref a1, .ref a2, .ref a3, .ref a4, .ref a5, .long o9, .long o10, .int (bI o11), .long zu, .long zv, .int zl])), (a1, .inl (cJ, 16, .inr (.inl zpx))), (a2, .inl (cJ, 16, .inr (.inl zpy))), (a3, .inl (cZ, 16, .inl (fun i => bI (zip i)))), (a4, .inl (cJ, 8, .inr (.inl zvu))), (a5, .inl (cJ, 8, .inr (.inl zvv)))]) (wr := []) [0, 1, 2, 3, 4, 5] [] hP hD hS hA rfl rfl rfl (by decide) rfl (eV (As := [.long q1.toInt64]) (rest := []) C0 (kX4_take l D cJ cZ mo a1 a2 a3 a4 a5 N zp zr zh o9 o10 o11 zu zv zl zpx zpy zip zvu zvv q1.toInt64 H.size o13 o14 o15 h16) gX4_sign_X4_take rfl ⟨rfl, rfl⟩ hdX4_take ⟨Nat.le_of_ble_eq_true rfl, Nat.le_of_ble_eq_true rfl⟩ 4 0 rfl rfl rfl hP hD hE hl rfl rfl (Nat.le_of_ble_eq_true rfl) dX4_sign_47 ⟨Nat.zero_le _, Nat.zero_le _⟩) (fun H locs hP hD hS => ?_)
        have hP : va_P D vwCl [(mo, .inr (4, [.long zp, .long zr, .long zh, .ref a1, .ref a2, .ref a3, .ref a4, .ref a5, .long o13, .long o14, .int (bI o15), .long zu, .long zv, .int zl])), (a1, .inl (cJ, 16, .inr (.inl zpx))), (a2, .inl (cJ, 16, .inr (.inl zpy))), (a3, .inl (cZ, 16, .inl (fun i => bI (zip i)))), (a4, .inl (cJ, 8, .inr (.inl zvu))), (a5, .inl (cJ, 8, .inr (.inl zvv)))] H := hP
        have hD : va_D A [(mo, .inr (4, [.long zp, .long zr, .long zh, .ref a1, .ref a2, .ref a3, .ref a4, .ref a5, .long o13, .long o14, .int (bI o15), .long zu, .long zv, .int zl])), (a1, .inl (cJ, 16, .inr (.inl zpx))), (a2, .inl (cJ, 16, .inr (.inl zpy))), (a3, .inl (cZ, 16, .inl (fun i => bI (zip i)))), (a4, .inl (cJ, 8, .inr (.inl zvu))), (a5, .inl (cJ, 8, .inr (.inl zvv)))] := hD
        refine lv_aload_n hx hb dX4_sign_50 rfl (lv_at hl 1 rfl) ?_
        refine lv_iload_n hx hb dX4_sign_51 rfl (lv_at hl 2 rfl) ?_
        obtain ⟨⟨o17, o18, o19⟩, h20, h⟩ := bind_s h
        try dsimp only at h
        refine kE (wc := [(mo, .inr (4, [.long zp, .long zr, .long zh, .ref a1, .ref a2, .ref a3, .ref a4, .ref a5, .long o13, .long o14, .int (bI o15), .long zu, .long zv, .int zl])), (a1, .inl (cJ, 16, .inr (.inl zpx))), (a2, .inl (cJ, 16, .inr (.inl zpy))), (a3, .inl (cZ, 16, .inl (fun i => bI (zip i)))), (a4, .inl (cJ, 8, .inr (.inl zvu))), (a5, .inl (cJ, 8, .inr (.inl zvv)))]) (wr := []) [0, 1, 2, 3, 4, 5] [] hP hD hS hA rfl rfl rfl (by decide) rfl (eV (As := [.int q0]) (rest := []) C0 (kX4_store l D cJ cZ mo a1 a2 a3 a4 a5 zp zr zh o13 o14 o15 zu zv zl zpx zpy zip zvu zvv q0 H.size o17 o18 o19 h20) gX4_sign_X4_store rfl ⟨rfl, rfl⟩ hdX4_store ⟨Nat.le_of_ble_eq_true rfl, Nat.le_of_ble_eq_true rfl⟩ 4 0 rfl rfl rfl hP hD hE hl rfl rfl (Nat.le_of_ble_eq_true rfl) dX4_sign_52 ⟨Nat.zero_le _, Nat.zero_le _⟩) (fun H locs hP hD hS => ?_)
        have hP : va_P D vwCl [(mo, .inr (4, [.long zp, .long zr, .long zh, .ref a1, .ref a2, .ref a3, .ref a4, .ref a5, .long o13, .long o14, .int (bI o15), .long zu, .long zv, .int zl])), (a1, .inl (cJ, 16, .inr (.inl o17))), (a2, .inl (cJ, 16, .inr (.inl o18))), (a3, .inl (cZ, 16, .inl (fun i => bI (o19 i)))), (a4, .inl (cJ, 8, .inr (.inl zvu))), (a5, .inl (cJ, 8, .inr (.inl zvv)))] H := hP
        have hD : va_D A [(mo, .inr (4, [.long zp, .long zr, .long zh, .ref a1, .ref a2, .ref a3, .ref a4, .ref a5, .long o13, .long o14, .int (bI o15), .long zu, .long zv, .int zl])), (a1, .inl (cJ, 16, .inr (.inl o17))), (a2, .inl (cJ, 16, .inr (.inl o18))), (a3, .inl (cZ, 16, .inl (fun i => bI (o19 i)))), (a4, .inl (cJ, 8, .inr (.inl zvu))), (a5, .inl (cJ, 8, .inr (.inl zvv)))] := hD
        refine lv_iconst (v := 1) hx hb dX4_sign_55 (by decide) ?_
        cases h
        exact rfI hx hb hr hlocks hP hD hS dX4_sign_56
      · have h := ite_t c7 h
        refine lv_bipush (v := (-2)) hx hb dX4_sign_34 (by decide) ?_
        cases h
        exact rfI hx hb hr hlocks hP hD hS dX4_sign_36
  · have h := ite_t c1 h
    refine lv_bipush (v := (-3)) hx hb dX4_sign_9 (by decide) ?_
    cases h
    exact rfI hx hb hr hlocks hP hD hS dX4_sign_11
def fX4_pairWithBase (N : Nat) (zp : Int64) (zr : Int64) (zh : Int64) (zx : Int64) (zy : Int64) (zi : Bool) (zu : Int64) (zv : Int64) (zl : Int32) (zpx : Nat → Int64) (zpy : Nat → Int64) (zip : Nat → Bool) (q0 : Int32) : Option (Int64 × Int64 × Bool × Int64 × Int64 × Int32) :=
  (fX4_turnOf N zp zh zx zy zi 1).bind fun (r1, o2, o3, o4) =>
  if q0 < 0 ∨ 16 ≤ q0.toNatClampNeg then none else
  (fX4_pairOf N zp zr o2 o3 o4 zu zv zl (zpx q0.toNatClampNeg) (zpy q0.toNatClampNeg) (zip q0.toNatClampNeg) o2 o3 o4).bind fun (o7, o8, o9, o10, o11, o12) =>
  some (o7, o8, o9, o10, o11, o12)
abbrev rmX4_pairWithBase : Room := { frames := 7, cells := 0, slots := 0, locals := 196 }
theorem lkX4_pairWithBase_0 : (.fieldLink RX4 7 "PairingDeskModel" "px" "[J" : Cond) ∈ wsX4_pairWithBase := by decide +kernel
theorem lkX4_pairWithBase_1 : (.fieldLink RX4 13 "PairingDeskModel" "py" "[J" : Cond) ∈ wsX4_pairWithBase := by decide +kernel
theorem lkX4_pairWithBase_2 : (.fieldLink RX4 16 "PairingDeskModel" "isPoint" "[Z" : Cond) ∈ wsX4_pairWithBase := by decide +kernel
theorem lkX4_pairWithBase_3 : (.fieldLink RX4 61 "PairingDeskModel" "x" "J" : Cond) ∈ wsX4_pairWithBase := by decide +kernel
theorem lkX4_pairWithBase_4 : (.fieldLink RX4 64 "PairingDeskModel" "y" "J" : Cond) ∈ wsX4_pairWithBase := by decide +kernel
theorem lkX4_pairWithBase_5 : (.fieldLink RX4 67 "PairingDeskModel" "is" "Z" : Cond) ∈ wsX4_pairWithBase := by decide +kernel
theorem iwX4_pairWithBase_4 : ∀ w ∈ wsX40, w ∈ wsX4_pairWithBase := by decide +kernel
theorem hdX4_pairWithBase : KN yX4_pairWithBase 1 := by decide +kernel
set_option maxHeartbeats 4000000 in
set_option maxRecDepth 100000 in
theorem kX4_pairWithBase (l : Launch) (D : va_G) (cJ cZ : ClassId) (mo a1 a2 a3 a4 a5 : Nat) (N : Nat) (zp : Int64) (zr : Int64) (zh : Int64) (zx : Int64) (zy : Int64) (zi : Bool) (zu : Int64) (zv : Int64) (zl : Int32) (zpx : Nat → Int64) (zpy : Nat → Int64) (zip : Nat → Bool) (zvu : Nat → Int64) (zvv : Nat → Int64) (q0 : Int32) (sz : Nat) (ozx : Int64) (ozy : Int64) (ozi : Bool) (ozu : Int64) (ozv : Int64) (ozl : Int32) (h : fX4_pairWithBase N zp zr zh zx zy zi zu zv zl zpx zpy zip q0 = some (ozx, ozy, ozi, ozu, ozv, ozl)) : Met l yX4_pairWithBase wsX4_pairWithBase rmX4_pairWithBase (PE D cJ cZ [.ref mo, .int q0] [(mo, .inr (4, [.long zp, .long zr, .long zh, .ref a1, .ref a2, .ref a3, .ref a4, .ref a5, .long zx, .long zy, .int (bI zi), .long zu, .long zv, .int zl])), (a1, .inl (cJ, 16, .inr (.inl zpx))), (a2, .inl (cJ, 16, .inr (.inl zpy))), (a3, .inl (cZ, 16, .inl (fun i => bI (zip i)))), (a4, .inl (cJ, 8, .inr (.inl zvu))), (a5, .inl (cJ, 8, .inr (.inl zvv)))] sz) (QE D (none) [(mo, .inr (4, [.long zp, .long zr, .long zh, .ref a1, .ref a2, .ref a3, .ref a4, .ref a5, .long ozx, .long ozy, .int (bI ozi), .long ozu, .long ozv, .int ozl])), (a1, .inl (cJ, 16, .inr (.inl zpx))), (a2, .inl (cJ, 16, .inr (.inl zpy))), (a3, .inl (cZ, 16, .inl (fun i => bI (zip i)))), (a4, .inl (cJ, 8, .inr (.inl zvu))), (a5, .inl (cJ, 8, .inr (.inl zvv)))] (va_A [(mo, .inr (4, [.long zp, .long zr, .long zh, .ref a1, .ref a2, .ref a3, .ref a4, .ref a5, .long zx, .long zy, .int (bI zi), .long zu, .long zv, .int zl])), (a1, .inl (cJ, 16, .inr (.inl zpx))), (a2, .inl (cJ, 16, .inr (.inl zpy))), (a3, .inl (cZ, 16, .inl (fun i => bI (zip i)))), (a4, .inl (cJ, 8, .inr (.inl zvu))), (a5, .inl (cJ, 8, .inr (.inl zvv)))] sz)) 0 0 (va_A [(mo, .inr (4, [.long zp, .long zr, .long zh, .ref a1, .ref a2, .ref a3, .ref a4, .ref a5, .long zx, .long zy, .int (bI zi), .long zu, .long zv, .int zl])), (a1, .inl (cJ, 16, .inr (.inl zpx))), (a2, .inl (cJ, 16, .inr (.inl zpy))), (a3, .inl (cZ, 16, .inl (fun i => bI (zip i)))), (a4, .inl (cJ, 8, .inr (.inl zvu))), (a5, .inl (cJ, 8, .inr (.inl zvv)))] sz) := by
  refine Met.ofW (cc := cX4_pairWithBase) (maxL := 3) (ret := none) (by decide) rfl ?_
  intro pg e s m args below meth c s₁ B hml hv
  obtain ⟨rfl, hsz, hP, hE, hD0⟩ := hv
  have hx := B.exec
  have hb := B.bytes
  have hr := B.returns
  have hlocks := B.notSynchronized
  have C0 : CallFix pg m c cX4_pairWithBase 3 s ([.ref mo, .int q0] : List Value).toArray wsX4_pairWithBase RX4 := ⟨hx, hb, hml, findClass_of_methodNamed B.named, atoms_spec (ws := wsX4_pairWithBase) B.pre⟩
  have hown := C0.2.2.2.1
  have hts := C0.2.2.2.2
  subst hsz
  have hD := hD0.self (sz := s.heap.size)
  generalize hAe : va_A [(mo, .inr (4, [.long zp, .long zr, .long zh, .ref a1, .ref a2, .ref a3, .ref a4, .ref a5, .long zx, .long zy, .int (bI zi), .long zu, .long zv, .int zl])), (a1, .inl (cJ, 16, .inr (.inl zpx))), (a2, .inl (cJ, 16, .inr (.inl zpy))), (a3, .inl (cZ, 16, .inl (fun i => bI (zip i)))), (a4, .inl (cJ, 8, .inr (.inl zvu))), (a5, .inl (cJ, 8, .inr (.inl zvv)))] s.heap.size = A at hD ⊢
  have hA : ∀ q : Nat, s.heap.size ≤ q → A q := fun q h => by rw [← hAe]; exact Or.inr h
  have hS : va_S A s.heap s.heap [] := va_S.rf
  have hP : va_P D vwCl [(mo, .inr (4, [.long zp, .long zr, .long zh, .ref a1, .ref a2, .ref a3, .ref a4, .ref a5, .long zx, .long zy, .int (bI zi), .long zu, .long zv, .int zl])), (a1, .inl (cJ, 16, .inr (.inl zpx))), (a2, .inl (cJ, 16, .inr (.inl zpy))), (a3, .inl (cZ, 16, .inl (fun i => bI (zip i)))), (a4, .inl (cJ, 8, .inr (.inl zvu))), (a5, .inl (cJ, 8, .inr (.inl zvv)))] s.heap := hP
  have hl := lv_entry ([.ref mo, .int q0]) (n := 3) (Nat.le_of_ble_eq_true rfl)
  rw [lg_entry_eq]
  generalize (lg_sl ([.ref mo, .int q0]) ++ List.replicate (3 - (lg_sl ([.ref mo, .int q0])).length) Slot.unset).toArray = ls at hl ⊢
  have hl : lv_has ls 3 [(0, .ref mo), (1, .int q0)] := hl
  suffices key : ∀ (H : Heap) (locs : List Loc), va_P D vwCl [(mo, .inr (4, [.long zp, .long zr, .long zh, .ref a1, .ref a2, .ref a3, .ref a4, .ref a5, .long zx, .long zy, .int (bI zi), .long zu, .long zv, .int zl])), (a1, .inl (cJ, 16, .inr (.inl zpx))), (a2, .inl (cJ, 16, .inr (.inl zpy))), (a3, .inl (cZ, 16, .inl (fun i => bI (zip i)))), (a4, .inl (cJ, 8, .inr (.inl zvu))), (a5, .inl (cJ, 8, .inr (.inl zvv)))] H → va_D A [(mo, .inr (4, [.long zp, .long zr, .long zh, .ref a1, .ref a2, .ref a3, .ref a4, .ref a5, .long zx, .long zy, .int (bI zi), .long zu, .long zv, .int zl])), (a1, .inl (cJ, 16, .inr (.inl zpx))), (a2, .inl (cJ, 16, .inr (.inl zpy))), (a3, .inl (cZ, 16, .inl (fun i => bI (zip i)))), (a4, .inl (cJ, 8, .inr (.inl zvu))), (a5, .inl (cJ, 8, .inr (.inl zvv)))] → va_S A s.heap H locs → W pg l e (headSpec wsX4_pairWithBase rmX4_pairWithBase).room s m ([.ref mo, .int q0] : List Value).toArray below meth c H locs 0 0 (MQ below (QE D (none) [(mo, .inr (4, [.long zp, .long zr, .long zh, .ref a1, .ref a2, .ref a3, .ref a4, .ref a5, .long ozx, .long ozy, .int (bI ozi), .long ozu, .long ozv, .int ozl])), (a1, .inl (cJ, 16, .inr (.inl zpx))), (a2, .inl (cJ, 16, .inr (.inl zpy))), (a3, .inl (cZ, 16, .inl (fun i => bI (zip i)))), (a4, .inl (cJ, 8, .inr (.inl zvu))), (a5, .inl (cJ, 8, .inr (.inl zvv)))] A) ([.ref mo, .int q0] : List Value).toArray s 0 0 A) (F0 m 0 ls []) from key s.heap [] hP hD hS
  intro H locs hP hD hS
  unfold fX4_pairWithBase at h
  refine lv_aload_n hx hb dX4_pairWithBase_0 rfl (lv_at hl 0 rfl) ?_
  refine lv_lconst (v := 1) hx hb dX4_pairWithBase_1 (by decide) ?_
  obtain ⟨⟨r1, o2, o3, o4⟩, h5, h⟩ := bind_s h
  try dsimp only at h
  refine kE (wc := [(mo, .inr (4, [.long zp, .long zr, .long zh, .ref a1, .ref a2, .ref a3, .ref a4, .ref a5, .long zx, .long zy, .int (bI zi), .long zu, .long zv, .int zl])), (a1, .inl (cJ, 16, .inr (.inl zpx))), (a2, .inl (cJ, 16, .inr (.inl zpy))), (a3, .inl (cZ, 16, .inl (fun i => bI (zip i)))), (a4, .inl (cJ, 8, .inr (.inl zvu))), (a5, .inl (cJ, 8, .inr (.inl zvv)))]) (wr := []) [0, 1, 2, 3, 4, 5] [] hP hD hS hA rfl rfl rfl (by decide) rfl (eV (As := [.long 1]) (rest := []) C0 (kX4_turnOf l D cJ cZ mo a1 a2 a3 a4 a5 N zp zr zh zx zy zi zu zv zl zpx zpy zip zvu zvv 1 H.size r1 o2 o3 o4 h5) gX4_pairWithBase_X4_turnOf rfl ⟨rfl, rfl⟩ hdX4_turnOf ⟨Nat.le_of_ble_eq_true rfl, Nat.le_of_ble_eq_true rfl⟩ 4 0 rfl rfl rfl hP hD hE hl rfl rfl (Nat.le_of_ble_eq_true rfl) dX4_pairWithBase_2 ⟨Nat.zero_le _, Nat.zero_le _⟩) (fun H locs hP hD hS => ?_)
  have hP : va_P D vwCl [(mo, .inr (4, [.long zp, .long zr, .long zh, .ref a1, .ref a2, .ref a3, .ref a4, .ref a5, .long o2, .long o3, .int (bI o4), .long zu, .long zv, .int zl])), (a1, .inl (cJ, 16, .inr (.inl zpx))), (a2, .inl (cJ, 16, .inr (.inl zpy))), (a3, .inl (cZ, 16, .inl (fun i => bI (zip i)))), (a4, .inl (cJ, 8, .inr (.inl zvu))), (a5, .inl (cJ, 8, .inr (.inl zvv)))] H := hP
  have hD : va_D A [(mo, .inr (4, [.long zp, .long zr, .long zh, .ref a1, .ref a2, .ref a3, .ref a4, .ref a5, .long o2, .long o3, .int (bI o4), .long zu, .long zv, .int zl])), (a1, .inl (cJ, 16, .inr (.inl zpx))), (a2, .inl (cJ, 16, .inr (.inl zpy))), (a3, .inl (cZ, 16, .inl (fun i => bI (zip i)))), (a4, .inl (cJ, 8, .inr (.inl zvu))), (a5, .inl (cJ, 8, .inr (.inl zvv)))] := hD
  refine lv_istore_n (lv' := [(2, .int r1), (0, .ref mo), (1, .int q0)]) hx hb dX4_pairWithBase_5 rfl hl (by decide) rfl (fun ls hl => ?_)
  refine lv_aload_n hx hb dX4_pairWithBase_6 rfl (lv_at hl 1 rfl) ?_
  refine lv_aload_n hx hb dX4_pairWithBase_7 rfl (lv_at hl 1 rfl) ?_
  refine va_get (D := D) (ci := 4) (v := .ref a1) (C := RX4) (T := TX4) (N := 14) hx hb hts iwX4_pairWithBase_4 hown hE.1 hP 0 rfl rfl 3 (by decide) (hts _ lkX4_pairWithBase_0) (fun _ h9 => h9) rfl dX4_pairWithBase_8 ?_
  refine lv_iload_n hx hb dX4_pairWithBase_11 rfl (lv_at hl 2 rfl) ?_
  obtain ⟨c6, h⟩ := ite_n h
  refine va_lald hx hb hE.1 hP 1 0 rfl rfl c6 dX4_pairWithBase_12 ?_
  refine lv_aload_n hx hb dX4_pairWithBase_13 rfl (lv_at hl 1 rfl) ?_
  refine va_get (D := D) (ci := 4) (v := .ref a2) (C := RX4) (T := TX4) (N := 14) hx hb hts iwX4_pairWithBase_4 hown hE.1 hP 0 rfl rfl 4 (by decide) (hts _ lkX4_pairWithBase_1) (fun _ h9 => h9) rfl dX4_pairWithBase_14 ?_
  refine lv_iload_n hx hb dX4_pairWithBase_17 rfl (lv_at hl 2 rfl) ?_
  refine va_lald hx hb hE.1 hP 2 0 rfl rfl c6 dX4_pairWithBase_18 ?_
  refine lv_aload_n hx hb dX4_pairWithBase_19 rfl (lv_at hl 1 rfl) ?_
  refine va_get (D := D) (ci := 4) (v := .ref a3) (C := RX4) (T := TX4) (N := 14) hx hb hts iwX4_pairWithBase_4 hown hE.1 hP 0 rfl rfl 5 (by decide) (hts _ lkX4_pairWithBase_2) (fun _ h9 => h9) rfl dX4_pairWithBase_20 ?_
  refine lv_iload_n hx hb dX4_pairWithBase_23 rfl (lv_at hl 2 rfl) ?_
  refine va_zald hx hb hE.1 hP 3 1 rfl rfl c6 dX4_pairWithBase_24 ?_
  refine lv_aload_n hx hb dX4_pairWithBase_25 rfl (lv_at hl 1 rfl) ?_
  refine va_get (D := D) (ci := 4) (v := .long o2) (C := RX4) (T := TX4) (N := 14) hx hb hts iwX4_pairWithBase_4 hown hE.1 hP 0 rfl rfl 8 (by decide) (hts _ lkX4_pairWithBase_3) (fun _ h9 => h9) rfl dX4_pairWithBase_26 ?_
  refine lv_aload_n hx hb dX4_pairWithBase_29 rfl (lv_at hl 1 rfl) ?_
  refine va_get (D := D) (ci := 4) (v := .long o3) (C := RX4) (T := TX4) (N := 14) hx hb hts iwX4_pairWithBase_4 hown hE.1 hP 0 rfl rfl 9 (by decide) (hts _ lkX4_pairWithBase_4) (fun _ h9 => h9) rfl dX4_pairWithBase_30 ?_
  refine lv_aload_n hx hb dX4_pairWithBase_33 rfl (lv_at hl 1 rfl) ?_
  refine va_get (D := D) (ci := 4) (v := .int (bI o4)) (C := RX4) (T := TX4) (N := 14) hx hb hts iwX4_pairWithBase_4 hown hE.1 hP 0 rfl rfl 10 (by decide) (hts _ lkX4_pairWithBase_5) (fun _ h9 => h9) rfl dX4_pairWithBase_34 ?_
  obtain ⟨⟨o7, o8, o9, o10, o11, o12⟩, h13, h⟩ := bind_s h
  try dsimp only at h
  refine kE (wc := [(mo, .inr (4, [.long zp, .long zr, .long zh, .ref a1, .ref a2, .ref a3, .ref a4, .ref a5, .long o2, .long o3, .int (bI o4), .long zu, .long zv, .int zl])), (a1, .inl (cJ, 16, .inr (.inl zpx))), (a2, .inl (cJ, 16, .inr (.inl zpy))), (a3, .inl (cZ, 16, .inl (fun i => bI (zip i)))), (a4, .inl (cJ, 8, .inr (.inl zvu))), (a5, .inl (cJ, 8, .inr (.inl zvv)))]) (wr := []) [0, 1, 2, 3, 4, 5] [] hP hD hS hA rfl rfl rfl (by decide) rfl (eV (As := [.long (zpx q0.toNatClampNeg), .long (zpy q0.toNatClampNeg), .int (bI (zip q0.toNatClampNeg)), .long o2, .long o3, .int (bI o4)]) (rest := []) C0 (kX4_pairOf l D cJ cZ mo a1 a2 a3 a4 a5 N zp zr zh o2 o3 o4 zu zv zl zpx zpy zip zvu zvv (zpx q0.toNatClampNeg) (zpy q0.toNatClampNeg) (zip q0.toNatClampNeg) o2 o3 o4 H.size o7 o8 o9 o10 o11 o12 h13) gX4_pairWithBase_X4_pairOf rfl ⟨rfl, rfl⟩ hdX4_pairOf ⟨Nat.le_of_ble_eq_true rfl, Nat.le_of_ble_eq_true rfl⟩ 4 0 rfl rfl rfl hP hD hE hl rfl rfl (Nat.le_of_ble_eq_true rfl) dX4_pairWithBase_37 ⟨Nat.zero_le _, Nat.zero_le _⟩) (fun H locs hP hD hS => ?_)
  have hP : va_P D vwCl [(mo, .inr (4, [.long zp, .long zr, .long zh, .ref a1, .ref a2, .ref a3, .ref a4, .ref a5, .long o7, .long o8, .int (bI o9), .long o10, .long o11, .int o12])), (a1, .inl (cJ, 16, .inr (.inl zpx))), (a2, .inl (cJ, 16, .inr (.inl zpy))), (a3, .inl (cZ, 16, .inl (fun i => bI (zip i)))), (a4, .inl (cJ, 8, .inr (.inl zvu))), (a5, .inl (cJ, 8, .inr (.inl zvv)))] H := hP
  have hD : va_D A [(mo, .inr (4, [.long zp, .long zr, .long zh, .ref a1, .ref a2, .ref a3, .ref a4, .ref a5, .long o7, .long o8, .int (bI o9), .long o10, .long o11, .int o12])), (a1, .inl (cJ, 16, .inr (.inl zpx))), (a2, .inl (cJ, 16, .inr (.inl zpy))), (a3, .inl (cZ, 16, .inl (fun i => bI (zip i)))), (a4, .inl (cJ, 8, .inr (.inl zvu))), (a5, .inl (cJ, 8, .inr (.inl zvv)))] := hD
  cases h
  exact rfV hx hb hr hlocks hP hD hS dX4_pairWithBase_40
def fX4_pairTurned (N : Nat) (zp : Int64) (zr : Int64) (zh : Int64) (zx : Int64) (zy : Int64) (zi : Bool) (zu : Int64) (zv : Int64) (zl : Int32) (zpx : Nat → Int64) (zpy : Nat → Int64) (zip : Nat → Bool) (q0 : Int64) (q1 : Int32) : Option (Int64 × Int64 × Bool × Int64 × Int64 × Int32) :=
  (fX4_turnOf N zp zh zx zy zi q0).bind fun (r1, o2, o3, o4) =>
  if q1 < 0 ∨ 16 ≤ q1.toNatClampNeg then none else
  (fX4_pairOf N zp zr o2 o3 o4 zu zv zl o2 o3 o4 (zpx q1.toNatClampNeg) (zpy q1.toNatClampNeg) (zip q1.toNatClampNeg)).bind fun (o7, o8, o9, o10, o11, o12) =>
  some (o7, o8, o9, o10, o11, o12)
abbrev rmX4_pairTurned : Room := { frames := 7, cells := 0, slots := 0, locals := 196 }
theorem lkX4_pairTurned_0 : (.fieldLink RX4 61 "PairingDeskModel" "x" "J" : Cond) ∈ wsX4_pairTurned := by decide +kernel
theorem lkX4_pairTurned_1 : (.fieldLink RX4 64 "PairingDeskModel" "y" "J" : Cond) ∈ wsX4_pairTurned := by decide +kernel
theorem lkX4_pairTurned_2 : (.fieldLink RX4 67 "PairingDeskModel" "is" "Z" : Cond) ∈ wsX4_pairTurned := by decide +kernel
theorem lkX4_pairTurned_3 : (.fieldLink RX4 7 "PairingDeskModel" "px" "[J" : Cond) ∈ wsX4_pairTurned := by decide +kernel
theorem lkX4_pairTurned_4 : (.fieldLink RX4 13 "PairingDeskModel" "py" "[J" : Cond) ∈ wsX4_pairTurned := by decide +kernel
theorem lkX4_pairTurned_5 : (.fieldLink RX4 16 "PairingDeskModel" "isPoint" "[Z" : Cond) ∈ wsX4_pairTurned := by decide +kernel
theorem iwX4_pairTurned_4 : ∀ w ∈ wsX40, w ∈ wsX4_pairTurned := by decide +kernel
theorem hdX4_pairTurned : KN yX4_pairTurned 2 := by decide +kernel
set_option maxHeartbeats 4000000 in
set_option maxRecDepth 100000 in
theorem kX4_pairTurned (l : Launch) (D : va_G) (cJ cZ : ClassId) (mo a1 a2 a3 a4 a5 : Nat) (N : Nat) (zp : Int64) (zr : Int64) (zh : Int64) (zx : Int64) (zy : Int64) (zi : Bool) (zu : Int64) (zv : Int64) (zl : Int32) (zpx : Nat → Int64) (zpy : Nat → Int64) (zip : Nat → Bool) (zvu : Nat → Int64) (zvv : Nat → Int64) (q0 : Int64) (q1 : Int32) (sz : Nat) (ozx : Int64) (ozy : Int64) (ozi : Bool) (ozu : Int64) (ozv : Int64) (ozl : Int32) (h : fX4_pairTurned N zp zr zh zx zy zi zu zv zl zpx zpy zip q0 q1 = some (ozx, ozy, ozi, ozu, ozv, ozl)) : Met l yX4_pairTurned wsX4_pairTurned rmX4_pairTurned (PE D cJ cZ [.ref mo, .long q0, .int q1] [(mo, .inr (4, [.long zp, .long zr, .long zh, .ref a1, .ref a2, .ref a3, .ref a4, .ref a5, .long zx, .long zy, .int (bI zi), .long zu, .long zv, .int zl])), (a1, .inl (cJ, 16, .inr (.inl zpx))), (a2, .inl (cJ, 16, .inr (.inl zpy))), (a3, .inl (cZ, 16, .inl (fun i => bI (zip i)))), (a4, .inl (cJ, 8, .inr (.inl zvu))), (a5, .inl (cJ, 8, .inr (.inl zvv)))] sz) (QE D (none) [(mo, .inr (4, [.long zp, .long zr, .long zh, .ref a1, .ref a2, .ref a3, .ref a4, .ref a5, .long ozx, .long ozy, .int (bI ozi), .long ozu, .long ozv, .int ozl])), (a1, .inl (cJ, 16, .inr (.inl zpx))), (a2, .inl (cJ, 16, .inr (.inl zpy))), (a3, .inl (cZ, 16, .inl (fun i => bI (zip i)))), (a4, .inl (cJ, 8, .inr (.inl zvu))), (a5, .inl (cJ, 8, .inr (.inl zvv)))] (va_A [(mo, .inr (4, [.long zp, .long zr, .long zh, .ref a1, .ref a2, .ref a3, .ref a4, .ref a5, .long zx, .long zy, .int (bI zi), .long zu, .long zv, .int zl])), (a1, .inl (cJ, 16, .inr (.inl zpx))), (a2, .inl (cJ, 16, .inr (.inl zpy))), (a3, .inl (cZ, 16, .inl (fun i => bI (zip i)))), (a4, .inl (cJ, 8, .inr (.inl zvu))), (a5, .inl (cJ, 8, .inr (.inl zvv)))] sz)) 0 0 (va_A [(mo, .inr (4, [.long zp, .long zr, .long zh, .ref a1, .ref a2, .ref a3, .ref a4, .ref a5, .long zx, .long zy, .int (bI zi), .long zu, .long zv, .int zl])), (a1, .inl (cJ, 16, .inr (.inl zpx))), (a2, .inl (cJ, 16, .inr (.inl zpy))), (a3, .inl (cZ, 16, .inl (fun i => bI (zip i)))), (a4, .inl (cJ, 8, .inr (.inl zvu))), (a5, .inl (cJ, 8, .inr (.inl zvv)))] sz) := by
  refine Met.ofW (cc := cX4_pairTurned) (maxL := 5) (ret := none) (by decide) rfl ?_
  intro pg e s m args below meth c s₁ B hml hv
  obtain ⟨rfl, hsz, hP, hE, hD0⟩ := hv
  have hx := B.exec
  have hb := B.bytes
  have hr := B.returns
  have hlocks := B.notSynchronized
  have C0 : CallFix pg m c cX4_pairTurned 5 s ([.ref mo, .long q0, .int q1] : List Value).toArray wsX4_pairTurned RX4 := ⟨hx, hb, hml, findClass_of_methodNamed B.named, atoms_spec (ws := wsX4_pairTurned) B.pre⟩
  have hown := C0.2.2.2.1
  have hts := C0.2.2.2.2
  subst hsz
  have hD := hD0.self (sz := s.heap.size)
  generalize hAe : va_A [(mo, .inr (4, [.long zp, .long zr, .long zh, .ref a1, .ref a2, .ref a3, .ref a4, .ref a5, .long zx, .long zy, .int (bI zi), .long zu, .long zv, .int zl])), (a1, .inl (cJ, 16, .inr (.inl zpx))), (a2, .inl (cJ, 16, .inr (.inl zpy))), (a3, .inl (cZ, 16, .inl (fun i => bI (zip i)))), (a4, .inl (cJ, 8, .inr (.inl zvu))), (a5, .inl (cJ, 8, .inr (.inl zvv)))] s.heap.size = A at hD ⊢
  have hA : ∀ q : Nat, s.heap.size ≤ q → A q := fun q h => by rw [← hAe]; exact Or.inr h
  have hS : va_S A s.heap s.heap [] := va_S.rf
  have hP : va_P D vwCl [(mo, .inr (4, [.long zp, .long zr, .long zh, .ref a1, .ref a2, .ref a3, .ref a4, .ref a5, .long zx, .long zy, .int (bI zi), .long zu, .long zv, .int zl])), (a1, .inl (cJ, 16, .inr (.inl zpx))), (a2, .inl (cJ, 16, .inr (.inl zpy))), (a3, .inl (cZ, 16, .inl (fun i => bI (zip i)))), (a4, .inl (cJ, 8, .inr (.inl zvu))), (a5, .inl (cJ, 8, .inr (.inl zvv)))] s.heap := hP
  have hl := lv_entry ([.ref mo, .long q0, .int q1]) (n := 5) (Nat.le_of_ble_eq_true rfl)
  rw [lg_entry_eq]
  generalize (lg_sl ([.ref mo, .long q0, .int q1]) ++ List.replicate (5 - (lg_sl ([.ref mo, .long q0, .int q1])).length) Slot.unset).toArray = ls at hl ⊢
  have hl : lv_has ls 5 [(0, .ref mo), (1, .long q0), (3, .int q1)] := hl
  suffices key : ∀ (H : Heap) (locs : List Loc), va_P D vwCl [(mo, .inr (4, [.long zp, .long zr, .long zh, .ref a1, .ref a2, .ref a3, .ref a4, .ref a5, .long zx, .long zy, .int (bI zi), .long zu, .long zv, .int zl])), (a1, .inl (cJ, 16, .inr (.inl zpx))), (a2, .inl (cJ, 16, .inr (.inl zpy))), (a3, .inl (cZ, 16, .inl (fun i => bI (zip i)))), (a4, .inl (cJ, 8, .inr (.inl zvu))), (a5, .inl (cJ, 8, .inr (.inl zvv)))] H → va_D A [(mo, .inr (4, [.long zp, .long zr, .long zh, .ref a1, .ref a2, .ref a3, .ref a4, .ref a5, .long zx, .long zy, .int (bI zi), .long zu, .long zv, .int zl])), (a1, .inl (cJ, 16, .inr (.inl zpx))), (a2, .inl (cJ, 16, .inr (.inl zpy))), (a3, .inl (cZ, 16, .inl (fun i => bI (zip i)))), (a4, .inl (cJ, 8, .inr (.inl zvu))), (a5, .inl (cJ, 8, .inr (.inl zvv)))] → va_S A s.heap H locs → W pg l e (headSpec wsX4_pairTurned rmX4_pairTurned).room s m ([.ref mo, .long q0, .int q1] : List Value).toArray below meth c H locs 0 0 (MQ below (QE D (none) [(mo, .inr (4, [.long zp, .long zr, .long zh, .ref a1, .ref a2, .ref a3, .ref a4, .ref a5, .long ozx, .long ozy, .int (bI ozi), .long ozu, .long ozv, .int ozl])), (a1, .inl (cJ, 16, .inr (.inl zpx))), (a2, .inl (cJ, 16, .inr (.inl zpy))), (a3, .inl (cZ, 16, .inl (fun i => bI (zip i)))), (a4, .inl (cJ, 8, .inr (.inl zvu))), (a5, .inl (cJ, 8, .inr (.inl zvv)))] A) ([.ref mo, .long q0, .int q1] : List Value).toArray s 0 0 A) (F0 m 0 ls []) from key s.heap [] hP hD hS
  intro H locs hP hD hS
  unfold fX4_pairTurned at h
  refine lv_aload_n hx hb dX4_pairTurned_0 rfl (lv_at hl 0 rfl) ?_
  refine lv_lload_n hx hb dX4_pairTurned_1 rfl (lv_at hl 1 rfl) ?_
  obtain ⟨⟨r1, o2, o3, o4⟩, h5, h⟩ := bind_s h
  try dsimp only at h
  refine kE (wc := [(mo, .inr (4, [.long zp, .long zr, .long zh, .ref a1, .ref a2, .ref a3, .ref a4, .ref a5, .long zx, .long zy, .int (bI zi), .long zu, .long zv, .int zl])), (a1, .inl (cJ, 16, .inr (.inl zpx))), (a2, .inl (cJ, 16, .inr (.inl zpy))), (a3, .inl (cZ, 16, .inl (fun i => bI (zip i)))), (a4, .inl (cJ, 8, .inr (.inl zvu))), (a5, .inl (cJ, 8, .inr (.inl zvv)))]) (wr := []) [0, 1, 2, 3, 4, 5] [] hP hD hS hA rfl rfl rfl (by decide) rfl (eV (As := [.long q0]) (rest := []) C0 (kX4_turnOf l D cJ cZ mo a1 a2 a3 a4 a5 N zp zr zh zx zy zi zu zv zl zpx zpy zip zvu zvv q0 H.size r1 o2 o3 o4 h5) gX4_pairTurned_X4_turnOf rfl ⟨rfl, rfl⟩ hdX4_turnOf ⟨Nat.le_of_ble_eq_true rfl, Nat.le_of_ble_eq_true rfl⟩ 4 0 rfl rfl rfl hP hD hE hl rfl rfl (Nat.le_of_ble_eq_true rfl) dX4_pairTurned_2 ⟨Nat.zero_le _, Nat.zero_le _⟩) (fun H locs hP hD hS => ?_)
  have hP : va_P D vwCl [(mo, .inr (4, [.long zp, .long zr, .long zh, .ref a1, .ref a2, .ref a3, .ref a4, .ref a5, .long o2, .long o3, .int (bI o4), .long zu, .long zv, .int zl])), (a1, .inl (cJ, 16, .inr (.inl zpx))), (a2, .inl (cJ, 16, .inr (.inl zpy))), (a3, .inl (cZ, 16, .inl (fun i => bI (zip i)))), (a4, .inl (cJ, 8, .inr (.inl zvu))), (a5, .inl (cJ, 8, .inr (.inl zvv)))] H := hP
  have hD : va_D A [(mo, .inr (4, [.long zp, .long zr, .long zh, .ref a1, .ref a2, .ref a3, .ref a4, .ref a5, .long o2, .long o3, .int (bI o4), .long zu, .long zv, .int zl])), (a1, .inl (cJ, 16, .inr (.inl zpx))), (a2, .inl (cJ, 16, .inr (.inl zpy))), (a3, .inl (cZ, 16, .inl (fun i => bI (zip i)))), (a4, .inl (cJ, 8, .inr (.inl zvu))), (a5, .inl (cJ, 8, .inr (.inl zvv)))] := hD
  refine lv_istore (lv' := [(4, .int r1), (0, .ref mo), (1, .long q0), (3, .int q1)]) hx hb dX4_pairTurned_5 hl (by decide) rfl (fun ls hl => ?_)
  refine lv_aload_n hx hb dX4_pairTurned_7 rfl (lv_at hl 1 rfl) ?_
  refine lv_aload_n hx hb dX4_pairTurned_8 rfl (lv_at hl 1 rfl) ?_
  refine va_get (D := D) (ci := 4) (v := .long o2) (C := RX4) (T := TX4) (N := 14) hx hb hts iwX4_pairTurned_4 hown hE.1 hP 0 rfl rfl 8 (by decide) (hts _ lkX4_pairTurned_0) (fun _ h9 => h9) rfl dX4_pairTurned_9 ?_
  refine lv_aload_n hx hb dX4_pairTurned_12 rfl (lv_at hl 1 rfl) ?_
  refine va_get (D := D) (ci := 4) (v := .long o3) (C := RX4) (T := TX4) (N := 14) hx hb hts iwX4_pairTurned_4 hown hE.1 hP 0 rfl rfl 9 (by decide) (hts _ lkX4_pairTurned_1) (fun _ h9 => h9) rfl dX4_pairTurned_13 ?_
  refine lv_aload_n hx hb dX4_pairTurned_16 rfl (lv_at hl 1 rfl) ?_
  refine va_get (D := D) (ci := 4) (v := .int (bI o4)) (C := RX4) (T := TX4) (N := 14) hx hb hts iwX4_pairTurned_4 hown hE.1 hP 0 rfl rfl 10 (by decide) (hts _ lkX4_pairTurned_2) (fun _ h9 => h9) rfl dX4_pairTurned_17 ?_
  refine lv_aload_n hx hb dX4_pairTurned_20 rfl (lv_at hl 1 rfl) ?_
  refine va_get (D := D) (ci := 4) (v := .ref a1) (C := RX4) (T := TX4) (N := 14) hx hb hts iwX4_pairTurned_4 hown hE.1 hP 0 rfl rfl 3 (by decide) (hts _ lkX4_pairTurned_3) (fun _ h9 => h9) rfl dX4_pairTurned_21 ?_
  refine lv_iload_n hx hb dX4_pairTurned_24 rfl (lv_at hl 3 rfl) ?_
  obtain ⟨c6, h⟩ := ite_n h
  refine va_lald hx hb hE.1 hP 1 0 rfl rfl c6 dX4_pairTurned_25 ?_
  refine lv_aload_n hx hb dX4_pairTurned_26 rfl (lv_at hl 1 rfl) ?_
  refine va_get (D := D) (ci := 4) (v := .ref a2) (C := RX4) (T := TX4) (N := 14) hx hb hts iwX4_pairTurned_4 hown hE.1 hP 0 rfl rfl 4 (by decide) (hts _ lkX4_pairTurned_4) (fun _ h9 => h9) rfl dX4_pairTurned_27 ?_
  refine lv_iload_n hx hb dX4_pairTurned_30 rfl (lv_at hl 3 rfl) ?_
  refine va_lald hx hb hE.1 hP 2 0 rfl rfl c6 dX4_pairTurned_31 ?_
  refine lv_aload_n hx hb dX4_pairTurned_32 rfl (lv_at hl 1 rfl) ?_
  refine va_get (D := D) (ci := 4) (v := .ref a3) (C := RX4) (T := TX4) (N := 14) hx hb hts iwX4_pairTurned_4 hown hE.1 hP 0 rfl rfl 5 (by decide) (hts _ lkX4_pairTurned_5) (fun _ h9 => h9) rfl dX4_pairTurned_33 ?_
  refine lv_iload_n hx hb dX4_pairTurned_36 rfl (lv_at hl 3 rfl) ?_
  refine va_zald hx hb hE.1 hP 3 1 rfl rfl c6 dX4_pairTurned_37 ?_
  obtain ⟨⟨o7, o8, o9, o10, o11, o12⟩, h13, h⟩ := bind_s h
  try dsimp only at h
  refine kE (wc := [(mo, .inr (4, [.long zp, .long zr, .long zh, .ref a1, .ref a2, .ref a3, .ref a4, .ref a5, .long o2, .long o3, .int (bI o4), .long zu, .long zv, .int zl])), (a1, .inl (cJ, 16, .inr (.inl zpx))), (a2, .inl (cJ, 16, .inr (.inl zpy))), (a3, .inl (cZ, 16, .inl (fun i => bI (zip i)))), (a4, .inl (cJ, 8, .inr (.inl zvu))), (a5, .inl (cJ, 8, .inr (.inl zvv)))]) (wr := []) [0, 1, 2, 3, 4, 5] [] hP hD hS hA rfl rfl rfl (by decide) rfl (eV (As := [.long o2, .long o3, .int (bI o4), .long (zpx q1.toNatClampNeg), .long (zpy q1.toNatClampNeg), .int (bI (zip q1.toNatClampNeg))]) (rest := []) C0 (kX4_pairOf l D cJ cZ mo a1 a2 a3 a4 a5 N zp zr zh o2 o3 o4 zu zv zl zpx zpy zip zvu zvv o2 o3 o4 (zpx q1.toNatClampNeg) (zpy q1.toNatClampNeg) (zip q1.toNatClampNeg) H.size o7 o8 o9 o10 o11 o12 h13) gX4_pairTurned_X4_pairOf rfl ⟨rfl, rfl⟩ hdX4_pairOf ⟨Nat.le_of_ble_eq_true rfl, Nat.le_of_ble_eq_true rfl⟩ 4 0 rfl rfl rfl hP hD hE hl rfl rfl (Nat.le_of_ble_eq_true rfl) dX4_pairTurned_38 ⟨Nat.zero_le _, Nat.zero_le _⟩) (fun H locs hP hD hS => ?_)
  have hP : va_P D vwCl [(mo, .inr (4, [.long zp, .long zr, .long zh, .ref a1, .ref a2, .ref a3, .ref a4, .ref a5, .long o7, .long o8, .int (bI o9), .long o10, .long o11, .int o12])), (a1, .inl (cJ, 16, .inr (.inl zpx))), (a2, .inl (cJ, 16, .inr (.inl zpy))), (a3, .inl (cZ, 16, .inl (fun i => bI (zip i)))), (a4, .inl (cJ, 8, .inr (.inl zvu))), (a5, .inl (cJ, 8, .inr (.inl zvv)))] H := hP
  have hD : va_D A [(mo, .inr (4, [.long zp, .long zr, .long zh, .ref a1, .ref a2, .ref a3, .ref a4, .ref a5, .long o7, .long o8, .int (bI o9), .long o10, .long o11, .int o12])), (a1, .inl (cJ, 16, .inr (.inl zpx))), (a2, .inl (cJ, 16, .inr (.inl zpy))), (a3, .inl (cZ, 16, .inl (fun i => bI (zip i)))), (a4, .inl (cJ, 8, .inr (.inl zvu))), (a5, .inl (cJ, 8, .inr (.inl zvv)))] := hD
  cases h
  exact rfV hx hb hr hlocks hP hD hS dX4_pairTurned_41
def fX4_holds (N : Nat) (zp : Int64) (zr : Int64) (zh : Int64) (zx : Int64) (zy : Int64) (zi : Bool) (zu : Int64) (zv : Int64) (zl : Int32) (zpx : Nat → Int64) (zpy : Nat → Int64) (zip : Nat → Bool) (q0 : Int32) (q1 : Int64) (q2 : Int32) : Option (Int32 × Int64 × Int64 × Bool × Int64 × Int64 × Int32) :=
  if zp = 0 then
    some ((-3), zx, zy, zi, zu, zv, zl)
  else
    (fX4_isSlot q0).bind fun r2 =>
    if (bI r2) = 0 then
      some ((-2), zx, zy, zi, zu, zv, zl)
    else
      (fX4_isSlot q2).bind fun r5 =>
      if (bI r5) = 0 then
        some ((-2), zx, zy, zi, zu, zv, zl)
      else
        (fX4_isOfR N zp zr zx zy zi zpx zpy zip q2).bind fun (r8, o9, o10, o11) =>
        if (bI r8) = 0 then
          some (0, o9, o10, o11, zu, zv, zl)
        else
          (fX4_isOfR N zp zr o9 o10 o11 zpx zpy zip q0).bind fun (r14, o15, o16, o17) =>
          if (bI r14) = 0 then
            some (0, o15, o16, o17, zu, zv, zl)
          else
            if q0 < 0 ∨ 16 ≤ q0.toNatClampNeg then none else
            if (bI (zip q0.toNatClampNeg)) = 0 then
              some (0, o15, o16, o17, zu, zv, zl)
            else
              (fX4_pairWithBase N zp zr zh o15 o16 o17 zu zv zl zpx zpy zip q2).bind fun (o22, o23, o24, o25, o26, o27) =>
              (fX4_pairTurned N zp zr zh o22 o23 o24 o25 o26 o27 zpx zpy zip q1 q0).bind fun (o29, o30, o31, o32, o33, o34) =>
              if o32 = o25 then
                if o33 = o26 then
                  some (1, o29, o30, o31, o32, o33, o34)
                else
                  some (0, o29, o30, o31, o32, o33, o34)
              else
                some (0, o29, o30, o31, o32, o33, o34)
abbrev rmX4_holds : Room := { frames := 8, cells := 0, slots := 0, locals := 220 }
theorem lkX4_holds_0 : (.fieldLink RX4 28 "PairingDeskModel" "p" "J" : Cond) ∈ wsX4_holds := by decide +kernel
theorem lkX4_holds_1 : (.fieldLink RX4 16 "PairingDeskModel" "isPoint" "[Z" : Cond) ∈ wsX4_holds := by decide +kernel
theorem lkX4_holds_2 : (.fieldLink RX4 116 "PairingDeskModel" "u" "J" : Cond) ∈ wsX4_holds := by decide +kernel
theorem lkX4_holds_3 : (.fieldLink RX4 119 "PairingDeskModel" "v" "J" : Cond) ∈ wsX4_holds := by decide +kernel
theorem iwX4_holds_4 : ∀ w ∈ wsX40, w ∈ wsX4_holds := by decide +kernel
theorem hdX4_holds : KN yX4_holds 3 := by decide +kernel
set_option maxHeartbeats 4000000 in
set_option maxRecDepth 100000 in
theorem kX4_holds (l : Launch) (D : va_G) (cJ cZ : ClassId) (mo a1 a2 a3 a4 a5 : Nat) (N : Nat) (zp : Int64) (zr : Int64) (zh : Int64) (zx : Int64) (zy : Int64) (zi : Bool) (zu : Int64) (zv : Int64) (zl : Int32) (zpx : Nat → Int64) (zpy : Nat → Int64) (zip : Nat → Bool) (zvu : Nat → Int64) (zvv : Nat → Int64) (q0 : Int32) (q1 : Int64) (q2 : Int32) (sz : Nat) (rr : Int32) (ozx : Int64) (ozy : Int64) (ozi : Bool) (ozu : Int64) (ozv : Int64) (ozl : Int32) (h : fX4_holds N zp zr zh zx zy zi zu zv zl zpx zpy zip q0 q1 q2 = some (rr, ozx, ozy, ozi, ozu, ozv, ozl)) : Met l yX4_holds wsX4_holds rmX4_holds (PE D cJ cZ [.ref mo, .int q0, .long q1, .int q2] [(mo, .inr (4, [.long zp, .long zr, .long zh, .ref a1, .ref a2, .ref a3, .ref a4, .ref a5, .long zx, .long zy, .int (bI zi), .long zu, .long zv, .int zl])), (a1, .inl (cJ, 16, .inr (.inl zpx))), (a2, .inl (cJ, 16, .inr (.inl zpy))), (a3, .inl (cZ, 16, .inl (fun i => bI (zip i)))), (a4, .inl (cJ, 8, .inr (.inl zvu))), (a5, .inl (cJ, 8, .inr (.inl zvv)))] sz) (QE D (some (.int rr)) [(mo, .inr (4, [.long zp, .long zr, .long zh, .ref a1, .ref a2, .ref a3, .ref a4, .ref a5, .long ozx, .long ozy, .int (bI ozi), .long ozu, .long ozv, .int ozl])), (a1, .inl (cJ, 16, .inr (.inl zpx))), (a2, .inl (cJ, 16, .inr (.inl zpy))), (a3, .inl (cZ, 16, .inl (fun i => bI (zip i)))), (a4, .inl (cJ, 8, .inr (.inl zvu))), (a5, .inl (cJ, 8, .inr (.inl zvv)))] (va_A [(mo, .inr (4, [.long zp, .long zr, .long zh, .ref a1, .ref a2, .ref a3, .ref a4, .ref a5, .long zx, .long zy, .int (bI zi), .long zu, .long zv, .int zl])), (a1, .inl (cJ, 16, .inr (.inl zpx))), (a2, .inl (cJ, 16, .inr (.inl zpy))), (a3, .inl (cZ, 16, .inl (fun i => bI (zip i)))), (a4, .inl (cJ, 8, .inr (.inl zvu))), (a5, .inl (cJ, 8, .inr (.inl zvv)))] sz)) 0 0 (va_A [(mo, .inr (4, [.long zp, .long zr, .long zh, .ref a1, .ref a2, .ref a3, .ref a4, .ref a5, .long zx, .long zy, .int (bI zi), .long zu, .long zv, .int zl])), (a1, .inl (cJ, 16, .inr (.inl zpx))), (a2, .inl (cJ, 16, .inr (.inl zpy))), (a3, .inl (cZ, 16, .inl (fun i => bI (zip i)))), (a4, .inl (cJ, 8, .inr (.inl zvu))), (a5, .inl (cJ, 8, .inr (.inl zvv)))] sz) := by
  refine Met.ofW (cc := cX4_holds) (maxL := 9) (ret := some .int) (by decide) rfl ?_
  intro pg e s m args below meth c s₁ B hml hv
  obtain ⟨rfl, hsz, hP, hE, hD0⟩ := hv
  have hx := B.exec
  have hb := B.bytes
  have hr := B.returns
  have hlocks := B.notSynchronized
  have C0 : CallFix pg m c cX4_holds 9 s ([.ref mo, .int q0, .long q1, .int q2] : List Value).toArray wsX4_holds RX4 := ⟨hx, hb, hml, findClass_of_methodNamed B.named, atoms_spec (ws := wsX4_holds) B.pre⟩
  have hown := C0.2.2.2.1
  have hts := C0.2.2.2.2
  subst hsz
  have hD := hD0.self (sz := s.heap.size)
  generalize hAe : va_A [(mo, .inr (4, [.long zp, .long zr, .long zh, .ref a1, .ref a2, .ref a3, .ref a4, .ref a5, .long zx, .long zy, .int (bI zi), .long zu, .long zv, .int zl])), (a1, .inl (cJ, 16, .inr (.inl zpx))), (a2, .inl (cJ, 16, .inr (.inl zpy))), (a3, .inl (cZ, 16, .inl (fun i => bI (zip i)))), (a4, .inl (cJ, 8, .inr (.inl zvu))), (a5, .inl (cJ, 8, .inr (.inl zvv)))] s.heap.size = A at hD ⊢
  have hA : ∀ q : Nat, s.heap.size ≤ q → A q := fun q h => by rw [← hAe]; exact Or.inr h
  have hS : va_S A s.heap s.heap [] := va_S.rf
  have hP : va_P D vwCl [(mo, .inr (4, [.long zp, .long zr, .long zh, .ref a1, .ref a2, .ref a3, .ref a4, .ref a5, .long zx, .long zy, .int (bI zi), .long zu, .long zv, .int zl])), (a1, .inl (cJ, 16, .inr (.inl zpx))), (a2, .inl (cJ, 16, .inr (.inl zpy))), (a3, .inl (cZ, 16, .inl (fun i => bI (zip i)))), (a4, .inl (cJ, 8, .inr (.inl zvu))), (a5, .inl (cJ, 8, .inr (.inl zvv)))] s.heap := hP
  have hl := lv_entry ([.ref mo, .int q0, .long q1, .int q2]) (n := 9) (Nat.le_of_ble_eq_true rfl)
  rw [lg_entry_eq]
  generalize (lg_sl ([.ref mo, .int q0, .long q1, .int q2]) ++ List.replicate (9 - (lg_sl ([.ref mo, .int q0, .long q1, .int q2])).length) Slot.unset).toArray = ls at hl ⊢
  have hl : lv_has ls 9 [(0, .ref mo), (1, .int q0), (2, .long q1), (4, .int q2)] := hl
  suffices key : ∀ (H : Heap) (locs : List Loc), va_P D vwCl [(mo, .inr (4, [.long zp, .long zr, .long zh, .ref a1, .ref a2, .ref a3, .ref a4, .ref a5, .long zx, .long zy, .int (bI zi), .long zu, .long zv, .int zl])), (a1, .inl (cJ, 16, .inr (.inl zpx))), (a2, .inl (cJ, 16, .inr (.inl zpy))), (a3, .inl (cZ, 16, .inl (fun i => bI (zip i)))), (a4, .inl (cJ, 8, .inr (.inl zvu))), (a5, .inl (cJ, 8, .inr (.inl zvv)))] H → va_D A [(mo, .inr (4, [.long zp, .long zr, .long zh, .ref a1, .ref a2, .ref a3, .ref a4, .ref a5, .long zx, .long zy, .int (bI zi), .long zu, .long zv, .int zl])), (a1, .inl (cJ, 16, .inr (.inl zpx))), (a2, .inl (cJ, 16, .inr (.inl zpy))), (a3, .inl (cZ, 16, .inl (fun i => bI (zip i)))), (a4, .inl (cJ, 8, .inr (.inl zvu))), (a5, .inl (cJ, 8, .inr (.inl zvv)))] → va_S A s.heap H locs → W pg l e (headSpec wsX4_holds rmX4_holds).room s m ([.ref mo, .int q0, .long q1, .int q2] : List Value).toArray below meth c H locs 0 0 (MQ below (QE D (some (.int rr)) [(mo, .inr (4, [.long zp, .long zr, .long zh, .ref a1, .ref a2, .ref a3, .ref a4, .ref a5, .long ozx, .long ozy, .int (bI ozi), .long ozu, .long ozv, .int ozl])), (a1, .inl (cJ, 16, .inr (.inl zpx))), (a2, .inl (cJ, 16, .inr (.inl zpy))), (a3, .inl (cZ, 16, .inl (fun i => bI (zip i)))), (a4, .inl (cJ, 8, .inr (.inl zvu))), (a5, .inl (cJ, 8, .inr (.inl zvv)))] A) ([.ref mo, .int q0, .long q1, .int q2] : List Value).toArray s 0 0 A) (F0 m 0 ls []) from key s.heap [] hP hD hS
  intro H locs hP hD hS
  unfold fX4_holds at h
  refine lv_aload_n hx hb dX4_holds_0 rfl (lv_at hl 0 rfl) ?_
  refine va_get (D := D) (ci := 4) (v := .long zp) (C := RX4) (T := TX4) (N := 14) hx hb hts iwX4_holds_4 hown hE.1 hP 0 rfl rfl 0 (by decide) (hts _ lkX4_holds_0) (fun _ h9 => h9) rfl dX4_holds_1 ?_
  refine lv_lconst (v := 0) hx hb dX4_holds_4 (by decide) ?_
  refine lc_ne (tgt := 12) hx hb dX4_holds_5 dX4_holds_6 (by decide) (fun c1 => ?_) (fun c1 => ?_)
  · have h := ite_f c1 h
    refine lv_iload_n hx hb dX4_holds_12 rfl (lv_at hl 1 rfl) ?_
    obtain ⟨r2, h3, h⟩ := bind_s h
    refine ki (kS (As := [.int q0]) (rest := []) C0 (kX4_isSlot l D cJ cZ q0 r2 h3) gX4_holds_X4_isSlot rfl ⟨rfl, rfl⟩ hdX4_isSlot ⟨Nat.le_of_ble_eq_true rfl, Nat.le_of_ble_eq_true rfl⟩ (hP.sub [] rfl) hE hl rfl rfl (Nat.le_of_ble_eq_true rfl) dX4_holds_13 (Nat.zero_le _) (Nat.zero_le _)) ?_
    refine lv_if_eq (tgt := 27) hx hb dX4_holds_16 (by decide) (fun c4 => ?_) (fun c4 => ?_)
    · have h := ite_t c4 h
      refine lv_bipush (v := (-2)) hx hb dX4_holds_27 (by decide) ?_
      cases h
      exact rfI hx hb hr hlocks hP hD hS dX4_holds_29
    · have h := ite_f c4 h
      refine lv_iload hx hb dX4_holds_19 (lv_at hl 3 rfl) ?_
      obtain ⟨r5, h6, h⟩ := bind_s h
      refine ki (kS (As := [.int q2]) (rest := []) C0 (kX4_isSlot l D cJ cZ q2 r5 h6) gX4_holds_X4_isSlot rfl ⟨rfl, rfl⟩ hdX4_isSlot ⟨Nat.le_of_ble_eq_true rfl, Nat.le_of_ble_eq_true rfl⟩ (hP.sub [] rfl) hE hl rfl rfl (Nat.le_of_ble_eq_true rfl) dX4_holds_21 (Nat.zero_le _) (Nat.zero_le _)) ?_
      refine lv_if_ne (tgt := 30) hx hb dX4_holds_24 (by decide) (fun c7 => ?_) (fun c7 => ?_)
      · have h := ite_f c7 h
        refine lv_aload_n hx hb dX4_holds_30 rfl (lv_at hl 0 rfl) ?_
        refine lv_iload hx hb dX4_holds_31 (lv_at hl 3 rfl) ?_
        obtain ⟨⟨r8, o9, o10, o11⟩, h12, h⟩ := bind_s h
        try dsimp only at h
        refine kE (wc := [(mo, .inr (4, [.long zp, .long zr, .long zh, .ref a1, .ref a2, .ref a3, .ref a4, .ref a5, .long zx, .long zy, .int (bI zi), .long zu, .long zv, .int zl])), (a1, .inl (cJ, 16, .inr (.inl zpx))), (a2, .inl (cJ, 16, .inr (.inl zpy))), (a3, .inl (cZ, 16, .inl (fun i => bI (zip i)))), (a4, .inl (cJ, 8, .inr (.inl zvu))), (a5, .inl (cJ, 8, .inr (.inl zvv)))]) (wr := []) [0, 1, 2, 3, 4, 5] [] hP hD hS hA rfl rfl rfl (by decide) rfl (eV (As := [.int q2]) (rest := []) C0 (kX4_isOfR l D cJ cZ mo a1 a2 a3 a4 a5 N zp zr zh zx zy zi zu zv zl zpx zpy zip zvu zvv q2 H.size r8 o9 o10 o11 h12) gX4_holds_X4_isOfR rfl ⟨rfl, rfl⟩ hdX4_isOfR ⟨Nat.le_of_ble_eq_true rfl, Nat.le_of_ble_eq_true rfl⟩ 4 0 rfl rfl rfl hP hD hE hl rfl rfl (Nat.le_of_ble_eq_true rfl) dX4_holds_33 ⟨Nat.zero_le _, Nat.zero_le _⟩) (fun H locs hP hD hS => ?_)
        have hP : va_P D vwCl [(mo, .inr (4, [.long zp, .long zr, .long zh, .ref a1, .ref a2, .ref a3, .ref a4, .ref a5, .long o9, .long o10, .int (bI o11), .long zu, .long zv, .int zl])), (a1, .inl (cJ, 16, .inr (.inl zpx))), (a2, .inl (cJ, 16, .inr (.inl zpy))), (a3, .inl (cZ, 16, .inl (fun i => bI (zip i)))), (a4, .inl (cJ, 8, .inr (.inl zvu))), (a5, .inl (cJ, 8, .inr (.inl zvv)))] H := hP
        have hD : va_D A [(mo, .inr (4, [.long zp, .long zr, .long zh, .ref a1, .ref a2, .ref a3, .ref a4, .ref a5, .long o9, .long o10, .int (bI o11), .long zu, .long zv, .int zl])), (a1, .inl (cJ, 16, .inr (.inl zpx))), (a2, .inl (cJ, 16, .inr (.inl zpy))), (a3, .inl (cZ, 16, .inl (fun i => bI (zip i)))), (a4, .inl (cJ, 8, .inr (.inl zvu))), (a5, .inl (cJ, 8, .inr (.inl zvv)))] := hD
        refine lv_if_eq (tgt := 56) hx hb dX4_holds_36 (by decide) (fun c13 => ?_) (fun c13 => ?_)
        · have h := ite_t c13 h
          refine lv_iconst (v := 0) hx hb dX4_holds_56 (by decide) ?_
          cases h
          exact rfI hx hb hr hlocks hP hD hS dX4_holds_57
        · have h := ite_f c13 h
          refine lv_aload_n hx hb dX4_holds_39 rfl (lv_at hl 0 rfl) ?_
          refine lv_iload_n hx hb dX4_holds_40 rfl (lv_at hl 1 rfl) ?_
          obtain ⟨⟨r14, o15, o16, o17⟩, h18, h⟩ := bind_s h
          try dsimp only at h
          refine kE (wc := [(mo, .inr (4, [.long zp, .long zr, .long zh, .ref a1, .ref a2, .ref a3, .ref a4, .ref a5, .long o9, .long o10, .int (bI o11), .long zu, .long zv, .int zl])), (a1, .inl (cJ, 16, .inr (.inl zpx))), (a2, .inl (cJ, 16, .inr (.inl zpy))), (a3, .inl (cZ, 16, .inl (fun i => bI (zip i)))), (a4, .inl (cJ, 8, .inr (.inl zvu))), (a5, .inl (cJ, 8, .inr (.inl zvv)))]) (wr := []) [0, 1, 2, 3, 4, 5] [] hP hD hS hA rfl rfl rfl (by decide) rfl (eV (As := [.int q0]) (rest := []) C0 (kX4_isOfR l D cJ cZ mo a1 a2 a3 a4 a5 N zp zr zh o9 o10 o11 zu zv zl zpx zpy zip zvu zvv q0 H.size r14 o15 o16 o17 h18) gX4_holds_X4_isOfR rfl ⟨rfl, rfl⟩ hdX4_isOfR ⟨Nat.le_of_ble_eq_true rfl, Nat.le_of_ble_eq_true rfl⟩ 4 0 rfl rfl rfl hP hD hE hl rfl rfl (Nat.le_of_ble_eq_true rfl) dX4_holds_41 ⟨Nat.zero_le _, Nat.zero_le _⟩) (fun H locs hP hD hS => ?_)
          have hP : va_P D vwCl [(mo, .inr (4, [.long zp, .long zr, .long zh, .ref a1, .ref a2, .ref a3, .ref a4, .ref a5, .long o15, .long o16, .int (bI o17), .long zu, .long zv, .int zl])), (a1, .inl (cJ, 16, .inr (.inl zpx))), (a2, .inl (cJ, 16, .inr (.inl zpy))), (a3, .inl (cZ, 16, .inl (fun i => bI (zip i)))), (a4, .inl (cJ, 8, .inr (.inl zvu))), (a5, .inl (cJ, 8, .inr (.inl zvv)))] H := hP
          have hD : va_D A [(mo, .inr (4, [.long zp, .long zr, .long zh, .ref a1, .ref a2, .ref a3, .ref a4, .ref a5, .long o15, .long o16, .int (bI o17), .long zu, .long zv, .int zl])), (a1, .inl (cJ, 16, .inr (.inl zpx))), (a2, .inl (cJ, 16, .inr (.inl zpy))), (a3, .inl (cZ, 16, .inl (fun i => bI (zip i)))), (a4, .inl (cJ, 8, .inr (.inl zvu))), (a5, .inl (cJ, 8, .inr (.inl zvv)))] := hD
          refine lv_if_eq (tgt := 56) hx hb dX4_holds_44 (by decide) (fun c19 => ?_) (fun c19 => ?_)
          · have h := ite_t c19 h
            refine lv_iconst (v := 0) hx hb dX4_holds_56 (by decide) ?_
            cases h
            exact rfI hx hb hr hlocks hP hD hS dX4_holds_57
          · have h := ite_f c19 h
            refine lv_aload_n hx hb dX4_holds_47 rfl (lv_at hl 0 rfl) ?_
            refine va_get (D := D) (ci := 4) (v := .ref a3) (C := RX4) (T := TX4) (N := 14) hx hb hts iwX4_holds_4 hown hE.1 hP 0 rfl rfl 5 (by decide) (hts _ lkX4_holds_1) (fun _ h9 => h9) rfl dX4_holds_48 ?_
            refine lv_iload_n hx hb dX4_holds_51 rfl (lv_at hl 1 rfl) ?_
            obtain ⟨c20, h⟩ := ite_n h
            refine va_zald hx hb hE.1 hP 3 1 rfl rfl c20 dX4_holds_52 ?_
            refine lv_if_ne (tgt := 58) hx hb dX4_holds_53 (by decide) (fun c21 => ?_) (fun c21 => ?_)
            · have h := ite_f c21 h
              refine lv_aload_n hx hb dX4_holds_58 rfl (lv_at hl 0 rfl) ?_
              refine lv_iload hx hb dX4_holds_59 (lv_at hl 3 rfl) ?_
              obtain ⟨⟨o22, o23, o24, o25, o26, o27⟩, h28, h⟩ := bind_s h
              try dsimp only at h
              refine kE (wc := [(mo, .inr (4, [.long zp, .long zr, .long zh, .ref a1, .ref a2, .ref a3, .ref a4, .ref a5, .long o15, .long o16, .int (bI o17), .long zu, .long zv, .int zl])), (a1, .inl (cJ, 16, .inr (.inl zpx))), (a2, .inl (cJ, 16, .inr (.inl zpy))), (a3, .inl (cZ, 16, .inl (fun i => bI (zip i)))), (a4, .inl (cJ, 8, .inr (.inl zvu))), (a5, .inl (cJ, 8, .inr (.inl zvv)))]) (wr := []) [0, 1, 2, 3, 4, 5] [] hP hD hS hA rfl rfl rfl (by decide) rfl (eV (As := [.int q2]) (rest := []) C0 (kX4_pairWithBase l D cJ cZ mo a1 a2 a3 a4 a5 N zp zr zh o15 o16 o17 zu zv zl zpx zpy zip zvu zvv q2 H.size o22 o23 o24 o25 o26 o27 h28) gX4_holds_X4_pairWithBase rfl ⟨rfl, rfl⟩ hdX4_pairWithBase ⟨Nat.le_of_ble_eq_true rfl, Nat.le_of_ble_eq_true rfl⟩ 4 0 rfl rfl rfl hP hD hE hl rfl rfl (Nat.le_of_ble_eq_true rfl) dX4_holds_61 ⟨Nat.zero_le _, Nat.zero_le _⟩) (fun H locs hP hD hS => ?_)
              have hP : va_P D vwCl [(mo, .inr (4, [.long zp, .long zr, .long zh, .ref a1, .ref a2, .ref a3, .ref a4, .ref a5, .long o22, .long o23, .int (bI o24), .long o25, .long o26, .int o27])), (a1, .inl (cJ, 16, .inr (.inl zpx))), (a2, .inl (cJ, 16, .inr (.inl zpy))), (a3, .inl (cZ, 16, .inl (fun i => bI (zip i)))), (a4, .inl (cJ, 8, .inr (.inl zvu))), (a5, .inl (cJ, 8, .inr (.inl zvv)))] H := hP
              have hD : va_D A [(mo, .inr (4, [.long zp, .long zr, .long zh, .ref a1, .ref a2, .ref a3, .ref a4, .ref a5, .long o22, .long o23, .int (bI o24), .long o25, .long o26, .int o27])), (a1, .inl (cJ, 16, .inr (.inl zpx))), (a2, .inl (cJ, 16, .inr (.inl zpy))), (a3, .inl (cZ, 16, .inl (fun i => bI (zip i)))), (a4, .inl (cJ, 8, .inr (.inl zvu))), (a5, .inl (cJ, 8, .inr (.inl zvv)))] := hD
              refine lv_aload_n hx hb dX4_holds_64 rfl (lv_at hl 0 rfl) ?_
              refine va_get (D := D) (ci := 4) (v := .long o25) (C := RX4) (T := TX4) (N := 14) hx hb hts iwX4_holds_4 hown hE.1 hP 0 rfl rfl 11 (by decide) (hts _ lkX4_holds_2) (fun _ h9 => h9) rfl dX4_holds_65 ?_
              refine lv_lstore (lv' := [(5, .long o25), (0, .ref mo), (1, .int q0), (2, .long q1), (4, .int q2)]) hx hb dX4_holds_68 hl (by decide) rfl (fun ls hl => ?_)
              refine lv_aload_n hx hb dX4_holds_70 rfl (lv_at hl 1 rfl) ?_
              refine va_get (D := D) (ci := 4) (v := .long o26) (C := RX4) (T := TX4) (N := 14) hx hb hts iwX4_holds_4 hown hE.1 hP 0 rfl rfl 12 (by decide) (hts _ lkX4_holds_3) (fun _ h9 => h9) rfl dX4_holds_71 ?_
              refine lv_lstore (lv' := [(7, .long o26), (5, .long o25), (0, .ref mo), (1, .int q0), (2, .long q1), (4, .int q2)]) hx hb dX4_holds_74 hl (by decide) rfl (fun ls hl => ?_)
              refine lv_aload_n hx hb dX4_holds_76 rfl (lv_at hl 2 rfl) ?_
              refine lv_lload_n hx hb dX4_holds_77 rfl (lv_at hl 4 rfl) ?_
              refine lv_iload_n hx hb dX4_holds_78 rfl (lv_at hl 3 rfl) ?_
              obtain ⟨⟨o29, o30, o31, o32, o33, o34⟩, h35, h⟩ := bind_s h
              try dsimp only at h
              refine kE (wc := [(mo, .inr (4, [.long zp, .long zr, .long zh, .ref a1, .ref a2, .ref a3, .ref a4, .ref a5, .long o22, .long o23, .int (bI o24), .long o25, .long o26, .int o27])), (a1, .inl (cJ, 16, .inr (.inl zpx))), (a2, .inl (cJ, 16, .inr (.inl zpy))), (a3, .inl (cZ, 16, .inl (fun i => bI (zip i)))), (a4, .inl (cJ, 8, .inr (.inl zvu))), (a5, .inl (cJ, 8, .inr (.inl zvv)))]) (wr := []) [0, 1, 2, 3, 4, 5] [] hP hD hS hA rfl rfl rfl (by decide) rfl (eV (As := [.long q1, .int q0]) (rest := []) C0 (kX4_pairTurned l D cJ cZ mo a1 a2 a3 a4 a5 N zp zr zh o22 o23 o24 o25 o26 o27 zpx zpy zip zvu zvv q1 q0 H.size o29 o30 o31 o32 o33 o34 h35) gX4_holds_X4_pairTurned rfl ⟨rfl, rfl⟩ hdX4_pairTurned ⟨Nat.le_of_ble_eq_true rfl, Nat.le_of_ble_eq_true rfl⟩ 4 0 rfl rfl rfl hP hD hE hl rfl rfl (Nat.le_of_ble_eq_true rfl) dX4_holds_79 ⟨Nat.zero_le _, Nat.zero_le _⟩) (fun H locs hP hD hS => ?_)
              have hP : va_P D vwCl [(mo, .inr (4, [.long zp, .long zr, .long zh, .ref a1, .ref a2, .ref a3, .ref a4, .ref a5, .long o29, .long o30, .int (bI o31), .long o32, .long o33, .int o34])), (a1, .inl (cJ, 16, .inr (.inl zpx))), (a2, .inl (cJ, 16, .inr (.inl zpy))), (a3, .inl (cZ, 16, .inl (fun i => bI (zip i)))), (a4, .inl (cJ, 8, .inr (.inl zvu))), (a5, .inl (cJ, 8, .inr (.inl zvv)))] H := hP
              have hD : va_D A [(mo, .inr (4, [.long zp, .long zr, .long zh, .ref a1, .ref a2, .ref a3, .ref a4, .ref a5, .long o29, .long o30, .int (bI o31), .long o32, .long o33, .int o34])), (a1, .inl (cJ, 16, .inr (.inl zpx))), (a2, .inl (cJ, 16, .inr (.inl zpy))), (a3, .inl (cZ, 16, .inl (fun i => bI (zip i)))), (a4, .inl (cJ, 8, .inr (.inl zvu))), (a5, .inl (cJ, 8, .inr (.inl zvv)))] := hD
              refine lv_aload_n hx hb dX4_holds_82 rfl (lv_at hl 2 rfl) ?_
              refine va_get (D := D) (ci := 4) (v := .long o32) (C := RX4) (T := TX4) (N := 14) hx hb hts iwX4_holds_4 hown hE.1 hP 0 rfl rfl 11 (by decide) (hts _ lkX4_holds_2) (fun _ h9 => h9) rfl dX4_holds_83 ?_
              refine lv_lload hx hb dX4_holds_86 (lv_at hl 1 rfl) ?_
              refine lc_ne (tgt := 106) hx hb dX4_holds_88 dX4_holds_89 (by decide) (fun c36 => ?_) (fun c36 => ?_)
              · have h := ite_f c36 h
                refine lv_iconst (v := 0) hx hb dX4_holds_106 (by decide) ?_
                cases h
                exact rfI hx hb hr hlocks hP hD hS dX4_holds_107
              · have h := ite_t c36 h
                refine lv_aload_n hx hb dX4_holds_92 rfl (lv_at hl 2 rfl) ?_
                refine va_get (D := D) (ci := 4) (v := .long o33) (C := RX4) (T := TX4) (N := 14) hx hb hts iwX4_holds_4 hown hE.1 hP 0 rfl rfl 12 (by decide) (hts _ lkX4_holds_3) (fun _ h9 => h9) rfl dX4_holds_93 ?_
                refine lv_lload hx hb dX4_holds_96 (lv_at hl 0 rfl) ?_
                refine lc_ne (tgt := 106) hx hb dX4_holds_98 dX4_holds_99 (by decide) (fun c37 => ?_) (fun c37 => ?_)
                · have h := ite_f c37 h
                  refine lv_iconst (v := 0) hx hb dX4_holds_106 (by decide) ?_
                  cases h
                  exact rfI hx hb hr hlocks hP hD hS dX4_holds_107
                · have h := ite_t c37 h
                  refine lv_iconst (v := 1) hx hb dX4_holds_102 (by decide) ?_
                  refine lv_goto (tgt := 107) hx hb dX4_holds_103 (by decide) ?_
                  cases h
                  exact rfI hx hb hr hlocks hP hD hS dX4_holds_107
            · have h := ite_t c21 h
              refine lv_iconst (v := 0) hx hb dX4_holds_56 (by decide) ?_
              cases h
              exact rfI hx hb hr hlocks hP hD hS dX4_holds_57
      · have h := ite_t c7 h
        refine lv_bipush (v := (-2)) hx hb dX4_holds_27 (by decide) ?_
        cases h
        exact rfI hx hb hr hlocks hP hD hS dX4_holds_29
  · have h := ite_t c1 h
    refine lv_bipush (v := (-3)) hx hb dX4_holds_9 (by decide) ?_
    cases h
    exact rfI hx hb hr hlocks hP hD hS dX4_holds_11
def fX4_holdsAll_124 (N : Nat) (zp : Int64) (zr : Int64) (zh : Int64) (zpx : Nat → Int64) (zpy : Nat → Int64) (zip : Nat → Bool) (l1 : Int32) (l2 : Int32) (l3 : Int64) (l5 : Int32) : Nat → Int64 → Int64 → Int32 → Int64 → Int64 → Bool → Int64 → Int64 → Int32 → Option (Int32 × Int64 × Int64 × Bool × Int64 × Int64 × Int32)
  | 0, _, _, _, _, _, _, _, _, _ => none
  | n + 1, l7, l9, l11, zx, zy, zi, zu, zv, zl =>
    if l2 ≤ l11 then
      (fX4_pairWithBase N zp zr zh zx zy zi zu zv zl zpx zpy zip l5).bind fun (o20, o21, o22, o23, o24, o25) =>
      if o23 = l7 then
        if o24 = l9 then
          some (1, o20, o21, o22, o23, o24, o25)
        else
          some (0, o20, o21, o22, o23, o24, o25)
      else
        some (0, o20, o21, o22, o23, o24, o25)
    else
      (fX4_pairTurned N zp zr zh zx zy zi zu zv zl zpx zpy zip (l3 + l11.toInt64) (l1 + l11)).bind fun (o29, o30, o31, o32, o33, o34) =>
      (fX4_multiply2 zp o32 o33 l7 l9).bind fun (o36, o37) =>
      bnd (l11 + 1) fun w39 =>
      fX4_holdsAll_124 N zp zr zh zpx zpy zip l1 l2 l3 l5 n o36 o37 w39 o29 o30 o31 o36 o37 o34
def fX4_holdsAll_61 (N : Nat) (zp : Int64) (zr : Int64) (zh : Int64) (zpx : Nat → Int64) (zpy : Nat → Int64) (zip : Nat → Bool) (l1 : Int32) (l2 : Int32) (l3 : Int64) (l5 : Int32) : Nat → Bool → Int32 → Int64 → Int64 → Bool → Int64 → Int64 → Int32 → Option (Int32 × Int64 × Int64 × Bool × Int64 × Int64 × Int32)
  | 0, _, _, _, _, _, _, _, _ => none
  | n + 1, l6, l7, zx, zy, zi, zu, zv, zl =>
    if l2 ≤ l7 then
      if (bI l6) = 0 then
        some (0, zx, zy, zi, zu, zv, zl)
      else
        fX4_holdsAll_124 N zp zr zh zpx zpy zip l1 l2 l3 l5 N 1 0 0 zx zy zi zu zv zl
    else
      if (bI l6) = 0 then
        bnd (l7 + 1) fun w41 =>
        fX4_holdsAll_61 N zp zr zh zpx zpy zip l1 l2 l3 l5 n false w41 zx zy zi zu zv zl
      else
        (fX4_isOfR N zp zr zx zy zi zpx zpy zip (l1 + l7)).bind fun (r42, o43, o44, o45) =>
        if (bI r42) = 0 then
          bnd (l7 + 1) fun w48 =>
          fX4_holdsAll_61 N zp zr zh zpx zpy zip l1 l2 l3 l5 n false w48 o43 o44 o45 zu zv zl
        else
          if (l1 + l7) < 0 ∨ 16 ≤ (l1 + l7).toNatClampNeg then none else
          if (bI (zip (l1 + l7).toNatClampNeg)) = 0 then
            bnd (l7 + 1) fun w51 =>
            fX4_holdsAll_61 N zp zr zh zpx zpy zip l1 l2 l3 l5 n false w51 o43 o44 o45 zu zv zl
          else
            bnd (l7 + 1) fun w52 =>
            fX4_holdsAll_61 N zp zr zh zpx zpy zip l1 l2 l3 l5 n true w52 o43 o44 o45 zu zv zl
def fX4_holdsAll (N : Nat) (zp : Int64) (zr : Int64) (zh : Int64) (zx : Int64) (zy : Int64) (zi : Bool) (zu : Int64) (zv : Int64) (zl : Int32) (zpx : Nat → Int64) (zpy : Nat → Int64) (zip : Nat → Bool) (q0 : Int32) (q1 : Int32) (q2 : Int64) (q3 : Int32) : Option (Int32 × Int64 × Int64 × Bool × Int64 × Int64 × Int32) :=
  if zp = 0 then
    some ((-3), zx, zy, zi, zu, zv, zl)
  else
    (fX4_isSlot q0).bind fun r2 =>
    if (bI r2) = 0 then
      some ((-2), zx, zy, zi, zu, zv, zl)
    else
      (fX4_in q1.toInt64 1 8).bind fun r5 =>
      if (bI r5) = 0 then
        some ((-2), zx, zy, zi, zu, zv, zl)
      else
        if 16 < (q0 + q1) then
          some ((-2), zx, zy, zi, zu, zv, zl)
        else
          (fX4_isSlot q3).bind fun r9 =>
          if (bI r9) = 0 then
            some ((-2), zx, zy, zi, zu, zv, zl)
          else
            (fX4_isOfR N zp zr zx zy zi zpx zpy zip q3).bind fun (r12, o13, o14, o15) =>
            fX4_holdsAll_61 N zp zr zh zpx zpy zip q0 q1 q2 q3 N r12 0 o13 o14 o15 zu zv zl
abbrev rmX4_holdsAll : Room := { frames := 8, cells := 0, slots := 0, locals := 220 }
theorem lkX4_holdsAll_0 : (.fieldLink RX4 28 "PairingDeskModel" "p" "J" : Cond) ∈ wsX4_holdsAll := by decide +kernel
theorem lkX4_holdsAll_1 : (.constantLong RX4 160 (8) : Cond) ∈ wsX4_holdsAll := by decide +kernel
theorem lkX4_holdsAll_2 : (.fieldLink RX4 116 "PairingDeskModel" "u" "J" : Cond) ∈ wsX4_holdsAll := by decide +kernel
theorem lkX4_holdsAll_3 : (.fieldLink RX4 119 "PairingDeskModel" "v" "J" : Cond) ∈ wsX4_holdsAll := by decide +kernel
theorem lkX4_holdsAll_4 : (.fieldLink RX4 16 "PairingDeskModel" "isPoint" "[Z" : Cond) ∈ wsX4_holdsAll := by decide +kernel
theorem iwX4_holdsAll_4 : ∀ w ∈ wsX40, w ∈ wsX4_holdsAll := by decide +kernel
theorem hdX4_holdsAll : KN yX4_holdsAll 4 := by decide +kernel
set_option maxHeartbeats 4000000 in
set_option maxRecDepth 100000 in
theorem kX4_holdsAll (l : Launch) (D : va_G) (cJ cZ : ClassId) (mo a1 a2 a3 a4 a5 : Nat) (N : Nat) (zp : Int64) (zr : Int64) (zh : Int64) (zx : Int64) (zy : Int64) (zi : Bool) (zu : Int64) (zv : Int64) (zl : Int32) (zpx : Nat → Int64) (zpy : Nat → Int64) (zip : Nat → Bool) (zvu : Nat → Int64) (zvv : Nat → Int64) (q0 : Int32) (q1 : Int32) (q2 : Int64) (q3 : Int32) (sz : Nat) (rr : Int32) (ozx : Int64) (ozy : Int64) (ozi : Bool) (ozu : Int64) (ozv : Int64) (ozl : Int32) (h : fX4_holdsAll N zp zr zh zx zy zi zu zv zl zpx zpy zip q0 q1 q2 q3 = some (rr, ozx, ozy, ozi, ozu, ozv, ozl)) : Met l yX4_holdsAll wsX4_holdsAll rmX4_holdsAll (PE D cJ cZ [.ref mo, .int q0, .int q1, .long q2, .int q3] [(mo, .inr (4, [.long zp, .long zr, .long zh, .ref a1, .ref a2, .ref a3, .ref a4, .ref a5, .long zx, .long zy, .int (bI zi), .long zu, .long zv, .int zl])), (a1, .inl (cJ, 16, .inr (.inl zpx))), (a2, .inl (cJ, 16, .inr (.inl zpy))), (a3, .inl (cZ, 16, .inl (fun i => bI (zip i)))), (a4, .inl (cJ, 8, .inr (.inl zvu))), (a5, .inl (cJ, 8, .inr (.inl zvv)))] sz) (QE D (some (.int rr)) [(mo, .inr (4, [.long zp, .long zr, .long zh, .ref a1, .ref a2, .ref a3, .ref a4, .ref a5, .long ozx, .long ozy, .int (bI ozi), .long ozu, .long ozv, .int ozl])), (a1, .inl (cJ, 16, .inr (.inl zpx))), (a2, .inl (cJ, 16, .inr (.inl zpy))), (a3, .inl (cZ, 16, .inl (fun i => bI (zip i)))), (a4, .inl (cJ, 8, .inr (.inl zvu))), (a5, .inl (cJ, 8, .inr (.inl zvv)))] (va_A [(mo, .inr (4, [.long zp, .long zr, .long zh, .ref a1, .ref a2, .ref a3, .ref a4, .ref a5, .long zx, .long zy, .int (bI zi), .long zu, .long zv, .int zl])), (a1, .inl (cJ, 16, .inr (.inl zpx))), (a2, .inl (cJ, 16, .inr (.inl zpy))), (a3, .inl (cZ, 16, .inl (fun i => bI (zip i)))), (a4, .inl (cJ, 8, .inr (.inl zvu))), (a5, .inl (cJ, 8, .inr (.inl zvv)))] sz)) 0 0 (va_A [(mo, .inr (4, [.long zp, .long zr, .long zh, .ref a1, .ref a2, .ref a3, .ref a4, .ref a5, .long zx, .long zy, .int (bI zi), .long zu, .long zv, .int zl])), (a1, .inl (cJ, 16, .inr (.inl zpx))), (a2, .inl (cJ, 16, .inr (.inl zpy))), (a3, .inl (cZ, 16, .inl (fun i => bI (zip i)))), (a4, .inl (cJ, 8, .inr (.inl zvu))), (a5, .inl (cJ, 8, .inr (.inl zvv)))] sz) := by
  refine Met.ofW (cc := cX4_holdsAll) (maxL := 12) (ret := some .int) (by decide) rfl ?_
  intro pg e s m args below meth c s₁ B hml hv
  obtain ⟨rfl, hsz, hP, hE, hD0⟩ := hv
  have hx := B.exec
  have hb := B.bytes
  have hr := B.returns
  have hlocks := B.notSynchronized
  have C0 : CallFix pg m c cX4_holdsAll 12 s ([.ref mo, .int q0, .int q1, .long q2, .int q3] : List Value).toArray wsX4_holdsAll RX4 := ⟨hx, hb, hml, findClass_of_methodNamed B.named, atoms_spec (ws := wsX4_holdsAll) B.pre⟩
  have hown := C0.2.2.2.1
  have hts := C0.2.2.2.2
  subst hsz
  have hD := hD0.self (sz := s.heap.size)
  generalize hAe : va_A [(mo, .inr (4, [.long zp, .long zr, .long zh, .ref a1, .ref a2, .ref a3, .ref a4, .ref a5, .long zx, .long zy, .int (bI zi), .long zu, .long zv, .int zl])), (a1, .inl (cJ, 16, .inr (.inl zpx))), (a2, .inl (cJ, 16, .inr (.inl zpy))), (a3, .inl (cZ, 16, .inl (fun i => bI (zip i)))), (a4, .inl (cJ, 8, .inr (.inl zvu))), (a5, .inl (cJ, 8, .inr (.inl zvv)))] s.heap.size = A at hD ⊢
  have hA : ∀ q : Nat, s.heap.size ≤ q → A q := fun q h => by rw [← hAe]; exact Or.inr h
  have hS : va_S A s.heap s.heap [] := va_S.rf
  have hP : va_P D vwCl [(mo, .inr (4, [.long zp, .long zr, .long zh, .ref a1, .ref a2, .ref a3, .ref a4, .ref a5, .long zx, .long zy, .int (bI zi), .long zu, .long zv, .int zl])), (a1, .inl (cJ, 16, .inr (.inl zpx))), (a2, .inl (cJ, 16, .inr (.inl zpy))), (a3, .inl (cZ, 16, .inl (fun i => bI (zip i)))), (a4, .inl (cJ, 8, .inr (.inl zvu))), (a5, .inl (cJ, 8, .inr (.inl zvv)))] s.heap := hP
  have hl := lv_entry ([.ref mo, .int q0, .int q1, .long q2, .int q3]) (n := 12) (Nat.le_of_ble_eq_true rfl)
  rw [lg_entry_eq]
  generalize (lg_sl ([.ref mo, .int q0, .int q1, .long q2, .int q3]) ++ List.replicate (12 - (lg_sl ([.ref mo, .int q0, .int q1, .long q2, .int q3])).length) Slot.unset).toArray = ls at hl ⊢
  have hl : lv_has ls 12 [(0, .ref mo), (1, .int q0), (2, .int q1), (3, .long q2), (5, .int q3)] := hl
  have loop124 : ∀ (l1 : Int32) (l2 : Int32) (l3 : Int64) (l5 : Int32), ∀ (n : Nat) (l7 : Int64) (l9 : Int64) (l11 : Int32) (zx : Int64) (zy : Int64) (zi : Bool) (zu : Int64) (zv : Int64) (zl : Int32), fX4_holdsAll_124 N zp zr zh zpx zpy zip l1 l2 l3 l5 n l7 l9 l11 zx zy zi zu zv zl = some (rr, ozx, ozy, ozi, ozu, ozv, ozl) → ∀ (H : Heap) (locs : List Loc), va_P D vwCl [(mo, .inr (4, [.long zp, .long zr, .long zh, .ref a1, .ref a2, .ref a3, .ref a4, .ref a5, .long zx, .long zy, .int (bI zi), .long zu, .long zv, .int zl])), (a1, .inl (cJ, 16, .inr (.inl zpx))), (a2, .inl (cJ, 16, .inr (.inl zpy))), (a3, .inl (cZ, 16, .inl (fun i => bI (zip i)))), (a4, .inl (cJ, 8, .inr (.inl zvu))), (a5, .inl (cJ, 8, .inr (.inl zvv)))] H → va_D A [(mo, .inr (4, [.long zp, .long zr, .long zh, .ref a1, .ref a2, .ref a3, .ref a4, .ref a5, .long zx, .long zy, .int (bI zi), .long zu, .long zv, .int zl])), (a1, .inl (cJ, 16, .inr (.inl zpx))), (a2, .inl (cJ, 16, .inr (.inl zpy))), (a3, .inl (cZ, 16, .inl (fun i => bI (zip i)))), (a4, .inl (cJ, 8, .inr (.inl zvu))), (a5, .inl (cJ, 8, .inr (.inl zvv)))] → va_S A s.heap H locs → ∀ ls : Array Slot, lv_has ls 12 [(0, .ref mo), (1, .int l1), (2, .int l2), (3, .long l3), (5, .int l5), (7, .long l7), (9, .long l9), (11, .int l11)] → W pg l e (headSpec wsX4_holdsAll rmX4_holdsAll).room s m ([.ref mo, .int q0, .int q1, .long q2, .int q3] : List Value).toArray below meth c H locs 0 0 (MQ below (QE D (some (.int rr)) [(mo, .inr (4, [.long zp, .long zr, .long zh, .ref a1, .ref a2, .ref a3, .ref a4, .ref a5, .long ozx, .long ozy, .int (bI ozi), .long ozu, .long ozv, .int ozl])), (a1, .inl (cJ, 16, .inr (.inl zpx))), (a2, .inl (cJ, 16, .inr (.inl zpy))), (a3, .inl (cZ, 16, .inl (fun i => bI (zip i)))), (a4, .inl (cJ, 8, .inr (.inl zvu))), (a5, .inl (cJ, 8, .inr (.inl zvv)))] A) ([.ref mo, .int q0, .int q1, .long q2, .int q3] : List Value).toArray s 0 0 A) (F0 m 124 ls []) := by
    intro l1 l2 l3 l5
    intro n
    induction n with
    | zero =>
      intro l7 l9 l11 zx zy zi zu zv zl h
      cases h
    | succ n ih =>
      intro l7 l9 l11 zx zy zi zu zv zl h H locs hP hD hS ls hl
      rw [fX4_holdsAll_124] at h
      refine lv_iload hx hb dX4_holdsAll_124 (lv_at hl 7 rfl) ?_
      refine lv_iload_n hx hb dX4_holdsAll_126 rfl (lv_at hl 2 rfl) ?_
      refine lv_icmp_ge (tgt := 169) hx hb dX4_holdsAll_127 (by decide) (fun c19 => ?_) (fun c19 => ?_)
      · have h := ite_t c19 h
        refine lv_aload_n hx hb dX4_holdsAll_169 rfl (lv_at hl 0 rfl) ?_
        refine lv_iload hx hb dX4_holdsAll_170 (lv_at hl 4 rfl) ?_
        obtain ⟨⟨o20, o21, o22, o23, o24, o25⟩, h26, h⟩ := bind_s h
        try dsimp only at h
        refine kE (wc := [(mo, .inr (4, [.long zp, .long zr, .long zh, .ref a1, .ref a2, .ref a3, .ref a4, .ref a5, .long zx, .long zy, .int (bI zi), .long zu, .long zv, .int zl])), (a1, .inl (cJ, 16, .inr (.inl zpx))), (a2, .inl (cJ, 16, .inr (.inl zpy))), (a3, .inl (cZ, 16, .inl (fun i => bI (zip i)))), (a4, .inl (cJ, 8, .inr (.inl zvu))), (a5, .inl (cJ, 8, .inr (.inl zvv)))]) (wr := []) [0, 1, 2, 3, 4, 5] [] hP hD hS hA rfl rfl rfl (by decide) rfl (eV (As := [.int l5]) (rest := []) C0 (kX4_pairWithBase l D cJ cZ mo a1 a2 a3 a4 a5 N zp zr zh zx zy zi zu zv zl zpx zpy zip zvu zvv l5 H.size o20 o21 o22 o23 o24 o25 h26) gX4_holdsAll_X4_pairWithBase rfl ⟨rfl, rfl⟩ hdX4_pairWithBase ⟨Nat.le_of_ble_eq_true rfl, Nat.le_of_ble_eq_true rfl⟩ 4 0 rfl rfl rfl hP hD hE hl rfl rfl (Nat.le_of_ble_eq_true rfl) dX4_holdsAll_172 ⟨Nat.zero_le _, Nat.zero_le _⟩) (fun H locs hP hD hS => ?_)
        have hP : va_P D vwCl [(mo, .inr (4, [.long zp, .long zr, .long zh, .ref a1, .ref a2, .ref a3, .ref a4, .ref a5, .long o20, .long o21, .int (bI o22), .long o23, .long o24, .int o25])), (a1, .inl (cJ, 16, .inr (.inl zpx))), (a2, .inl (cJ, 16, .inr (.inl zpy))), (a3, .inl (cZ, 16, .inl (fun i => bI (zip i)))), (a4, .inl (cJ, 8, .inr (.inl zvu))), (a5, .inl (cJ, 8, .inr (.inl zvv)))] H := hP
        have hD : va_D A [(mo, .inr (4, [.long zp, .long zr, .long zh, .ref a1, .ref a2, .ref a3, .ref a4, .ref a5, .long o20, .long o21, .int (bI o22), .long o23, .long o24, .int o25])), (a1, .inl (cJ, 16, .inr (.inl zpx))), (a2, .inl (cJ, 16, .inr (.inl zpy))), (a3, .inl (cZ, 16, .inl (fun i => bI (zip i)))), (a4, .inl (cJ, 8, .inr (.inl zvu))), (a5, .inl (cJ, 8, .inr (.inl zvv)))] := hD
        refine lv_aload_n hx hb dX4_holdsAll_175 rfl (lv_at hl 0 rfl) ?_
        refine va_get (D := D) (ci := 4) (v := .long o23) (C := RX4) (T := TX4) (N := 14) hx hb hts iwX4_holdsAll_4 hown hE.1 hP 0 rfl rfl 11 (by decide) (hts _ lkX4_holdsAll_2) (fun _ h9 => h9) rfl dX4_holdsAll_176 ?_
        refine lv_lload hx hb dX4_holdsAll_179 (lv_at hl 5 rfl) ?_
        refine lc_ne (tgt := 199) hx hb dX4_holdsAll_181 dX4_holdsAll_182 (by decide) (fun c27 => ?_) (fun c27 => ?_)
        · have h := ite_f c27 h
          refine lv_iconst (v := 0) hx hb dX4_holdsAll_199 (by decide) ?_
          cases h
          exact rfI hx hb hr hlocks hP hD hS dX4_holdsAll_200
        · have h := ite_t c27 h
          refine lv_aload_n hx hb dX4_holdsAll_185 rfl (lv_at hl 0 rfl) ?_
          refine va_get (D := D) (ci := 4) (v := .long o24) (C := RX4) (T := TX4) (N := 14) hx hb hts iwX4_holdsAll_4 hown hE.1 hP 0 rfl rfl 12 (by decide) (hts _ lkX4_holdsAll_3) (fun _ h9 => h9) rfl dX4_holdsAll_186 ?_
          refine lv_lload hx hb dX4_holdsAll_189 (lv_at hl 6 rfl) ?_
          refine lc_ne (tgt := 199) hx hb dX4_holdsAll_191 dX4_holdsAll_192 (by decide) (fun c28 => ?_) (fun c28 => ?_)
          · have h := ite_f c28 h
            refine lv_iconst (v := 0) hx hb dX4_holdsAll_199 (by decide) ?_
            cases h
            exact rfI hx hb hr hlocks hP hD hS dX4_holdsAll_200
          · have h := ite_t c28 h
            refine lv_iconst (v := 1) hx hb dX4_holdsAll_195 (by decide) ?_
            refine lv_goto (tgt := 200) hx hb dX4_holdsAll_196 (by decide) ?_
            cases h
            exact rfI hx hb hr hlocks hP hD hS dX4_holdsAll_200
      · have h := ite_f c19 h
        refine lv_aload_n hx hb dX4_holdsAll_130 rfl (lv_at hl 0 rfl) ?_
        refine lv_lload_n hx hb dX4_holdsAll_131 rfl (lv_at hl 3 rfl) ?_
        refine lv_iload hx hb dX4_holdsAll_132 (lv_at hl 7 rfl) ?_
        refine lv_i2l (v := l11.toInt64) hx hb dX4_holdsAll_134 rfl ?_
        refine lv_ladd hx hb dX4_holdsAll_135 ?_
        refine lv_iload_n hx hb dX4_holdsAll_136 rfl (lv_at hl 1 rfl) ?_
        refine lv_iload hx hb dX4_holdsAll_137 (lv_at hl 7 rfl) ?_
        refine lv_iadd hx hb dX4_holdsAll_139 ?_
        obtain ⟨⟨o29, o30, o31, o32, o33, o34⟩, h35, h⟩ := bind_s h
        try dsimp only at h
        refine kE (wc := [(mo, .inr (4, [.long zp, .long zr, .long zh, .ref a1, .ref a2, .ref a3, .ref a4, .ref a5, .long zx, .long zy, .int (bI zi), .long zu, .long zv, .int zl])), (a1, .inl (cJ, 16, .inr (.inl zpx))), (a2, .inl (cJ, 16, .inr (.inl zpy))), (a3, .inl (cZ, 16, .inl (fun i => bI (zip i)))), (a4, .inl (cJ, 8, .inr (.inl zvu))), (a5, .inl (cJ, 8, .inr (.inl zvv)))]) (wr := []) [0, 1, 2, 3, 4, 5] [] hP hD hS hA rfl rfl rfl (by decide) rfl (eV (As := [.long (l3 + l11.toInt64), .int (l1 + l11)]) (rest := []) C0 (kX4_pairTurned l D cJ cZ mo a1 a2 a3 a4 a5 N zp zr zh zx zy zi zu zv zl zpx zpy zip zvu zvv (l3 + l11.toInt64) (l1 + l11) H.size o29 o30 o31 o32 o33 o34 h35) gX4_holdsAll_X4_pairTurned rfl ⟨rfl, rfl⟩ hdX4_pairTurned ⟨Nat.le_of_ble_eq_true rfl, Nat.le_of_ble_eq_true rfl⟩ 4 0 rfl rfl rfl hP hD hE hl rfl rfl (Nat.le_of_ble_eq_true rfl) dX4_holdsAll_140 ⟨Nat.zero_le _, Nat.zero_le _⟩) (fun H locs hP hD hS => ?_)
        have hP : va_P D vwCl [(mo, .inr (4, [.long zp, .long zr, .long zh, .ref a1, .ref a2, .ref a3, .ref a4, .ref a5, .long o29, .long o30, .int (bI o31), .long o32, .long o33, .int o34])), (a1, .inl (cJ, 16, .inr (.inl zpx))), (a2, .inl (cJ, 16, .inr (.inl zpy))), (a3, .inl (cZ, 16, .inl (fun i => bI (zip i)))), (a4, .inl (cJ, 8, .inr (.inl zvu))), (a5, .inl (cJ, 8, .inr (.inl zvv)))] H := hP
        have hD : va_D A [(mo, .inr (4, [.long zp, .long zr, .long zh, .ref a1, .ref a2, .ref a3, .ref a4, .ref a5, .long o29, .long o30, .int (bI o31), .long o32, .long o33, .int o34])), (a1, .inl (cJ, 16, .inr (.inl zpx))), (a2, .inl (cJ, 16, .inr (.inl zpy))), (a3, .inl (cZ, 16, .inl (fun i => bI (zip i)))), (a4, .inl (cJ, 8, .inr (.inl zvu))), (a5, .inl (cJ, 8, .inr (.inl zvv)))] := hD
        refine lv_aload_n hx hb dX4_holdsAll_143 rfl (lv_at hl 0 rfl) ?_
        refine lv_lload hx hb dX4_holdsAll_144 (lv_at hl 5 rfl) ?_
        refine lv_lload hx hb dX4_holdsAll_146 (lv_at hl 6 rfl) ?_
        obtain ⟨⟨o36, o37⟩, h38, h⟩ := bind_s h
        try dsimp only at h
        refine kE (wc := [(mo, .inr (4, [.long zp, .long zr, .long zh, .ref a1, .ref a2, .ref a3, .ref a4, .ref a5, .long o29, .long o30, .int (bI o31), .long o32, .long o33, .int o34])), (a1, .inl (cJ, 16, .inr (.inl zpx))), (a2, .inl (cJ, 16, .inr (.inl zpy))), (a3, .inl (cZ, 16, .inl (fun i => bI (zip i)))), (a4, .inl (cJ, 8, .inr (.inl zvu))), (a5, .inl (cJ, 8, .inr (.inl zvv)))]) (wr := []) [0, 1, 2, 3, 4, 5] [] hP hD hS hA rfl rfl rfl (by decide) rfl (eV (As := [.long l7, .long l9]) (rest := []) C0 (kX4_multiply2 l D cJ cZ mo a1 a2 a3 a4 a5 zp zr zh o29 o30 o31 o32 o33 o34 zpx zpy zip zvu zvv l7 l9 H.size o36 o37 h38) gX4_holdsAll_X4_multiply2 rfl ⟨rfl, rfl⟩ hdX4_multiply2 ⟨Nat.le_of_ble_eq_true rfl, Nat.le_of_ble_eq_true rfl⟩ 4 0 rfl rfl rfl hP hD hE hl rfl rfl (Nat.le_of_ble_eq_true rfl) dX4_holdsAll_148 ⟨Nat.zero_le _, Nat.zero_le _⟩) (fun H locs hP hD hS => ?_)
        have hP : va_P D vwCl [(mo, .inr (4, [.long zp, .long zr, .long zh, .ref a1, .ref a2, .ref a3, .ref a4, .ref a5, .long o29, .long o30, .int (bI o31), .long o36, .long o37, .int o34])), (a1, .inl (cJ, 16, .inr (.inl zpx))), (a2, .inl (cJ, 16, .inr (.inl zpy))), (a3, .inl (cZ, 16, .inl (fun i => bI (zip i)))), (a4, .inl (cJ, 8, .inr (.inl zvu))), (a5, .inl (cJ, 8, .inr (.inl zvv)))] H := hP
        have hD : va_D A [(mo, .inr (4, [.long zp, .long zr, .long zh, .ref a1, .ref a2, .ref a3, .ref a4, .ref a5, .long o29, .long o30, .int (bI o31), .long o36, .long o37, .int o34])), (a1, .inl (cJ, 16, .inr (.inl zpx))), (a2, .inl (cJ, 16, .inr (.inl zpy))), (a3, .inl (cZ, 16, .inl (fun i => bI (zip i)))), (a4, .inl (cJ, 8, .inr (.inl zvu))), (a5, .inl (cJ, 8, .inr (.inl zvv)))] := hD
        refine lv_aload_n hx hb dX4_holdsAll_151 rfl (lv_at hl 0 rfl) ?_
        refine va_get (D := D) (ci := 4) (v := .long o36) (C := RX4) (T := TX4) (N := 14) hx hb hts iwX4_holdsAll_4 hown hE.1 hP 0 rfl rfl 11 (by decide) (hts _ lkX4_holdsAll_2) (fun _ h9 => h9) rfl dX4_holdsAll_152 ?_
        refine lv_lstore (lv' := [(7, .long o36), (0, .ref mo), (1, .int l1), (2, .int l2), (3, .long l3), (5, .int l5), (9, .long l9), (11, .int l11)]) hx hb dX4_holdsAll_155 hl (by decide) rfl (fun ls hl => ?_)
        refine lv_aload_n hx hb dX4_holdsAll_157 rfl (lv_at hl 1 rfl) ?_
        refine va_get (D := D) (ci := 4) (v := .long o37) (C := RX4) (T := TX4) (N := 14) hx hb hts iwX4_holdsAll_4 hown hE.1 hP 0 rfl rfl 12 (by decide) (hts _ lkX4_holdsAll_3) (fun _ h9 => h9) rfl dX4_holdsAll_158 ?_
        refine lv_lstore (lv' := [(9, .long o37), (7, .long o36), (0, .ref mo), (1, .int l1), (2, .int l2), (3, .long l3), (5, .int l5), (11, .int l11)]) hx hb dX4_holdsAll_161 hl (by decide) rfl (fun ls hl => ?_)
        obtain ⟨w39, ew39, h⟩ := bnd_s h
        refine lv_iinc (v := w39) (lv' := [(11, .int w39), (9, .long o37), (7, .long o36), (0, .ref mo), (1, .int l1), (2, .int l2), (3, .long l3), (5, .int l5)]) hx hb dX4_holdsAll_163 hl (k := 7) rfl (by rw [ew39]; rfl) (by decide) rfl (fun ls hl => ?_)
        refine lv_goto (tgt := 124) hx hb dX4_holdsAll_166 (by decide) ?_
        exact ih o36 o37 w39 o29 o30 o31 o36 o37 o34 h H locs hP hD hS ls (lv_sub hl [3, 4, 5, 6, 7, 2, 1, 0] rfl)
  have loop61 : ∀ (l1 : Int32) (l2 : Int32) (l3 : Int64) (l5 : Int32), ∀ (n : Nat) (l6 : Bool) (l7 : Int32) (zx : Int64) (zy : Int64) (zi : Bool) (zu : Int64) (zv : Int64) (zl : Int32), fX4_holdsAll_61 N zp zr zh zpx zpy zip l1 l2 l3 l5 n l6 l7 zx zy zi zu zv zl = some (rr, ozx, ozy, ozi, ozu, ozv, ozl) → ∀ (H : Heap) (locs : List Loc), va_P D vwCl [(mo, .inr (4, [.long zp, .long zr, .long zh, .ref a1, .ref a2, .ref a3, .ref a4, .ref a5, .long zx, .long zy, .int (bI zi), .long zu, .long zv, .int zl])), (a1, .inl (cJ, 16, .inr (.inl zpx))), (a2, .inl (cJ, 16, .inr (.inl zpy))), (a3, .inl (cZ, 16, .inl (fun i => bI (zip i)))), (a4, .inl (cJ, 8, .inr (.inl zvu))), (a5, .inl (cJ, 8, .inr (.inl zvv)))] H → va_D A [(mo, .inr (4, [.long zp, .long zr, .long zh, .ref a1, .ref a2, .ref a3, .ref a4, .ref a5, .long zx, .long zy, .int (bI zi), .long zu, .long zv, .int zl])), (a1, .inl (cJ, 16, .inr (.inl zpx))), (a2, .inl (cJ, 16, .inr (.inl zpy))), (a3, .inl (cZ, 16, .inl (fun i => bI (zip i)))), (a4, .inl (cJ, 8, .inr (.inl zvu))), (a5, .inl (cJ, 8, .inr (.inl zvv)))] → va_S A s.heap H locs → ∀ ls : Array Slot, lv_has ls 12 [(0, .ref mo), (1, .int l1), (2, .int l2), (3, .long l3), (5, .int l5), (6, .int (bI l6)), (7, .int l7)] → W pg l e (headSpec wsX4_holdsAll rmX4_holdsAll).room s m ([.ref mo, .int q0, .int q1, .long q2, .int q3] : List Value).toArray below meth c H locs 0 0 (MQ below (QE D (some (.int rr)) [(mo, .inr (4, [.long zp, .long zr, .long zh, .ref a1, .ref a2, .ref a3, .ref a4, .ref a5, .long ozx, .long ozy, .int (bI ozi), .long ozu, .long ozv, .int ozl])), (a1, .inl (cJ, 16, .inr (.inl zpx))), (a2, .inl (cJ, 16, .inr (.inl zpy))), (a3, .inl (cZ, 16, .inl (fun i => bI (zip i)))), (a4, .inl (cJ, 8, .inr (.inl zvu))), (a5, .inl (cJ, 8, .inr (.inl zvv)))] A) ([.ref mo, .int q0, .int q1, .long q2, .int q3] : List Value).toArray s 0 0 A) (F0 m 61 ls []) := by
    intro l1 l2 l3 l5
    intro n
    induction n with
    | zero =>
      intro l6 l7 zx zy zi zu zv zl h
      cases h
    | succ n ih =>
      intro l6 l7 zx zy zi zu zv zl h H locs hP hD hS ls hl
      rw [fX4_holdsAll_61] at h
      refine lv_iload hx hb dX4_holdsAll_61 (lv_at hl 6 rfl) ?_
      refine lv_iload_n hx hb dX4_holdsAll_63 rfl (lv_at hl 2 rfl) ?_
      refine lv_icmp_ge (tgt := 108) hx hb dX4_holdsAll_64 (by decide) (fun c17 => ?_) (fun c17 => ?_)
      · have h := ite_t c17 h
        refine lv_iload hx hb dX4_holdsAll_108 (lv_at hl 5 rfl) ?_
        refine lv_if_ne (tgt := 115) hx hb dX4_holdsAll_110 (by decide) (fun c18 => ?_) (fun c18 => ?_)
        · have h := ite_f c18 h
          refine lv_lconst (v := 1) hx hb dX4_holdsAll_115 (by decide) ?_
          refine lv_lstore (lv' := [(7, .long 1), (0, .ref mo), (1, .int l1), (2, .int l2), (3, .long l3), (5, .int l5), (6, .int (bI l6))]) hx hb dX4_holdsAll_116 hl (by decide) rfl (fun ls hl => ?_)
          refine lv_lconst (v := 0) hx hb dX4_holdsAll_118 (by decide) ?_
          refine lv_lstore (lv' := [(9, .long 0), (7, .long 1), (0, .ref mo), (1, .int l1), (2, .int l2), (3, .long l3), (5, .int l5), (6, .int (bI l6))]) hx hb dX4_holdsAll_119 hl (by decide) rfl (fun ls hl => ?_)
          refine lv_iconst (v := 0) hx hb dX4_holdsAll_121 (by decide) ?_
          refine lv_istore (lv' := [(11, .int 0), (9, .long 0), (7, .long 1), (0, .ref mo), (1, .int l1), (2, .int l2), (3, .long l3), (5, .int l5), (6, .int (bI l6))]) hx hb dX4_holdsAll_122 hl (by decide) rfl (fun ls hl => ?_)
          exact loop124 l1 l2 l3 l5 N 1 0 0 zx zy zi zu zv zl h H locs hP hD hS ls (lv_sub hl [3, 4, 5, 6, 7, 2, 1, 0] rfl)
        · have h := ite_t c18 h
          refine lv_iconst (v := 0) hx hb dX4_holdsAll_113 (by decide) ?_
          cases h
          exact rfI hx hb hr hlocks hP hD hS dX4_holdsAll_114
      · have h := ite_f c17 h
        refine lv_iload hx hb dX4_holdsAll_67 (lv_at hl 5 rfl) ?_
        refine lv_if_eq (tgt := 99) hx hb dX4_holdsAll_69 (by decide) (fun c40 => ?_) (fun c40 => ?_)
        · have h := ite_t c40 h
          refine lv_iconst (v := 0) hx hb dX4_holdsAll_99 (by decide) ?_
          refine lv_istore (lv' := [(6, .int 0), (0, .ref mo), (1, .int l1), (2, .int l2), (3, .long l3), (5, .int l5), (7, .int l7)]) hx hb dX4_holdsAll_100 hl (by decide) rfl (fun ls hl => ?_)
          obtain ⟨w41, ew41, h⟩ := bnd_s h
          refine lv_iinc (v := w41) (lv' := [(7, .int w41), (6, .int 0), (0, .ref mo), (1, .int l1), (2, .int l2), (3, .long l3), (5, .int l5)]) hx hb dX4_holdsAll_102 hl (k := 6) rfl (by rw [ew41]; rfl) (by decide) rfl (fun ls hl => ?_)
          refine lv_goto (tgt := 61) hx hb dX4_holdsAll_105 (by decide) ?_
          exact ih false w41 zx zy zi zu zv zl h H locs hP hD hS ls (lv_sub hl [2, 3, 4, 5, 6, 1, 0] rfl)
        · have h := ite_f c40 h
          refine lv_aload_n hx hb dX4_holdsAll_72 rfl (lv_at hl 0 rfl) ?_
          refine lv_iload_n hx hb dX4_holdsAll_73 rfl (lv_at hl 1 rfl) ?_
          refine lv_iload hx hb dX4_holdsAll_74 (lv_at hl 6 rfl) ?_
          refine lv_iadd hx hb dX4_holdsAll_76 ?_
          obtain ⟨⟨r42, o43, o44, o45⟩, h46, h⟩ := bind_s h
          try dsimp only at h
          refine kE (wc := [(mo, .inr (4, [.long zp, .long zr, .long zh, .ref a1, .ref a2, .ref a3, .ref a4, .ref a5, .long zx, .long zy, .int (bI zi), .long zu, .long zv, .int zl])), (a1, .inl (cJ, 16, .inr (.inl zpx))), (a2, .inl (cJ, 16, .inr (.inl zpy))), (a3, .inl (cZ, 16, .inl (fun i => bI (zip i)))), (a4, .inl (cJ, 8, .inr (.inl zvu))), (a5, .inl (cJ, 8, .inr (.inl zvv)))]) (wr := []) [0, 1, 2, 3, 4, 5] [] hP hD hS hA rfl rfl rfl (by decide) rfl (eV (As := [.int (l1 + l7)]) (rest := []) C0 (kX4_isOfR l D cJ cZ mo a1 a2 a3 a4 a5 N zp zr zh zx zy zi zu zv zl zpx zpy zip zvu zvv (l1 + l7) H.size r42 o43 o44 o45 h46) gX4_holdsAll_X4_isOfR rfl ⟨rfl, rfl⟩ hdX4_isOfR ⟨Nat.le_of_ble_eq_true rfl, Nat.le_of_ble_eq_true rfl⟩ 4 0 rfl rfl rfl hP hD hE hl rfl rfl (Nat.le_of_ble_eq_true rfl) dX4_holdsAll_77 ⟨Nat.zero_le _, Nat.zero_le _⟩) (fun H locs hP hD hS => ?_)
          have hP : va_P D vwCl [(mo, .inr (4, [.long zp, .long zr, .long zh, .ref a1, .ref a2, .ref a3, .ref a4, .ref a5, .long o43, .long o44, .int (bI o45), .long zu, .long zv, .int zl])), (a1, .inl (cJ, 16, .inr (.inl zpx))), (a2, .inl (cJ, 16, .inr (.inl zpy))), (a3, .inl (cZ, 16, .inl (fun i => bI (zip i)))), (a4, .inl (cJ, 8, .inr (.inl zvu))), (a5, .inl (cJ, 8, .inr (.inl zvv)))] H := hP
          have hD : va_D A [(mo, .inr (4, [.long zp, .long zr, .long zh, .ref a1, .ref a2, .ref a3, .ref a4, .ref a5, .long o43, .long o44, .int (bI o45), .long zu, .long zv, .int zl])), (a1, .inl (cJ, 16, .inr (.inl zpx))), (a2, .inl (cJ, 16, .inr (.inl zpy))), (a3, .inl (cZ, 16, .inl (fun i => bI (zip i)))), (a4, .inl (cJ, 8, .inr (.inl zvu))), (a5, .inl (cJ, 8, .inr (.inl zvv)))] := hD
          refine lv_if_eq (tgt := 99) hx hb dX4_holdsAll_80 (by decide) (fun c47 => ?_) (fun c47 => ?_)
          · have h := ite_t c47 h
            refine lv_iconst (v := 0) hx hb dX4_holdsAll_99 (by decide) ?_
            refine lv_istore (lv' := [(6, .int 0), (0, .ref mo), (1, .int l1), (2, .int l2), (3, .long l3), (5, .int l5), (7, .int l7)]) hx hb dX4_holdsAll_100 hl (by decide) rfl (fun ls hl => ?_)
            obtain ⟨w48, ew48, h⟩ := bnd_s h
            refine lv_iinc (v := w48) (lv' := [(7, .int w48), (6, .int 0), (0, .ref mo), (1, .int l1), (2, .int l2), (3, .long l3), (5, .int l5)]) hx hb dX4_holdsAll_102 hl (k := 6) rfl (by rw [ew48]; rfl) (by decide) rfl (fun ls hl => ?_)
            refine lv_goto (tgt := 61) hx hb dX4_holdsAll_105 (by decide) ?_
            exact ih false w48 o43 o44 o45 zu zv zl h H locs hP hD hS ls (lv_sub hl [2, 3, 4, 5, 6, 1, 0] rfl)
          · have h := ite_f c47 h
            refine lv_aload_n hx hb dX4_holdsAll_83 rfl (lv_at hl 0 rfl) ?_
            refine va_get (D := D) (ci := 4) (v := .ref a3) (C := RX4) (T := TX4) (N := 14) hx hb hts iwX4_holdsAll_4 hown hE.1 hP 0 rfl rfl 5 (by decide) (hts _ lkX4_holdsAll_4) (fun _ h9 => h9) rfl dX4_holdsAll_84 ?_
            refine lv_iload_n hx hb dX4_holdsAll_87 rfl (lv_at hl 1 rfl) ?_
            refine lv_iload hx hb dX4_holdsAll_88 (lv_at hl 6 rfl) ?_
            refine lv_iadd hx hb dX4_holdsAll_90 ?_
            obtain ⟨c49, h⟩ := ite_n h
            refine va_zald hx hb hE.1 hP 3 1 rfl rfl c49 dX4_holdsAll_91 ?_
            refine lv_if_eq (tgt := 99) hx hb dX4_holdsAll_92 (by decide) (fun c50 => ?_) (fun c50 => ?_)
            · have h := ite_t c50 h
              refine lv_iconst (v := 0) hx hb dX4_holdsAll_99 (by decide) ?_
              refine lv_istore (lv' := [(6, .int 0), (0, .ref mo), (1, .int l1), (2, .int l2), (3, .long l3), (5, .int l5), (7, .int l7)]) hx hb dX4_holdsAll_100 hl (by decide) rfl (fun ls hl => ?_)
              obtain ⟨w51, ew51, h⟩ := bnd_s h
              refine lv_iinc (v := w51) (lv' := [(7, .int w51), (6, .int 0), (0, .ref mo), (1, .int l1), (2, .int l2), (3, .long l3), (5, .int l5)]) hx hb dX4_holdsAll_102 hl (k := 6) rfl (by rw [ew51]; rfl) (by decide) rfl (fun ls hl => ?_)
              refine lv_goto (tgt := 61) hx hb dX4_holdsAll_105 (by decide) ?_
              exact ih false w51 o43 o44 o45 zu zv zl h H locs hP hD hS ls (lv_sub hl [2, 3, 4, 5, 6, 1, 0] rfl)
            · have h := ite_f c50 h
              refine lv_iconst (v := 1) hx hb dX4_holdsAll_95 (by decide) ?_
              refine lv_goto (tgt := 100) hx hb dX4_holdsAll_96 (by decide) ?_
              refine lv_istore (lv' := [(6, .int 1), (0, .ref mo), (1, .int l1), (2, .int l2), (3, .long l3), (5, .int l5), (7, .int l7)]) hx hb dX4_holdsAll_100 hl (by decide) rfl (fun ls hl => ?_)
              obtain ⟨w52, ew52, h⟩ := bnd_s h
              refine lv_iinc (v := w52) (lv' := [(7, .int w52), (6, .int 1), (0, .ref mo), (1, .int l1), (2, .int l2), (3, .long l3), (5, .int l5)]) hx hb dX4_holdsAll_102 hl (k := 6) rfl (by rw [ew52]; rfl) (by decide) rfl (fun ls hl => ?_)
              refine lv_goto (tgt := 61) hx hb dX4_holdsAll_105 (by decide) ?_
              exact ih true w52 o43 o44 o45 zu zv zl h H locs hP hD hS ls (lv_sub hl [2, 3, 4, 5, 6, 1, 0] rfl)
  suffices key : ∀ (H : Heap) (locs : List Loc), va_P D vwCl [(mo, .inr (4, [.long zp, .long zr, .long zh, .ref a1, .ref a2, .ref a3, .ref a4, .ref a5, .long zx, .long zy, .int (bI zi), .long zu, .long zv, .int zl])), (a1, .inl (cJ, 16, .inr (.inl zpx))), (a2, .inl (cJ, 16, .inr (.inl zpy))), (a3, .inl (cZ, 16, .inl (fun i => bI (zip i)))), (a4, .inl (cJ, 8, .inr (.inl zvu))), (a5, .inl (cJ, 8, .inr (.inl zvv)))] H → va_D A [(mo, .inr (4, [.long zp, .long zr, .long zh, .ref a1, .ref a2, .ref a3, .ref a4, .ref a5, .long zx, .long zy, .int (bI zi), .long zu, .long zv, .int zl])), (a1, .inl (cJ, 16, .inr (.inl zpx))), (a2, .inl (cJ, 16, .inr (.inl zpy))), (a3, .inl (cZ, 16, .inl (fun i => bI (zip i)))), (a4, .inl (cJ, 8, .inr (.inl zvu))), (a5, .inl (cJ, 8, .inr (.inl zvv)))] → va_S A s.heap H locs → W pg l e (headSpec wsX4_holdsAll rmX4_holdsAll).room s m ([.ref mo, .int q0, .int q1, .long q2, .int q3] : List Value).toArray below meth c H locs 0 0 (MQ below (QE D (some (.int rr)) [(mo, .inr (4, [.long zp, .long zr, .long zh, .ref a1, .ref a2, .ref a3, .ref a4, .ref a5, .long ozx, .long ozy, .int (bI ozi), .long ozu, .long ozv, .int ozl])), (a1, .inl (cJ, 16, .inr (.inl zpx))), (a2, .inl (cJ, 16, .inr (.inl zpy))), (a3, .inl (cZ, 16, .inl (fun i => bI (zip i)))), (a4, .inl (cJ, 8, .inr (.inl zvu))), (a5, .inl (cJ, 8, .inr (.inl zvv)))] A) ([.ref mo, .int q0, .int q1, .long q2, .int q3] : List Value).toArray s 0 0 A) (F0 m 0 ls []) from key s.heap [] hP hD hS
  intro H locs hP hD hS
  unfold fX4_holdsAll at h
  refine lv_aload_n hx hb dX4_holdsAll_0 rfl (lv_at hl 0 rfl) ?_
  refine va_get (D := D) (ci := 4) (v := .long zp) (C := RX4) (T := TX4) (N := 14) hx hb hts iwX4_holdsAll_4 hown hE.1 hP 0 rfl rfl 0 (by decide) (hts _ lkX4_holdsAll_0) (fun _ h9 => h9) rfl dX4_holdsAll_1 ?_
  refine lv_lconst (v := 0) hx hb dX4_holdsAll_4 (by decide) ?_
  refine lc_ne (tgt := 12) hx hb dX4_holdsAll_5 dX4_holdsAll_6 (by decide) (fun c1 => ?_) (fun c1 => ?_)
  · have h := ite_f c1 h
    refine lv_iload_n hx hb dX4_holdsAll_12 rfl (lv_at hl 1 rfl) ?_
    obtain ⟨r2, h3, h⟩ := bind_s h
    refine ki (kS (As := [.int q0]) (rest := []) C0 (kX4_isSlot l D cJ cZ q0 r2 h3) gX4_holdsAll_X4_isSlot rfl ⟨rfl, rfl⟩ hdX4_isSlot ⟨Nat.le_of_ble_eq_true rfl, Nat.le_of_ble_eq_true rfl⟩ (hP.sub [] rfl) hE hl rfl rfl (Nat.le_of_ble_eq_true rfl) dX4_holdsAll_13 (Nat.zero_le _) (Nat.zero_le _)) ?_
    refine lv_if_eq (tgt := 47) hx hb dX4_holdsAll_16 (by decide) (fun c4 => ?_) (fun c4 => ?_)
    · have h := ite_t c4 h
      refine lv_bipush (v := (-2)) hx hb dX4_holdsAll_47 (by decide) ?_
      cases h
      exact rfI hx hb hr hlocks hP hD hS dX4_holdsAll_49
    · have h := ite_f c4 h
      refine lv_iload_n hx hb dX4_holdsAll_19 rfl (lv_at hl 2 rfl) ?_
      refine lv_i2l (v := q1.toInt64) hx hb dX4_holdsAll_20 rfl ?_
      refine lv_lconst (v := 1) hx hb dX4_holdsAll_21 (by decide) ?_
      refine lv_ldc2 (v := 8) hx hb hown (hts _ lkX4_holdsAll_1) dX4_holdsAll_22 ?_
      obtain ⟨r5, h6, h⟩ := bind_s h
      refine ki (kS (As := [.long q1.toInt64, .long 1, .long 8]) (rest := []) C0 (kX4_in l D cJ cZ q1.toInt64 1 8 r5 h6) gX4_holdsAll_X4_in rfl ⟨rfl, rfl⟩ hdX4_in ⟨Nat.le_of_ble_eq_true rfl, Nat.le_of_ble_eq_true rfl⟩ (hP.sub [] rfl) hE hl rfl rfl (Nat.le_of_ble_eq_true rfl) dX4_holdsAll_25 (Nat.zero_le _) (Nat.zero_le _)) ?_
      refine lv_if_eq (tgt := 47) hx hb dX4_holdsAll_28 (by decide) (fun c7 => ?_) (fun c7 => ?_)
      · have h := ite_t c7 h
        refine lv_bipush (v := (-2)) hx hb dX4_holdsAll_47 (by decide) ?_
        cases h
        exact rfI hx hb hr hlocks hP hD hS dX4_holdsAll_49
      · have h := ite_f c7 h
        refine lv_iload_n hx hb dX4_holdsAll_31 rfl (lv_at hl 1 rfl) ?_
        refine lv_iload_n hx hb dX4_holdsAll_32 rfl (lv_at hl 2 rfl) ?_
        refine lv_iadd hx hb dX4_holdsAll_33 ?_
        refine lv_bipush (v := 16) hx hb dX4_holdsAll_34 (by decide) ?_
        refine lv_icmp_gt (tgt := 47) hx hb dX4_holdsAll_36 (by decide) (fun c8 => ?_) (fun c8 => ?_)
        · have h := ite_t c8 h
          refine lv_bipush (v := (-2)) hx hb dX4_holdsAll_47 (by decide) ?_
          cases h
          exact rfI hx hb hr hlocks hP hD hS dX4_holdsAll_49
        · have h := ite_f c8 h
          refine lv_iload hx hb dX4_holdsAll_39 (lv_at hl 4 rfl) ?_
          obtain ⟨r9, h10, h⟩ := bind_s h
          refine ki (kS (As := [.int q3]) (rest := []) C0 (kX4_isSlot l D cJ cZ q3 r9 h10) gX4_holdsAll_X4_isSlot rfl ⟨rfl, rfl⟩ hdX4_isSlot ⟨Nat.le_of_ble_eq_true rfl, Nat.le_of_ble_eq_true rfl⟩ (hP.sub [] rfl) hE hl rfl rfl (Nat.le_of_ble_eq_true rfl) dX4_holdsAll_41 (Nat.zero_le _) (Nat.zero_le _)) ?_
          refine lv_if_ne (tgt := 50) hx hb dX4_holdsAll_44 (by decide) (fun c11 => ?_) (fun c11 => ?_)
          · have h := ite_f c11 h
            refine lv_aload_n hx hb dX4_holdsAll_50 rfl (lv_at hl 0 rfl) ?_
            refine lv_iload hx hb dX4_holdsAll_51 (lv_at hl 4 rfl) ?_
            obtain ⟨⟨r12, o13, o14, o15⟩, h16, h⟩ := bind_s h
            try dsimp only at h
            refine kE (wc := [(mo, .inr (4, [.long zp, .long zr, .long zh, .ref a1, .ref a2, .ref a3, .ref a4, .ref a5, .long zx, .long zy, .int (bI zi), .long zu, .long zv, .int zl])), (a1, .inl (cJ, 16, .inr (.inl zpx))), (a2, .inl (cJ, 16, .inr (.inl zpy))), (a3, .inl (cZ, 16, .inl (fun i => bI (zip i)))), (a4, .inl (cJ, 8, .inr (.inl zvu))), (a5, .inl (cJ, 8, .inr (.inl zvv)))]) (wr := []) [0, 1, 2, 3, 4, 5] [] hP hD hS hA rfl rfl rfl (by decide) rfl (eV (As := [.int q3]) (rest := []) C0 (kX4_isOfR l D cJ cZ mo a1 a2 a3 a4 a5 N zp zr zh zx zy zi zu zv zl zpx zpy zip zvu zvv q3 H.size r12 o13 o14 o15 h16) gX4_holdsAll_X4_isOfR rfl ⟨rfl, rfl⟩ hdX4_isOfR ⟨Nat.le_of_ble_eq_true rfl, Nat.le_of_ble_eq_true rfl⟩ 4 0 rfl rfl rfl hP hD hE hl rfl rfl (Nat.le_of_ble_eq_true rfl) dX4_holdsAll_53 ⟨Nat.zero_le _, Nat.zero_le _⟩) (fun H locs hP hD hS => ?_)
            have hP : va_P D vwCl [(mo, .inr (4, [.long zp, .long zr, .long zh, .ref a1, .ref a2, .ref a3, .ref a4, .ref a5, .long o13, .long o14, .int (bI o15), .long zu, .long zv, .int zl])), (a1, .inl (cJ, 16, .inr (.inl zpx))), (a2, .inl (cJ, 16, .inr (.inl zpy))), (a3, .inl (cZ, 16, .inl (fun i => bI (zip i)))), (a4, .inl (cJ, 8, .inr (.inl zvu))), (a5, .inl (cJ, 8, .inr (.inl zvv)))] H := hP
            have hD : va_D A [(mo, .inr (4, [.long zp, .long zr, .long zh, .ref a1, .ref a2, .ref a3, .ref a4, .ref a5, .long o13, .long o14, .int (bI o15), .long zu, .long zv, .int zl])), (a1, .inl (cJ, 16, .inr (.inl zpx))), (a2, .inl (cJ, 16, .inr (.inl zpy))), (a3, .inl (cZ, 16, .inl (fun i => bI (zip i)))), (a4, .inl (cJ, 8, .inr (.inl zvu))), (a5, .inl (cJ, 8, .inr (.inl zvv)))] := hD
            refine lv_istore (lv' := [(6, .int (bI r12)), (0, .ref mo), (1, .int q0), (2, .int q1), (3, .long q2), (5, .int q3)]) hx hb dX4_holdsAll_56 hl (by decide) rfl (fun ls hl => ?_)
            refine lv_iconst (v := 0) hx hb dX4_holdsAll_58 (by decide) ?_
            refine lv_istore (lv' := [(7, .int 0), (6, .int (bI r12)), (0, .ref mo), (1, .int q0), (2, .int q1), (3, .long q2), (5, .int q3)]) hx hb dX4_holdsAll_59 hl (by decide) rfl (fun ls hl => ?_)
            exact loop61 q0 q1 q2 q3 N r12 0 o13 o14 o15 zu zv zl h H locs hP hD hS ls (lv_sub hl [2, 3, 4, 5, 6, 1, 0] rfl)
          · have h := ite_t c11 h
            refine lv_bipush (v := (-2)) hx hb dX4_holdsAll_47 (by decide) ?_
            cases h
            exact rfI hx hb hr hlocks hP hD hS dX4_holdsAll_49
  · have h := ite_t c1 h
    refine lv_bipush (v := (-3)) hx hb dX4_holdsAll_9 (by decide) ?_
    cases h
    exact rfI hx hb hr hlocks hP hD hS dX4_holdsAll_11
def fX4_digest_45 (N : Nat) (zp : Int64) (zpx : Nat → Int64) (zpy : Nat → Int64) (zip : Nat → Bool) (zvu : Nat → Int64) (zvv : Nat → Int64) : Nat → Int64 → Int32 → Option (Int64)
  | 0, _, _ => none
  | n + 1, l1, l3 =>
    if 8 ≤ l3 then
      some l1
    else
      if l3 < 0 ∨ 8 ≤ l3.toNatClampNeg then none else
      bnd ((31 * l1) + (zvu l3.toNatClampNeg)) fun w5 =>
      bnd ((31 * w5) + (zvv l3.toNatClampNeg)) fun w6 =>
      bnd (l3 + 1) fun w7 =>
      fX4_digest_45 N zp zpx zpy zip zvu zvv n w6 w7
def fX4_digest_19 (N : Nat) (zp : Int64) (zpx : Nat → Int64) (zpy : Nat → Int64) (zip : Nat → Bool) (zvu : Nat → Int64) (zvv : Nat → Int64) : Nat → Int64 → Int32 → Option (Int64)
  | 0, _, _ => none
  | n + 1, l1, l3 =>
    if 16 ≤ l3 then
      fX4_digest_45 N zp zpx zpy zip zvu zvv N l1 0
    else
      (fX4_written zpx zpy zip l3).bind fun r8 =>
      bnd ((31 * l1) + r8) fun w10 =>
      bnd (l3 + 1) fun w11 =>
      fX4_digest_19 N zp zpx zpy zip zvu zvv n w10 w11
def fX4_digest (N : Nat) (zp : Int64) (zpx : Nat → Int64) (zpy : Nat → Int64) (zip : Nat → Bool) (zvu : Nat → Int64) (zvv : Nat → Int64) : Option (Int64) :=
  if zp = 0 then
    some (-3)
  else
    fX4_digest_19 N zp zpx zpy zip zvu zvv N 17 0
abbrev rmX4_digest : Room := { frames := 1, cells := 0, slots := 0, locals := 21 }
theorem lkX4_digest_0 : (.fieldLink RX4 28 "PairingDeskModel" "p" "J" : Cond) ∈ wsX4_digest := by decide +kernel
theorem lkX4_digest_1 : (.constantLong RX4 162 (17) : Cond) ∈ wsX4_digest := by decide +kernel
theorem lkX4_digest_2 : (.constantLong RX4 164 (31) : Cond) ∈ wsX4_digest := by decide +kernel
theorem lkX4_digest_3 : (.fieldLink RX4 20 "PairingDeskModel" "vu" "[J" : Cond) ∈ wsX4_digest := by decide +kernel
theorem lkX4_digest_4 : (.fieldLink RX4 23 "PairingDeskModel" "vv" "[J" : Cond) ∈ wsX4_digest := by decide +kernel
theorem lkX4_digest_5 : (.constantLong RX4 108 (-3) : Cond) ∈ wsX4_digest := by decide +kernel
theorem iwX4_digest_4 : ∀ w ∈ wsX40, w ∈ wsX4_digest := by decide +kernel
theorem hdX4_digest : KN yX4_digest 0 := by decide +kernel
set_option maxHeartbeats 4000000 in
set_option maxRecDepth 100000 in
theorem kX4_digest (l : Launch) (D : va_G) (cJ cZ : ClassId) (mo a1 a2 a3 a4 a5 : Nat) (N : Nat) (zp : Int64) (zr : Int64) (zh : Int64) (zx : Int64) (zy : Int64) (zi : Bool) (zu : Int64) (zv : Int64) (zl : Int32) (zpx : Nat → Int64) (zpy : Nat → Int64) (zip : Nat → Bool) (zvu : Nat → Int64) (zvv : Nat → Int64) (rr : Int64) (h : fX4_digest N zp zpx zpy zip zvu zvv = some rr) : Met l yX4_digest wsX4_digest rmX4_digest (PP D cJ cZ [.ref mo] [(mo, .inr (4, [.long zp, .long zr, .long zh, .ref a1, .ref a2, .ref a3, .ref a4, .ref a5, .long zx, .long zy, .int (bI zi), .long zu, .long zv, .int zl])), (a1, .inl (cJ, 16, .inr (.inl zpx))), (a2, .inl (cJ, 16, .inr (.inl zpy))), (a3, .inl (cZ, 16, .inl (fun i => bI (zip i)))), (a4, .inl (cJ, 8, .inr (.inl zvu))), (a5, .inl (cJ, 8, .inr (.inl zvv)))]) (SL rr) 0 0 (fun _ => False) := by
  refine Met.ofW (cc := cX4_digest) (maxL := 4) (ret := some .long) (by decide) rfl ?_
  intro pg e s m args below meth c s₁ B hml hv
  obtain ⟨rfl, hP, hE⟩ := hv
  have hx := B.exec
  have hb := B.bytes
  have hr := B.returns
  have hlocks := B.notSynchronized
  have C0 : CallFix pg m c cX4_digest 4 s ([.ref mo] : List Value).toArray wsX4_digest RX4 := ⟨hx, hb, hml, findClass_of_methodNamed B.named, atoms_spec (ws := wsX4_digest) B.pre⟩
  have hown := C0.2.2.2.1
  have hts := C0.2.2.2.2
  have hl := lv_entry ([.ref mo]) (n := 4) (Nat.le_of_ble_eq_true rfl)
  rw [lg_entry_eq]
  generalize (lg_sl ([.ref mo]) ++ List.replicate (4 - (lg_sl ([.ref mo])).length) Slot.unset).toArray = ls at hl ⊢
  have hl : lv_has ls 4 [(0, .ref mo)] := hl
  have loop45 : ∀ (n : Nat) (l1 : Int64) (l3 : Int32), fX4_digest_45 N zp zpx zpy zip zvu zvv n l1 l3 = some rr → ∀ ls : Array Slot, lv_has ls 4 [(0, .ref mo), (1, .long l1), (3, .int l3)] → W pg l e (headSpec wsX4_digest rmX4_digest).room s m ([.ref mo] : List Value).toArray below meth c s.heap [] 0 0 (MQ below (SL rr) ([.ref mo] : List Value).toArray s 0 0 (fun _ => False)) (F0 m 45 ls []) := by
    intro n
    induction n with
    | zero =>
      intro l1 l3 h
      cases h
    | succ n ih =>
      intro l1 l3 h ls hl
      rw [fX4_digest_45] at h
      refine lv_iload_n hx hb dX4_digest_45 rfl (lv_at hl 2 rfl) ?_
      refine lv_bipush (v := 8) hx hb dX4_digest_46 (by decide) ?_
      refine lv_icmp_ge (tgt := 83) hx hb dX4_digest_48 (by decide) (fun c3 => ?_) (fun c3 => ?_)
      · have h := ite_t c3 h
        refine lv_lload_n hx hb dX4_digest_83 rfl (lv_at hl 1 rfl) ?_
        exact reL hx hb hr hlocks h dX4_digest_84
      · have h := ite_f c3 h
        refine lv_ldc2 (v := 31) hx hb hown (hts _ lkX4_digest_2) dX4_digest_51 ?_
        refine lv_lload_n hx hb dX4_digest_54 rfl (lv_at hl 1 rfl) ?_
        refine lv_lmul hx hb dX4_digest_55 ?_
        refine lv_aload_n hx hb dX4_digest_56 rfl (lv_at hl 0 rfl) ?_
        refine va_get (D := D) (ci := 4) (v := .ref a4) (C := RX4) (T := TX4) (N := 14) hx hb hts iwX4_digest_4 hown hE.1 hP 0 rfl rfl 6 (by decide) (hts _ lkX4_digest_3) (fun _ h9 => h9) rfl dX4_digest_57 ?_
        refine lv_iload_n hx hb dX4_digest_60 rfl (lv_at hl 2 rfl) ?_
        obtain ⟨c4, h⟩ := ite_n h
        refine va_lald hx hb hE.1 hP 4 0 rfl rfl c4 dX4_digest_61 ?_
        refine lv_ladd hx hb dX4_digest_62 ?_
        obtain ⟨w5, ew5, h⟩ := bnd_s h
        refine tl ew5.symm ?_
        refine lv_lstore_n (lv' := [(1, .long w5), (0, .ref mo), (3, .int l3)]) hx hb dX4_digest_63 rfl hl (by decide) rfl (fun ls hl => ?_)
        refine lv_ldc2 (v := 31) hx hb hown (hts _ lkX4_digest_2) dX4_digest_64 ?_
        refine lv_lload_n hx hb dX4_digest_67 rfl (lv_at hl 0 rfl) ?_
        refine lv_lmul hx hb dX4_digest_68 ?_
        refine lv_aload_n hx hb dX4_digest_69 rfl (lv_at hl 1 rfl) ?_
        refine va_get (D := D) (ci := 4) (v := .ref a5) (C := RX4) (T := TX4) (N := 14) hx hb hts iwX4_digest_4 hown hE.1 hP 0 rfl rfl 7 (by decide) (hts _ lkX4_digest_4) (fun _ h9 => h9) rfl dX4_digest_70 ?_
        refine lv_iload_n hx hb dX4_digest_73 rfl (lv_at hl 2 rfl) ?_
        refine va_lald hx hb hE.1 hP 5 0 rfl rfl c4 dX4_digest_74 ?_
        refine lv_ladd hx hb dX4_digest_75 ?_
        obtain ⟨w6, ew6, h⟩ := bnd_s h
        refine tl ew6.symm ?_
        refine lv_lstore_n (lv' := [(1, .long w6), (0, .ref mo), (3, .int l3)]) hx hb dX4_digest_76 rfl hl (by decide) rfl (fun ls hl => ?_)
        obtain ⟨w7, ew7, h⟩ := bnd_s h
        refine lv_iinc (v := w7) (lv' := [(3, .int w7), (1, .long w6), (0, .ref mo)]) hx hb dX4_digest_77 hl (k := 2) rfl (by rw [ew7]; rfl) (by decide) rfl (fun ls hl => ?_)
        refine lv_goto (tgt := 45) hx hb dX4_digest_80 (by decide) ?_
        exact ih w6 w7 h ls (lv_sub hl [2, 1, 0] rfl)
  have loop19 : ∀ (n : Nat) (l1 : Int64) (l3 : Int32), fX4_digest_19 N zp zpx zpy zip zvu zvv n l1 l3 = some rr → ∀ ls : Array Slot, lv_has ls 4 [(0, .ref mo), (1, .long l1), (3, .int l3)] → W pg l e (headSpec wsX4_digest rmX4_digest).room s m ([.ref mo] : List Value).toArray below meth c s.heap [] 0 0 (MQ below (SL rr) ([.ref mo] : List Value).toArray s 0 0 (fun _ => False)) (F0 m 19 ls []) := by
    intro n
    induction n with
    | zero =>
      intro l1 l3 h
      cases h
    | succ n ih =>
      intro l1 l3 h ls hl
      rw [fX4_digest_19] at h
      refine lv_iload_n hx hb dX4_digest_19 rfl (lv_at hl 2 rfl) ?_
      refine lv_bipush (v := 16) hx hb dX4_digest_20 (by decide) ?_
      refine lv_icmp_ge (tgt := 43) hx hb dX4_digest_22 (by decide) (fun c2 => ?_) (fun c2 => ?_)
      · have h := ite_t c2 h
        refine lv_iconst (v := 0) hx hb dX4_digest_43 (by decide) ?_
        refine lv_istore_n (lv' := [(3, .int 0), (0, .ref mo), (1, .long l1)]) hx hb dX4_digest_44 rfl hl (by decide) rfl (fun ls hl => ?_)
        exact loop45 N l1 0 h ls (lv_sub hl [1, 2, 0] rfl)
      · have h := ite_f c2 h
        refine lv_ldc2 (v := 31) hx hb hown (hts _ lkX4_digest_2) dX4_digest_25 ?_
        refine lv_lload_n hx hb dX4_digest_28 rfl (lv_at hl 1 rfl) ?_
        refine lv_lmul hx hb dX4_digest_29 ?_
        refine lv_aload_n hx hb dX4_digest_30 rfl (lv_at hl 0 rfl) ?_
        refine lv_iload_n hx hb dX4_digest_31 rfl (lv_at hl 2 rfl) ?_
        obtain ⟨r8, h9, h⟩ := bind_s h
        refine kl (kV (As := [.int l3]) (rest := [.long (31 * l1)]) C0 (kX4_written l D cJ cZ mo a1 a2 a3 a4 a5 zp zr zh zx zy zi zu zv zl zpx zpy zip zvu zvv l3 r8 h9) gX4_digest_X4_written rfl ⟨rfl, rfl⟩ hdX4_written ⟨Nat.le_of_ble_eq_true rfl, Nat.le_of_ble_eq_true rfl⟩ 4 0 rfl rfl rfl hP hE hl rfl rfl (Nat.le_of_ble_eq_true rfl) dX4_digest_32 (Nat.zero_le _) (Nat.zero_le _)) ?_
        refine lv_ladd hx hb dX4_digest_35 ?_
        obtain ⟨w10, ew10, h⟩ := bnd_s h
        refine tl ew10.symm ?_
        refine lv_lstore_n (lv' := [(1, .long w10), (0, .ref mo), (3, .int l3)]) hx hb dX4_digest_36 rfl hl (by decide) rfl (fun ls hl => ?_)
        obtain ⟨w11, ew11, h⟩ := bnd_s h
        refine lv_iinc (v := w11) (lv' := [(3, .int w11), (1, .long w10), (0, .ref mo)]) hx hb dX4_digest_37 hl (k := 2) rfl (by rw [ew11]; rfl) (by decide) rfl (fun ls hl => ?_)
        refine lv_goto (tgt := 19) hx hb dX4_digest_40 (by decide) ?_
        exact ih w10 w11 h ls (lv_sub hl [2, 1, 0] rfl)
  unfold fX4_digest at h
  refine lv_aload_n hx hb dX4_digest_0 rfl (lv_at hl 0 rfl) ?_
  refine va_get (D := D) (ci := 4) (v := .long zp) (C := RX4) (T := TX4) (N := 14) hx hb hts iwX4_digest_4 hown hE.1 hP 0 rfl rfl 0 (by decide) (hts _ lkX4_digest_0) (fun _ h9 => h9) rfl dX4_digest_1 ?_
  refine lv_lconst (v := 0) hx hb dX4_digest_4 (by decide) ?_
  refine lc_ne (tgt := 13) hx hb dX4_digest_5 dX4_digest_6 (by decide) (fun c1 => ?_) (fun c1 => ?_)
  · have h := ite_f c1 h
    refine lv_ldc2 (v := 17) hx hb hown (hts _ lkX4_digest_1) dX4_digest_13 ?_
    refine lv_lstore_n (lv' := [(1, .long 17), (0, .ref mo)]) hx hb dX4_digest_16 rfl hl (by decide) rfl (fun ls hl => ?_)
    refine lv_iconst (v := 0) hx hb dX4_digest_17 (by decide) ?_
    refine lv_istore_n (lv' := [(3, .int 0), (1, .long 17), (0, .ref mo)]) hx hb dX4_digest_18 rfl hl (by decide) rfl (fun ls hl => ?_)
    exact loop19 N 17 0 h ls (lv_sub hl [2, 1, 0] rfl)
  · have h := ite_t c1 h
    refine lv_ldc2 (v := (-3)) hx hb hown (hts _ lkX4_digest_5) dX4_digest_9 ?_
    exact reL hx hb hr hlocks h dX4_digest_12
def fX4_field_113 (N : Nat) : Nat → Int32 → Int64 → Int64 → Int64 → (Nat → Bool) → (Nat → Int64) → (Nat → Int64) → Option (Int32 × Int64 × Int64 × Int64 × (Nat → Bool) × (Nat → Int64) × (Nat → Int64))
  | 0, _, _, _, _, _, _, _ => none
  | n + 1, l5, zp, zr, zh, zip, zvu, zvv =>
    if 8 ≤ l5 then
      some (zh.toInt32, zp, zr, zh, zip, zvu, zvv)
    else
      if l5 < 0 ∨ 8 ≤ l5.toNatClampNeg then none else
      bnd (vp_updL zvu l5.toNatClampNeg 1) fun w18 =>
      bnd (vp_updL zvv l5.toNatClampNeg 0) fun w19 =>
      bnd (l5 + 1) fun w20 =>
      fX4_field_113 N n w20 zp zr zh zip w18 w19
def fX4_field_89 (N : Nat) : Nat → Int32 → Int64 → Int64 → Int64 → (Nat → Bool) → (Nat → Int64) → (Nat → Int64) → Option (Int32 × Int64 × Int64 × Int64 × (Nat → Bool) × (Nat → Int64) × (Nat → Int64))
  | 0, _, _, _, _, _, _, _ => none
  | n + 1, l5, zp, zr, zh, zip, zvu, zvv =>
    if 16 ≤ l5 then
      fX4_field_113 N N 0 zp zr zh zip zvu zvv
    else
      if l5 < 0 ∨ 16 ≤ l5.toNatClampNeg then none else
      bnd (uB zip l5.toNatClampNeg false) fun w22 =>
      bnd (l5 + 1) fun w23 =>
      fX4_field_89 N n w23 zp zr zh w22 zvu zvv
def fX4_field (N : Nat) (zp : Int64) (zr : Int64) (zh : Int64) (zip : Nat → Bool) (zvu : Nat → Int64) (zvv : Nat → Int64) (q0 : Int32) (q1 : Int32) : Option (Int32 × Int64 × Int64 × Int64 × (Nat → Bool) × (Nat → Int64) × (Nat → Int64)) :=
  if q0 < 11 then
    some ((-2), zp, zr, zh, zip, zvu, zvv)
  else
    if (jirem q0 4) = 3 then
      (fX4_isPrime N q0.toInt64).bind fun r3 =>
      if (bI r3) = 0 then
        some ((-2), zp, zr, zh, zip, zvu, zvv)
      else
        if q1 < 3 then
          some ((-2), zp, zr, zh, zip, zvu, zvv)
        else
          (fX4_isPrime N q1.toInt64).bind fun r7 =>
          if (bI r7) = 0 then
            some ((-2), zp, zr, zh, zip, zvu, zvv)
          else
            bnd (q0.toInt64 + 1) fun w10 =>
            if q1.toInt64 = 0 then none else
            if (jrem w10 q1.toInt64) = 0 then
              if (jrem (w10 / q1.toInt64) q1.toInt64) = 0 then
                some ((-2), zp, zr, zh, zip, zvu, zvv)
              else
                bnd (w10 / q1.toInt64) fun w14 =>
                fX4_field_89 N N 0 q0.toInt64 q1.toInt64 w14 zip zvu zvv
            else
              some ((-2), zp, zr, zh, zip, zvu, zvv)
    else
      some ((-2), zp, zr, zh, zip, zvu, zvv)
abbrev rmX4_field : Room := { frames := 1, cells := 0, slots := 0, locals := 23 }
theorem lkX4_field_0 : (.fieldLink RX4 28 "PairingDeskModel" "p" "J" : Cond) ∈ wsX4_field := by decide +kernel
theorem lkX4_field_1 : (.fieldLink RX4 48 "PairingDeskModel" "\x72" "J" : Cond) ∈ wsX4_field := by decide +kernel
theorem lkX4_field_2 : (.fieldLink RX4 51 "PairingDeskModel" "h" "J" : Cond) ∈ wsX4_field := by decide +kernel
theorem lkX4_field_3 : (.fieldLink RX4 20 "PairingDeskModel" "vu" "[J" : Cond) ∈ wsX4_field := by decide +kernel
theorem lkX4_field_4 : (.fieldLink RX4 23 "PairingDeskModel" "vv" "[J" : Cond) ∈ wsX4_field := by decide +kernel
theorem lkX4_field_5 : (.fieldLink RX4 16 "PairingDeskModel" "isPoint" "[Z" : Cond) ∈ wsX4_field := by decide +kernel
theorem iwX4_field_4 : ∀ w ∈ wsX40, w ∈ wsX4_field := by decide +kernel
theorem hdX4_field : KN yX4_field 2 := by decide +kernel
set_option maxHeartbeats 4000000 in
set_option maxRecDepth 100000 in
theorem kX4_field (l : Launch) (D : va_G) (cJ cZ : ClassId) (mo a1 a2 a3 a4 a5 : Nat) (N : Nat) (zp : Int64) (zr : Int64) (zh : Int64) (zx : Int64) (zy : Int64) (zi : Bool) (zu : Int64) (zv : Int64) (zl : Int32) (zpx : Nat → Int64) (zpy : Nat → Int64) (zip : Nat → Bool) (zvu : Nat → Int64) (zvv : Nat → Int64) (q0 : Int32) (q1 : Int32) (sz : Nat) (rr : Int32) (ozp : Int64) (ozr : Int64) (ozh : Int64) (ozip : Nat → Bool) (ozvu : Nat → Int64) (ozvv : Nat → Int64) (h : fX4_field N zp zr zh zip zvu zvv q0 q1 = some (rr, ozp, ozr, ozh, ozip, ozvu, ozvv)) : Met l yX4_field wsX4_field rmX4_field (PE D cJ cZ [.ref mo, .int q0, .int q1] [(mo, .inr (4, [.long zp, .long zr, .long zh, .ref a1, .ref a2, .ref a3, .ref a4, .ref a5, .long zx, .long zy, .int (bI zi), .long zu, .long zv, .int zl])), (a1, .inl (cJ, 16, .inr (.inl zpx))), (a2, .inl (cJ, 16, .inr (.inl zpy))), (a3, .inl (cZ, 16, .inl (fun i => bI (zip i)))), (a4, .inl (cJ, 8, .inr (.inl zvu))), (a5, .inl (cJ, 8, .inr (.inl zvv)))] sz) (QE D (some (.int rr)) [(mo, .inr (4, [.long ozp, .long ozr, .long ozh, .ref a1, .ref a2, .ref a3, .ref a4, .ref a5, .long zx, .long zy, .int (bI zi), .long zu, .long zv, .int zl])), (a1, .inl (cJ, 16, .inr (.inl zpx))), (a2, .inl (cJ, 16, .inr (.inl zpy))), (a3, .inl (cZ, 16, .inl (fun i => bI (ozip i)))), (a4, .inl (cJ, 8, .inr (.inl ozvu))), (a5, .inl (cJ, 8, .inr (.inl ozvv)))] (va_A [(mo, .inr (4, [.long zp, .long zr, .long zh, .ref a1, .ref a2, .ref a3, .ref a4, .ref a5, .long zx, .long zy, .int (bI zi), .long zu, .long zv, .int zl])), (a1, .inl (cJ, 16, .inr (.inl zpx))), (a2, .inl (cJ, 16, .inr (.inl zpy))), (a3, .inl (cZ, 16, .inl (fun i => bI (zip i)))), (a4, .inl (cJ, 8, .inr (.inl zvu))), (a5, .inl (cJ, 8, .inr (.inl zvv)))] sz)) 0 0 (va_A [(mo, .inr (4, [.long zp, .long zr, .long zh, .ref a1, .ref a2, .ref a3, .ref a4, .ref a5, .long zx, .long zy, .int (bI zi), .long zu, .long zv, .int zl])), (a1, .inl (cJ, 16, .inr (.inl zpx))), (a2, .inl (cJ, 16, .inr (.inl zpy))), (a3, .inl (cZ, 16, .inl (fun i => bI (zip i)))), (a4, .inl (cJ, 8, .inr (.inl zvu))), (a5, .inl (cJ, 8, .inr (.inl zvv)))] sz) := by
  refine Met.ofW (cc := cX4_field) (maxL := 6) (ret := some .int) (by decide) rfl ?_
  intro pg e s m args below meth c s₁ B hml hv
  obtain ⟨rfl, hsz, hP, hE, hD0⟩ := hv
  have hx := B.exec
  have hb := B.bytes
  have hr := B.returns
  have hlocks := B.notSynchronized
  have C0 : CallFix pg m c cX4_field 6 s ([.ref mo, .int q0, .int q1] : List Value).toArray wsX4_field RX4 := ⟨hx, hb, hml, findClass_of_methodNamed B.named, atoms_spec (ws := wsX4_field) B.pre⟩
  have hown := C0.2.2.2.1
  have hts := C0.2.2.2.2
  subst hsz
  have hD := hD0.self (sz := s.heap.size)
  generalize hAe : va_A [(mo, .inr (4, [.long zp, .long zr, .long zh, .ref a1, .ref a2, .ref a3, .ref a4, .ref a5, .long zx, .long zy, .int (bI zi), .long zu, .long zv, .int zl])), (a1, .inl (cJ, 16, .inr (.inl zpx))), (a2, .inl (cJ, 16, .inr (.inl zpy))), (a3, .inl (cZ, 16, .inl (fun i => bI (zip i)))), (a4, .inl (cJ, 8, .inr (.inl zvu))), (a5, .inl (cJ, 8, .inr (.inl zvv)))] s.heap.size = A at hD ⊢
  have hA : ∀ q : Nat, s.heap.size ≤ q → A q := fun q h => by rw [← hAe]; exact Or.inr h
  have hS : va_S A s.heap s.heap [] := va_S.rf
  have hP : va_P D vwCl [(mo, .inr (4, [.long zp, .long zr, .long zh, .ref a1, .ref a2, .ref a3, .ref a4, .ref a5, .long zx, .long zy, .int (bI zi), .long zu, .long zv, .int zl])), (a1, .inl (cJ, 16, .inr (.inl zpx))), (a2, .inl (cJ, 16, .inr (.inl zpy))), (a3, .inl (cZ, 16, .inl (fun i => bI (zip i)))), (a4, .inl (cJ, 8, .inr (.inl zvu))), (a5, .inl (cJ, 8, .inr (.inl zvv)))] s.heap := hP
  have hl := lv_entry ([.ref mo, .int q0, .int q1]) (n := 6) (Nat.le_of_ble_eq_true rfl)
  rw [lg_entry_eq]
  generalize (lg_sl ([.ref mo, .int q0, .int q1]) ++ List.replicate (6 - (lg_sl ([.ref mo, .int q0, .int q1])).length) Slot.unset).toArray = ls at hl ⊢
  have hl : lv_has ls 6 [(0, .ref mo), (1, .int q0), (2, .int q1)] := hl
  have loop113 : ∀ (n : Nat) (l5 : Int32) (zp : Int64) (zr : Int64) (zh : Int64) (zip : Nat → Bool) (zvu : Nat → Int64) (zvv : Nat → Int64), fX4_field_113 N n l5 zp zr zh zip zvu zvv = some (rr, ozp, ozr, ozh, ozip, ozvu, ozvv) → ∀ (H : Heap) (locs : List Loc), va_P D vwCl [(mo, .inr (4, [.long zp, .long zr, .long zh, .ref a1, .ref a2, .ref a3, .ref a4, .ref a5, .long zx, .long zy, .int (bI zi), .long zu, .long zv, .int zl])), (a1, .inl (cJ, 16, .inr (.inl zpx))), (a2, .inl (cJ, 16, .inr (.inl zpy))), (a3, .inl (cZ, 16, .inl (fun i => bI (zip i)))), (a4, .inl (cJ, 8, .inr (.inl zvu))), (a5, .inl (cJ, 8, .inr (.inl zvv)))] H → va_D A [(mo, .inr (4, [.long zp, .long zr, .long zh, .ref a1, .ref a2, .ref a3, .ref a4, .ref a5, .long zx, .long zy, .int (bI zi), .long zu, .long zv, .int zl])), (a1, .inl (cJ, 16, .inr (.inl zpx))), (a2, .inl (cJ, 16, .inr (.inl zpy))), (a3, .inl (cZ, 16, .inl (fun i => bI (zip i)))), (a4, .inl (cJ, 8, .inr (.inl zvu))), (a5, .inl (cJ, 8, .inr (.inl zvv)))] → va_S A s.heap H locs → ∀ ls : Array Slot, lv_has ls 6 [(0, .ref mo), (5, .int l5)] → W pg l e (headSpec wsX4_field rmX4_field).room s m ([.ref mo, .int q0, .int q1] : List Value).toArray below meth c H locs 0 0 (MQ below (QE D (some (.int rr)) [(mo, .inr (4, [.long ozp, .long ozr, .long ozh, .ref a1, .ref a2, .ref a3, .ref a4, .ref a5, .long zx, .long zy, .int (bI zi), .long zu, .long zv, .int zl])), (a1, .inl (cJ, 16, .inr (.inl zpx))), (a2, .inl (cJ, 16, .inr (.inl zpy))), (a3, .inl (cZ, 16, .inl (fun i => bI (ozip i)))), (a4, .inl (cJ, 8, .inr (.inl ozvu))), (a5, .inl (cJ, 8, .inr (.inl ozvv)))] A) ([.ref mo, .int q0, .int q1] : List Value).toArray s 0 0 A) (F0 m 113 ls []) := by
    intro n
    induction n with
    | zero =>
      intro l5 zp zr zh zip zvu zvv h
      cases h
    | succ n ih =>
      intro l5 zp zr zh zip zvu zvv h H locs hP hD hS ls hl
      rw [fX4_field_113] at h
      refine lv_iload hx hb dX4_field_113 (lv_at hl 1 rfl) ?_
      refine lv_bipush (v := 8) hx hb dX4_field_115 (by decide) ?_
      refine lv_icmp_ge (tgt := 142) hx hb dX4_field_117 (by decide) (fun c16 => ?_) (fun c16 => ?_)
      · have h := ite_t c16 h
        refine lv_aload_n hx hb dX4_field_142 rfl (lv_at hl 0 rfl) ?_
        refine va_get (D := D) (ci := 4) (v := .long zh) (C := RX4) (T := TX4) (N := 14) hx hb hts iwX4_field_4 hown hE.1 hP 0 rfl rfl 2 (by decide) (hts _ lkX4_field_2) (fun _ h9 => h9) rfl dX4_field_143 ?_
        refine lv_l2i (v := zh.toInt32) hx hb dX4_field_146 rfl ?_
        cases h
        exact rfI hx hb hr hlocks hP hD hS dX4_field_147
      · have h := ite_f c16 h
        refine lv_aload_n hx hb dX4_field_120 rfl (lv_at hl 0 rfl) ?_
        refine va_get (D := D) (ci := 4) (v := .ref a4) (C := RX4) (T := TX4) (N := 14) hx hb hts iwX4_field_4 hown hE.1 hP 0 rfl rfl 6 (by decide) (hts _ lkX4_field_3) (fun _ h9 => h9) rfl dX4_field_121 ?_
        refine lv_iload hx hb dX4_field_124 (lv_at hl 1 rfl) ?_
        refine lv_lconst (v := 1) hx hb dX4_field_126 (by decide) ?_
        obtain ⟨c17, h⟩ := ite_n h
        refine va_last hx hb hE.1 hP hD hS 4 0 rfl rfl c17 dX4_field_127 (fun H locs hP hD hS => ?_)
        have hP : va_P D vwCl [(mo, .inr (4, [.long zp, .long zr, .long zh, .ref a1, .ref a2, .ref a3, .ref a4, .ref a5, .long zx, .long zy, .int (bI zi), .long zu, .long zv, .int zl])), (a1, .inl (cJ, 16, .inr (.inl zpx))), (a2, .inl (cJ, 16, .inr (.inl zpy))), (a3, .inl (cZ, 16, .inl (fun i => bI (zip i)))), (a4, .inl (cJ, 8, .inr (.inl (vp_updL zvu l5.toNatClampNeg 1)))), (a5, .inl (cJ, 8, .inr (.inl zvv)))] H := hP
        have hD : va_D A [(mo, .inr (4, [.long zp, .long zr, .long zh, .ref a1, .ref a2, .ref a3, .ref a4, .ref a5, .long zx, .long zy, .int (bI zi), .long zu, .long zv, .int zl])), (a1, .inl (cJ, 16, .inr (.inl zpx))), (a2, .inl (cJ, 16, .inr (.inl zpy))), (a3, .inl (cZ, 16, .inl (fun i => bI (zip i)))), (a4, .inl (cJ, 8, .inr (.inl (vp_updL zvu l5.toNatClampNeg 1)))), (a5, .inl (cJ, 8, .inr (.inl zvv)))] := hD
        obtain ⟨w18, ew18, h⟩ := bnd_s h
        rw [← ew18] at hP hD
        refine lv_aload_n hx hb dX4_field_128 rfl (lv_at hl 0 rfl) ?_
        refine va_get (D := D) (ci := 4) (v := .ref a5) (C := RX4) (T := TX4) (N := 14) hx hb hts iwX4_field_4 hown hE.1 hP 0 rfl rfl 7 (by decide) (hts _ lkX4_field_4) (fun _ h9 => h9) rfl dX4_field_129 ?_
        refine lv_iload hx hb dX4_field_132 (lv_at hl 1 rfl) ?_
        refine lv_lconst (v := 0) hx hb dX4_field_134 (by decide) ?_
        refine va_last hx hb hE.1 hP hD hS 5 0 rfl rfl c17 dX4_field_135 (fun H locs hP hD hS => ?_)
        have hP : va_P D vwCl [(mo, .inr (4, [.long zp, .long zr, .long zh, .ref a1, .ref a2, .ref a3, .ref a4, .ref a5, .long zx, .long zy, .int (bI zi), .long zu, .long zv, .int zl])), (a1, .inl (cJ, 16, .inr (.inl zpx))), (a2, .inl (cJ, 16, .inr (.inl zpy))), (a3, .inl (cZ, 16, .inl (fun i => bI (zip i)))), (a4, .inl (cJ, 8, .inr (.inl w18))), (a5, .inl (cJ, 8, .inr (.inl (vp_updL zvv l5.toNatClampNeg 0))))] H := hP
        have hD : va_D A [(mo, .inr (4, [.long zp, .long zr, .long zh, .ref a1, .ref a2, .ref a3, .ref a4, .ref a5, .long zx, .long zy, .int (bI zi), .long zu, .long zv, .int zl])), (a1, .inl (cJ, 16, .inr (.inl zpx))), (a2, .inl (cJ, 16, .inr (.inl zpy))), (a3, .inl (cZ, 16, .inl (fun i => bI (zip i)))), (a4, .inl (cJ, 8, .inr (.inl w18))), (a5, .inl (cJ, 8, .inr (.inl (vp_updL zvv l5.toNatClampNeg 0))))] := hD
        obtain ⟨w19, ew19, h⟩ := bnd_s h
        rw [← ew19] at hP hD
        obtain ⟨w20, ew20, h⟩ := bnd_s h
        refine lv_iinc (v := w20) (lv' := [(5, .int w20), (0, .ref mo)]) hx hb dX4_field_136 hl (k := 1) rfl (by rw [ew20]; rfl) (by decide) rfl (fun ls hl => ?_)
        refine lv_goto (tgt := 113) hx hb dX4_field_139 (by decide) ?_
        exact ih w20 zp zr zh zip w18 w19 h H locs hP hD hS ls (lv_sub hl [1, 0] rfl)
  have loop89 : ∀ (n : Nat) (l5 : Int32) (zp : Int64) (zr : Int64) (zh : Int64) (zip : Nat → Bool) (zvu : Nat → Int64) (zvv : Nat → Int64), fX4_field_89 N n l5 zp zr zh zip zvu zvv = some (rr, ozp, ozr, ozh, ozip, ozvu, ozvv) → ∀ (H : Heap) (locs : List Loc), va_P D vwCl [(mo, .inr (4, [.long zp, .long zr, .long zh, .ref a1, .ref a2, .ref a3, .ref a4, .ref a5, .long zx, .long zy, .int (bI zi), .long zu, .long zv, .int zl])), (a1, .inl (cJ, 16, .inr (.inl zpx))), (a2, .inl (cJ, 16, .inr (.inl zpy))), (a3, .inl (cZ, 16, .inl (fun i => bI (zip i)))), (a4, .inl (cJ, 8, .inr (.inl zvu))), (a5, .inl (cJ, 8, .inr (.inl zvv)))] H → va_D A [(mo, .inr (4, [.long zp, .long zr, .long zh, .ref a1, .ref a2, .ref a3, .ref a4, .ref a5, .long zx, .long zy, .int (bI zi), .long zu, .long zv, .int zl])), (a1, .inl (cJ, 16, .inr (.inl zpx))), (a2, .inl (cJ, 16, .inr (.inl zpy))), (a3, .inl (cZ, 16, .inl (fun i => bI (zip i)))), (a4, .inl (cJ, 8, .inr (.inl zvu))), (a5, .inl (cJ, 8, .inr (.inl zvv)))] → va_S A s.heap H locs → ∀ ls : Array Slot, lv_has ls 6 [(0, .ref mo), (5, .int l5)] → W pg l e (headSpec wsX4_field rmX4_field).room s m ([.ref mo, .int q0, .int q1] : List Value).toArray below meth c H locs 0 0 (MQ below (QE D (some (.int rr)) [(mo, .inr (4, [.long ozp, .long ozr, .long ozh, .ref a1, .ref a2, .ref a3, .ref a4, .ref a5, .long zx, .long zy, .int (bI zi), .long zu, .long zv, .int zl])), (a1, .inl (cJ, 16, .inr (.inl zpx))), (a2, .inl (cJ, 16, .inr (.inl zpy))), (a3, .inl (cZ, 16, .inl (fun i => bI (ozip i)))), (a4, .inl (cJ, 8, .inr (.inl ozvu))), (a5, .inl (cJ, 8, .inr (.inl ozvv)))] A) ([.ref mo, .int q0, .int q1] : List Value).toArray s 0 0 A) (F0 m 89 ls []) := by
    intro n
    induction n with
    | zero =>
      intro l5 zp zr zh zip zvu zvv h
      cases h
    | succ n ih =>
      intro l5 zp zr zh zip zvu zvv h H locs hP hD hS ls hl
      rw [fX4_field_89] at h
      refine lv_iload hx hb dX4_field_89 (lv_at hl 1 rfl) ?_
      refine lv_bipush (v := 16) hx hb dX4_field_91 (by decide) ?_
      refine lv_icmp_ge (tgt := 110) hx hb dX4_field_93 (by decide) (fun c15 => ?_) (fun c15 => ?_)
      · have h := ite_t c15 h
        refine lv_iconst (v := 0) hx hb dX4_field_110 (by decide) ?_
        refine lv_istore (lv' := [(5, .int 0), (0, .ref mo)]) hx hb dX4_field_111 hl (by decide) rfl (fun ls hl => ?_)
        exact loop113 N 0 zp zr zh zip zvu zvv h H locs hP hD hS ls (lv_sub hl [1, 0] rfl)
      · have h := ite_f c15 h
        refine lv_aload_n hx hb dX4_field_96 rfl (lv_at hl 0 rfl) ?_
        refine va_get (D := D) (ci := 4) (v := .ref a3) (C := RX4) (T := TX4) (N := 14) hx hb hts iwX4_field_4 hown hE.1 hP 0 rfl rfl 5 (by decide) (hts _ lkX4_field_5) (fun _ h9 => h9) rfl dX4_field_97 ?_
        refine lv_iload hx hb dX4_field_100 (lv_at hl 1 rfl) ?_
        refine lv_iconst (v := 0) hx hb dX4_field_102 (by decide) ?_
        obtain ⟨c21, h⟩ := ite_n h
        refine va_zast (x := bI false) hx hb hE.1 hP hD hS 3 1 rfl rfl c21 dX4_field_103 (fun H locs hP hD hS => ?_)
        rw [upd_bI] at hP hD
        have hP : va_P D vwCl [(mo, .inr (4, [.long zp, .long zr, .long zh, .ref a1, .ref a2, .ref a3, .ref a4, .ref a5, .long zx, .long zy, .int (bI zi), .long zu, .long zv, .int zl])), (a1, .inl (cJ, 16, .inr (.inl zpx))), (a2, .inl (cJ, 16, .inr (.inl zpy))), (a3, .inl (cZ, 16, .inl (fun i => bI ((uB zip l5.toNatClampNeg false) i)))), (a4, .inl (cJ, 8, .inr (.inl zvu))), (a5, .inl (cJ, 8, .inr (.inl zvv)))] H := hP
        have hD : va_D A [(mo, .inr (4, [.long zp, .long zr, .long zh, .ref a1, .ref a2, .ref a3, .ref a4, .ref a5, .long zx, .long zy, .int (bI zi), .long zu, .long zv, .int zl])), (a1, .inl (cJ, 16, .inr (.inl zpx))), (a2, .inl (cJ, 16, .inr (.inl zpy))), (a3, .inl (cZ, 16, .inl (fun i => bI ((uB zip l5.toNatClampNeg false) i)))), (a4, .inl (cJ, 8, .inr (.inl zvu))), (a5, .inl (cJ, 8, .inr (.inl zvv)))] := hD
        obtain ⟨w22, ew22, h⟩ := bnd_s h
        rw [← ew22] at hP hD
        obtain ⟨w23, ew23, h⟩ := bnd_s h
        refine lv_iinc (v := w23) (lv' := [(5, .int w23), (0, .ref mo)]) hx hb dX4_field_104 hl (k := 1) rfl (by rw [ew23]; rfl) (by decide) rfl (fun ls hl => ?_)
        refine lv_goto (tgt := 89) hx hb dX4_field_107 (by decide) ?_
        exact ih w23 zp zr zh w22 zvu zvv h H locs hP hD hS ls (lv_sub hl [1, 0] rfl)
  suffices key : ∀ (H : Heap) (locs : List Loc), va_P D vwCl [(mo, .inr (4, [.long zp, .long zr, .long zh, .ref a1, .ref a2, .ref a3, .ref a4, .ref a5, .long zx, .long zy, .int (bI zi), .long zu, .long zv, .int zl])), (a1, .inl (cJ, 16, .inr (.inl zpx))), (a2, .inl (cJ, 16, .inr (.inl zpy))), (a3, .inl (cZ, 16, .inl (fun i => bI (zip i)))), (a4, .inl (cJ, 8, .inr (.inl zvu))), (a5, .inl (cJ, 8, .inr (.inl zvv)))] H → va_D A [(mo, .inr (4, [.long zp, .long zr, .long zh, .ref a1, .ref a2, .ref a3, .ref a4, .ref a5, .long zx, .long zy, .int (bI zi), .long zu, .long zv, .int zl])), (a1, .inl (cJ, 16, .inr (.inl zpx))), (a2, .inl (cJ, 16, .inr (.inl zpy))), (a3, .inl (cZ, 16, .inl (fun i => bI (zip i)))), (a4, .inl (cJ, 8, .inr (.inl zvu))), (a5, .inl (cJ, 8, .inr (.inl zvv)))] → va_S A s.heap H locs → W pg l e (headSpec wsX4_field rmX4_field).room s m ([.ref mo, .int q0, .int q1] : List Value).toArray below meth c H locs 0 0 (MQ below (QE D (some (.int rr)) [(mo, .inr (4, [.long ozp, .long ozr, .long ozh, .ref a1, .ref a2, .ref a3, .ref a4, .ref a5, .long zx, .long zy, .int (bI zi), .long zu, .long zv, .int zl])), (a1, .inl (cJ, 16, .inr (.inl zpx))), (a2, .inl (cJ, 16, .inr (.inl zpy))), (a3, .inl (cZ, 16, .inl (fun i => bI (ozip i)))), (a4, .inl (cJ, 8, .inr (.inl ozvu))), (a5, .inl (cJ, 8, .inr (.inl ozvv)))] A) ([.ref mo, .int q0, .int q1] : List Value).toArray s 0 0 A) (F0 m 0 ls []) from key s.heap [] hP hD hS
  intro H locs hP hD hS
  unfold fX4_field at h
  refine lv_iload_n hx hb dX4_field_0 rfl (lv_at hl 1 rfl) ?_
  refine lv_bipush (v := 11) hx hb dX4_field_1 (by decide) ?_
  refine lv_icmp_lt (tgt := 34) hx hb dX4_field_3 (by decide) (fun c1 => ?_) (fun c1 => ?_)
  · have h := ite_t c1 h
    refine lv_bipush (v := (-2)) hx hb dX4_field_34 (by decide) ?_
    cases h
    exact rfI hx hb hr hlocks hP hD hS dX4_field_36
  · have h := ite_f c1 h
    refine lv_iload_n hx hb dX4_field_6 rfl (lv_at hl 1 rfl) ?_
    refine lv_iconst (v := 4) hx hb dX4_field_7 (by decide) ?_
    refine lv_iremJ hx hb dX4_field_8 (by decide) ?_
    refine lv_iconst (v := 3) hx hb dX4_field_9 (by decide) ?_
    refine lv_icmp_ne (tgt := 34) hx hb dX4_field_10 (by decide) (fun c2 => ?_) (fun c2 => ?_)
    · have h := ite_f c2 h
      refine lv_bipush (v := (-2)) hx hb dX4_field_34 (by decide) ?_
      cases h
      exact rfI hx hb hr hlocks hP hD hS dX4_field_36
    · have h := ite_t c2 h
      refine lv_iload_n hx hb dX4_field_13 rfl (lv_at hl 1 rfl) ?_
      refine lv_i2l (v := q0.toInt64) hx hb dX4_field_14 rfl ?_
      obtain ⟨r3, h4, h⟩ := bind_s h
      refine ki (kS (As := [.long q0.toInt64]) (rest := []) C0 (kX4_isPrime l D cJ cZ N q0.toInt64 r3 h4) gX4_field_X4_isPrime rfl ⟨rfl, rfl⟩ hdX4_isPrime ⟨Nat.le_of_ble_eq_true rfl, Nat.le_of_ble_eq_true rfl⟩ (hP.sub [] rfl) hE hl rfl rfl (Nat.le_of_ble_eq_true rfl) dX4_field_15 (Nat.zero_le _) (Nat.zero_le _)) ?_
      refine lv_if_eq (tgt := 34) hx hb dX4_field_18 (by decide) (fun c5 => ?_) (fun c5 => ?_)
      · have h := ite_t c5 h
        refine lv_bipush (v := (-2)) hx hb dX4_field_34 (by decide) ?_
        cases h
        exact rfI hx hb hr hlocks hP hD hS dX4_field_36
      · have h := ite_f c5 h
        refine lv_iload_n hx hb dX4_field_21 rfl (lv_at hl 2 rfl) ?_
        refine lv_iconst (v := 3) hx hb dX4_field_22 (by decide) ?_
        refine lv_icmp_lt (tgt := 34) hx hb dX4_field_23 (by decide) (fun c6 => ?_) (fun c6 => ?_)
        · have h := ite_t c6 h
          refine lv_bipush (v := (-2)) hx hb dX4_field_34 (by decide) ?_
          cases h
          exact rfI hx hb hr hlocks hP hD hS dX4_field_36
        · have h := ite_f c6 h
          refine lv_iload_n hx hb dX4_field_26 rfl (lv_at hl 2 rfl) ?_
          refine lv_i2l (v := q1.toInt64) hx hb dX4_field_27 rfl ?_
          obtain ⟨r7, h8, h⟩ := bind_s h
          refine ki (kS (As := [.long q1.toInt64]) (rest := []) C0 (kX4_isPrime l D cJ cZ N q1.toInt64 r7 h8) gX4_field_X4_isPrime rfl ⟨rfl, rfl⟩ hdX4_isPrime ⟨Nat.le_of_ble_eq_true rfl, Nat.le_of_ble_eq_true rfl⟩ (hP.sub [] rfl) hE hl rfl rfl (Nat.le_of_ble_eq_true rfl) dX4_field_28 (Nat.zero_le _) (Nat.zero_le _)) ?_
          refine lv_if_ne (tgt := 37) hx hb dX4_field_31 (by decide) (fun c9 => ?_) (fun c9 => ?_)
          · have h := ite_f c9 h
            refine lv_iload_n hx hb dX4_field_37 rfl (lv_at hl 1 rfl) ?_
            refine lv_i2l (v := q0.toInt64) hx hb dX4_field_38 rfl ?_
            refine lv_lconst (v := 1) hx hb dX4_field_39 (by decide) ?_
            refine lv_ladd hx hb dX4_field_40 ?_
            obtain ⟨w10, ew10, h⟩ := bnd_s h
            refine tl ew10.symm ?_
            refine lv_lstore_n (lv' := [(3, .long w10), (0, .ref mo), (1, .int q0), (2, .int q1)]) hx hb dX4_field_41 rfl hl (by decide) rfl (fun ls hl => ?_)
            refine lv_lload_n hx hb dX4_field_42 rfl (lv_at hl 0 rfl) ?_
            refine lv_iload_n hx hb dX4_field_43 rfl (lv_at hl 3 rfl) ?_
            refine lv_i2l (v := q1.toInt64) hx hb dX4_field_44 rfl ?_
            obtain ⟨c11, h⟩ := ite_n h
            refine lv_lremJ hx hb dX4_field_45 c11 ?_
            refine lv_lconst (v := 0) hx hb dX4_field_46 (by decide) ?_
            refine lc_ne (tgt := 63) hx hb dX4_field_47 dX4_field_48 (by decide) (fun c12 => ?_) (fun c12 => ?_)
            · have h := ite_f c12 h
              refine lv_bipush (v := (-2)) hx hb dX4_field_63 (by decide) ?_
              cases h
              exact rfI hx hb hr hlocks hP hD hS dX4_field_65
            · have h := ite_t c12 h
              refine lv_lload_n hx hb dX4_field_51 rfl (lv_at hl 0 rfl) ?_
              refine lv_iload_n hx hb dX4_field_52 rfl (lv_at hl 3 rfl) ?_
              refine lv_i2l (v := q1.toInt64) hx hb dX4_field_53 rfl ?_
              refine lv_ldiv hx hb dX4_field_54 c11 ?_
              refine lv_iload_n hx hb dX4_field_55 rfl (lv_at hl 3 rfl) ?_
              refine lv_i2l (v := q1.toInt64) hx hb dX4_field_56 rfl ?_
              refine lv_lremJ hx hb dX4_field_57 c11 ?_
              refine lv_lconst (v := 0) hx hb dX4_field_58 (by decide) ?_
              refine lc_ne (tgt := 66) hx hb dX4_field_59 dX4_field_60 (by decide) (fun c13 => ?_) (fun c13 => ?_)
              · have h := ite_f c13 h
                refine lv_aload_n hx hb dX4_field_66 rfl (lv_at hl 1 rfl) ?_
                refine lv_iload_n hx hb dX4_field_67 rfl (lv_at hl 2 rfl) ?_
                refine lv_i2l (v := q0.toInt64) hx hb dX4_field_68 rfl ?_
                refine va_put (D := D) (ci := 4) (v := .long q0.toInt64) (ty := .long) (C := RX4) (T := TX4) (N := 14) hx hb hts iwX4_field_4 tyX4 tyX4_ok nmX4 hown hE.1 hP hD hS 0 rfl rfl 0 (by decide) (hts _ lkX4_field_0) (fun _ h9 => h9) rfl (by decide +kernel) rfl rfl (Nat.le_of_ble_eq_true rfl) dX4_field_69 (fun H locs hP hD hS => ?_)
                have hP : va_P D vwCl [(mo, .inr (4, [.long q0.toInt64, .long zr, .long zh, .ref a1, .ref a2, .ref a3, .ref a4, .ref a5, .long zx, .long zy, .int (bI zi), .long zu, .long zv, .int zl])), (a1, .inl (cJ, 16, .inr (.inl zpx))), (a2, .inl (cJ, 16, .inr (.inl zpy))), (a3, .inl (cZ, 16, .inl (fun i => bI (zip i)))), (a4, .inl (cJ, 8, .inr (.inl zvu))), (a5, .inl (cJ, 8, .inr (.inl zvv)))] H := hP
                have hD : va_D A [(mo, .inr (4, [.long q0.toInt64, .long zr, .long zh, .ref a1, .ref a2, .ref a3, .ref a4, .ref a5, .long zx, .long zy, .int (bI zi), .long zu, .long zv, .int zl])), (a1, .inl (cJ, 16, .inr (.inl zpx))), (a2, .inl (cJ, 16, .inr (.inl zpy))), (a3, .inl (cZ, 16, .inl (fun i => bI (zip i)))), (a4, .inl (cJ, 8, .inr (.inl zvu))), (a5, .inl (cJ, 8, .inr (.inl zvv)))] := hD
                refine lv_aload_n hx hb dX4_field_72 rfl (lv_at hl 1 rfl) ?_
                refine lv_iload_n hx hb dX4_field_73 rfl (lv_at hl 3 rfl) ?_
                refine lv_i2l (v := q1.toInt64) hx hb dX4_field_74 rfl ?_
                refine va_put (D := D) (ci := 4) (v := .long q1.toInt64) (ty := .long) (C := RX4) (T := TX4) (N := 14) hx hb hts iwX4_field_4 tyX4 tyX4_ok nmX4 hown hE.1 hP hD hS 0 rfl rfl 1 (by decide) (hts _ lkX4_field_1) (fun _ h9 => h9) rfl (by decide +kernel) rfl rfl (Nat.le_of_ble_eq_true rfl) dX4_field_75 (fun H locs hP hD hS => ?_)
                have hP : va_P D vwCl [(mo, .inr (4, [.long q0.toInt64, .long q1.toInt64, .long zh, .ref a1, .ref a2, .ref a3, .ref a4, .ref a5, .long zx, .long zy, .int (bI zi), .long zu, .long zv, .int zl])), (a1, .inl (cJ, 16, .inr (.inl zpx))), (a2, .inl (cJ, 16, .inr (.inl zpy))), (a3, .inl (cZ, 16, .inl (fun i => bI (zip i)))), (a4, .inl (cJ, 8, .inr (.inl zvu))), (a5, .inl (cJ, 8, .inr (.inl zvv)))] H := hP
                have hD : va_D A [(mo, .inr (4, [.long q0.toInt64, .long q1.toInt64, .long zh, .ref a1, .ref a2, .ref a3, .ref a4, .ref a5, .long zx, .long zy, .int (bI zi), .long zu, .long zv, .int zl])), (a1, .inl (cJ, 16, .inr (.inl zpx))), (a2, .inl (cJ, 16, .inr (.inl zpy))), (a3, .inl (cZ, 16, .inl (fun i => bI (zip i)))), (a4, .inl (cJ, 8, .inr (.inl zvu))), (a5, .inl (cJ, 8, .inr (.inl zvv)))] := hD
                refine lv_aload_n hx hb dX4_field_78 rfl (lv_at hl 1 rfl) ?_
                refine lv_lload_n hx hb dX4_field_79 rfl (lv_at hl 0 rfl) ?_
                refine lv_iload_n hx hb dX4_field_80 rfl (lv_at hl 3 rfl) ?_
                refine lv_i2l (v := q1.toInt64) hx hb dX4_field_81 rfl ?_
                refine lv_ldiv hx hb dX4_field_82 c11 ?_
                obtain ⟨w14, ew14, h⟩ := bnd_s h
                refine tl ew14.symm ?_
                refine va_put (D := D) (ci := 4) (v := .long w14) (ty := .long) (C := RX4) (T := TX4) (N := 14) hx hb hts iwX4_field_4 tyX4 tyX4_ok nmX4 hown hE.1 hP hD hS 0 rfl rfl 2 (by decide) (hts _ lkX4_field_2) (fun _ h9 => h9) rfl (by decide +kernel) rfl rfl (Nat.le_of_ble_eq_true rfl) dX4_field_83 (fun H locs hP hD hS => ?_)
                have hP : va_P D vwCl [(mo, .inr (4, [.long q0.toInt64, .long q1.toInt64, .long w14, .ref a1, .ref a2, .ref a3, .ref a4, .ref a5, .long zx, .long zy, .int (bI zi), .long zu, .long zv, .int zl])), (a1, .inl (cJ, 16, .inr (.inl zpx))), (a2, .inl (cJ, 16, .inr (.inl zpy))), (a3, .inl (cZ, 16, .inl (fun i => bI (zip i)))), (a4, .inl (cJ, 8, .inr (.inl zvu))), (a5, .inl (cJ, 8, .inr (.inl zvv)))] H := hP
                have hD : va_D A [(mo, .inr (4, [.long q0.toInt64, .long q1.toInt64, .long w14, .ref a1, .ref a2, .ref a3, .ref a4, .ref a5, .long zx, .long zy, .int (bI zi), .long zu, .long zv, .int zl])), (a1, .inl (cJ, 16, .inr (.inl zpx))), (a2, .inl (cJ, 16, .inr (.inl zpy))), (a3, .inl (cZ, 16, .inl (fun i => bI (zip i)))), (a4, .inl (cJ, 8, .inr (.inl zvu))), (a5, .inl (cJ, 8, .inr (.inl zvv)))] := hD
                refine lv_iconst (v := 0) hx hb dX4_field_86 (by decide) ?_
                refine lv_istore (lv' := [(5, .int 0), (3, .long w10), (0, .ref mo), (1, .int q0), (2, .int q1)]) hx hb dX4_field_87 hl (by decide) rfl (fun ls hl => ?_)
                exact loop89 N 0 q0.toInt64 q1.toInt64 w14 zip zvu zvv h H locs hP hD hS ls (lv_sub hl [2, 0] rfl)
              · have h := ite_t c13 h
                refine lv_bipush (v := (-2)) hx hb dX4_field_63 (by decide) ?_
                cases h
                exact rfI hx hb hr hlocks hP hD hS dX4_field_65
          · have h := ite_t c9 h
            refine lv_bipush (v := (-2)) hx hb dX4_field_34 (by decide) ?_
            cases h
            exact rfI hx hb hr hlocks hP hD hS dX4_field_36
