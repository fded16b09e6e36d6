def fX4_point  (zp : Int64) (zx : Int64) (zy : Int64) (zi : Bool) (zpx : Nat → Int64) (zpy : Nat → Int64) (zip : Nat → Bool) (q0 : Int32) (q1 : Int32) (q2 : Int32) : Option (Int32 × Int64 × Int64 × Bool × (Nat → Int64) × (Nat → Int64) × (Nat → Bool)) :=
  if zp = 0 then
    some ((-3), zx, zy, zi, zpx, zpy, zip)
  else
    (fX4_isSlot q0).bind fun r2 =>
    if (bI r2) = 0 then
      some ((-2), zx, zy, zi, zpx, zpy, zip)
    else
      (fX4_in q1.toInt64 0 (zp - 1)).bind fun r5 =>
      if (bI r5) = 0 then
        some ((-2), zx, zy, zi, zpx, zpy, zip)
      else
        (fX4_in q2.toInt64 0 (zp - 1)).bind fun r8 =>
        if (bI r8) = 0 then
          some ((-2), zx, zy, zi, zpx, zpy, zip)
        else
          (fX4_curve zp q1.toInt64).bind fun r11 =>
          if (jrem (q2.toInt64 * q2.toInt64) zp) = r11 then
            (fX4_store q1.toInt64 q2.toInt64 true zpx zpy zip q0).bind fun (o14, o15, o16) =>
            some (1, q1.toInt64, q2.toInt64, true, o14, o15, o16)
          else
            some ((-1), zx, zy, zi, zpx, zpy, zip)
abbrev rmX4_point : Room := { frames := 2, cells := 0, slots := 0, locals := 45 }
theorem lkX4_point_0 : (.fieldLink RX4 28 "PairingDeskModel" "p" "J" : Cond) ∈ wsX4_point := by decide +kernel
theorem lkX4_point_1 : (.fieldLink RX4 61 "PairingDeskModel" "x" "J" : Cond) ∈ wsX4_point := by decide +kernel
theorem lkX4_point_2 : (.fieldLink RX4 64 "PairingDeskModel" "y" "J" : Cond) ∈ wsX4_point := by decide +kernel
theorem lkX4_point_3 : (.fieldLink RX4 67 "PairingDeskModel" "is" "Z" : Cond) ∈ wsX4_point := by decide +kernel
theorem iwX4_point_4 : ∀ w ∈ wsX40, w ∈ wsX4_point := by decide +kernel
theorem hdX4_point : KN yX4_point 3 := by decide +kernel
set_option maxHeartbeats 4000000 in
set_option maxRecDepth 100000 in
theorem kX4_point (l : Launch) (D : va_G) (cJ cZ : ClassId) (mo a1 a2 a3 a4 a5 : Nat) (zp : Int64) (zr : Int64) (zh : Int64) (zx : Int64) (zy : Int64) (zi : Bool) (zu : Int64) (zv : Int64) (zl : Int32) (zpx : Nat → Int64) (zpy : Nat → Int64) (zip : Nat → Bool) (zvu : Nat → Int64) (zvv : Nat → Int64) (q0 : Int32) (q1 : Int32) (q2 : Int32) (sz : Nat) (rr : Int32) (ozx : Int64) (ozy : Int64) (ozi : Bool) (ozpx : Nat → Int64) (ozpy : Nat → Int64) (ozip : Nat → Bool) (h : fX4_point zp zx zy zi zpx zpy zip q0 q1 q2 = some (rr, ozx, ozy, ozi, ozpx, ozpy, ozip)) : Met l yX4_point wsX4_point rmX4_point (PE D cJ cZ [.ref mo, .int q0, .int q1, .int q2] [(mo, .inr (4, [.long zp, .long zr, .long zh, .ref a1, .ref a2, .ref a3, .ref a4, .ref a5, .long zx, .long zy, .int (bI zi), .long zu, .long zv, .int zl])), (a1, .inl (cJ, 16, .inr (.inl zpx))), (a2, .inl (cJ, 16, .inr (.inl zpy))), (a3, .inl (cZ, 16, .inl (fun i => bI (zip i)))), (a4, .inl (cJ, 8, .inr (.inl zvu))), (a5, .inl (cJ, 8, .inr (.inl zvv)))] sz) (QE D (some (.int rr)) [(mo, .inr (4, [.long zp, .long zr, .long zh, .ref a1, .ref a2, .ref a3, .ref a4, .ref a5, .long ozx, .long ozy, .int (bI ozi), .long zu, .long zv, .int zl])), (a1, .inl (cJ, 16, .inr (.inl ozpx))), (a2, .inl (cJ, 16, .inr (.inl ozpy))), (a3, .inl (cZ, 16, .inl (fun i => bI (ozip i)))), (a4, .inl (cJ, 8, .inr (.inl zvu))), (a5, .inl (cJ, 8, .inr (.inl zvv)))] (va_A [(mo, .inr (4, [.long zp, .long zr, .long zh, .ref a1, .ref a2, .ref a3, .ref a4, .ref a5, .long zx, .long zy, .int (bI zi), .long zu, .long zv, .int zl])), (a1, .inl (cJ, 16, .inr (.inl zpx))), (a2, .inl (cJ, 16, .inr (.inl zpy))), (a3, .inl (cZ, 16, .inl (fun i => bI (zip i)))), (a4, .inl (cJ, 8, .inr (.inl zvu))), (a5, .inl (cJ, 8, .inr (.inl zvv)))] sz)) 0 0 (va_A [(mo, .inr (4, [.long zp, .long zr, .long zh, .ref a1, .ref a2, .ref a3, .ref a4, .ref a5, .long zx, .long zy, .int (bI zi), .long zu, .long zv, .int zl])), (a1, .inl (cJ, 16, .inr (.inl zpx))), (a2, .inl (cJ, 16, .inr (.inl zpy))), (a3, .inl (cZ, 16, .inl (fun i => bI (zip i)))), (a4, .inl (cJ, 8, .inr (.inl zvu))), (a5, .inl (cJ, 8, .inr (.inl zvv)))] sz) := by
  refine Met.ofW (cc := cX4_point) (maxL := 4) (ret := some .int) (by decide) rfl ?_
  intro pg e s m args below meth c s₁ B hml hv
  obtain ⟨rfl, hsz, hP, hE, hD0⟩ := hv
  have hx := B.exec
  have hb := B.bytes
  have hr := B.returns
  have hlocks := B.notSynchronized
  have C0 : CallFix pg m c cX4_point 4 s ([.ref mo, .int q0, .int q1, .int q2] : List Value).toArray wsX4_point RX4 := ⟨hx, hb, hml, findClass_of_methodNamed B.named, atoms_spec (ws := wsX4_point) B.pre⟩
  have hown := C0.2.2.2.1
  have hts := C0.2.2.2.2
  subst hsz
  have hD := hD0.self (sz := s.heap.size)
  generalize hAe : va_A [(mo, .inr (4, [.long zp, .long zr, .long zh, .ref a1, .ref a2, .ref a3, .ref a4, .ref a5, .long zx, .long zy, .int (bI zi), .long zu, .long zv, .int zl])), (a1, .inl (cJ, 16, .inr (.inl zpx))), (a2, .inl (cJ, 16, .inr (.inl zpy))), (a3, .inl (cZ, 16, .inl (fun i => bI (zip i)))), (a4, .inl (cJ, 8, .inr (.inl zvu))), (a5, .inl (cJ, 8, .inr (.inl zvv)))] s.heap.size = A at hD ⊢
  have hA : ∀ q : Nat, s.heap.size ≤ q → A q := fun q h => by rw [← hAe]; exact Or.inr h
  have hS : va_S A s.heap s.heap [] := va_S.rf
  have hP : va_P D vwCl [(mo, .inr (4, [.long zp, .long zr, .long zh, .ref a1, .ref a2, .ref a3, .ref a4, .ref a5, .long zx, .long zy, .int (bI zi), .long zu, .long zv, .int zl])), (a1, .inl (cJ, 16, .inr (.inl zpx))), (a2, .inl (cJ, 16, .inr (.inl zpy))), (a3, .inl (cZ, 16, .inl (fun i => bI (zip i)))), (a4, .inl (cJ, 8, .inr (.inl zvu))), (a5, .inl (cJ, 8, .inr (.inl zvv)))] s.heap := hP
  have hl := lv_entry ([.ref mo, .int q0, .int q1, .int q2]) (n := 4) (Nat.le_of_ble_eq_true rfl)
  rw [lg_entry_eq]
  generalize (lg_sl ([.ref mo, .int q0, .int q1, .int q2]) ++ List.replicate (4 - (lg_sl ([.ref mo, .int q0, .int q1, .int q2])).length) Slot.unset).toArray = ls at hl ⊢
  have hl : lv_has ls 4 [(0, .ref mo), (1, .int q0), (2, .int q1), (3, .int q2)] := hl
  suffices key : ∀ (H : Heap) (locs : List Loc), va_P D vwCl [(mo, .inr (4, [.long zp, .long zr, .long zh, .ref a1, .ref a2, .ref a3, .ref a4, .ref a5, .long zx, .long zy, .int (bI zi), .long zu, .long zv, .int zl])), (a1, .inl (cJ, 16, .inr (.inl zpx))), (a2, .inl (cJ, 16, .inr (.inl zpy))), (a3, .inl (cZ, 16, .inl (fun i => bI (zip i)))), (a4, .inl (cJ, 8, .inr (.inl zvu))), (a5, .inl (cJ, 8, .inr (.inl zvv)))] H → va_D A [(mo, .inr (4, [.long zp, .long zr, .long zh, .ref a1, .ref a2, .ref a3, .ref a4, .ref a5, .long zx, .long zy, .int (bI zi), .long zu, .long zv, .int zl])), (a1, .inl (cJ, 16, .inr (.inl zpx))), (a2, .inl (cJ, 16, .inr (.inl zpy))), (a3, .inl (cZ, 16, .inl (fun i => bI (zip i)))), (a4, .inl (cJ, 8, .inr (.inl zvu))), (a5, .inl (cJ, 8, .inr (.inl zvv)))] → va_S A s.heap H locs → W pg l e (headSpec wsX4_point rmX4_point).room s m ([.ref mo, .int q0, .int q1, .int q2] : List Value).toArray below meth c H locs 0 0 (MQ below (QE D (some (.int rr)) [(mo, .inr (4, [.long zp, .long zr, .long zh, .ref a1, .ref a2, .ref a3, .ref a4, .ref a5, .long ozx, .long ozy, .int (bI ozi), .long zu, .long zv, .int zl])), (a1, .inl (cJ, 16, .inr (.inl ozpx))), (a2, .inl (cJ, 16, .inr (.inl ozpy))), (a3, .inl (cZ, 16, .inl (fun i => bI (ozip i)))), (a4, .inl (cJ, 8, .inr (.inl zvu))), (a5, .inl (cJ, 8, .inr (.inl zvv)))] A) ([.ref mo, .int q0, .int q1, .int q2] : List Value).toArray s 0 0 A) (F0 m 0 ls []) from key s.heap [] hP hD hS
  intro H locs hP hD hS
  unfold fX4_point at h
  refine lv_aload_n hx hb dX4_point_0 rfl (lv_at hl 0 rfl) ?_
  refine va_get (D := D) (ci := 4) (v := .long zp) (C := RX4) (T := TX4) (N := 14) hx hb hts iwX4_point_4 hown hE.1 hP 0 rfl rfl 0 (by decide) (hts _ lkX4_point_0) (fun _ h9 => h9) rfl dX4_point_1 ?_
  refine lv_lconst (v := 0) hx hb dX4_point_4 (by decide) ?_
  refine lc_ne (tgt := 12) hx hb dX4_point_5 dX4_point_6 (by decide) (fun c1 => ?_) (fun c1 => ?_)
  · have h := ite_f c1 h
    refine lv_iload_n hx hb dX4_point_12 rfl (lv_at hl 1 rfl) ?_
    obtain ⟨r2, h3, h⟩ := bind_s h
    refine ki (kS (As := [.int q0]) (rest := []) C0 (kX4_isSlot l D cJ cZ q0 r2 h3) gX4_point_X4_isSlot rfl ⟨rfl, rfl⟩ hdX4_isSlot ⟨Nat.le_of_ble_eq_true rfl, Nat.le_of_ble_eq_true rfl⟩ (hP.sub [] rfl) hE hl rfl rfl (Nat.le_of_ble_eq_true rfl) dX4_point_13 (Nat.zero_le _) (Nat.zero_le _)) ?_
    refine lv_if_eq (tgt := 49) hx hb dX4_point_16 (by decide) (fun c4 => ?_) (fun c4 => ?_)
    · have h := ite_t c4 h
      refine lv_bipush (v := (-2)) hx hb dX4_point_49 (by decide) ?_
      cases h
      exact rfI hx hb hr hlocks hP hD hS dX4_point_51
    · have h := ite_f c4 h
      refine lv_iload_n hx hb dX4_point_19 rfl (lv_at hl 2 rfl) ?_
      refine lv_i2l (v := q1.toInt64) hx hb dX4_point_20 rfl ?_
      refine lv_lconst (v := 0) hx hb dX4_point_21 (by decide) ?_
      refine lv_aload_n hx hb dX4_point_22 rfl (lv_at hl 0 rfl) ?_
      refine va_get (D := D) (ci := 4) (v := .long zp) (C := RX4) (T := TX4) (N := 14) hx hb hts iwX4_point_4 hown hE.1 hP 0 rfl rfl 0 (by decide) (hts _ lkX4_point_0) (fun _ h9 => h9) rfl dX4_point_23 ?_
      refine lv_lconst (v := 1) hx hb dX4_point_26 (by decide) ?_
      refine lv_lsub hx hb dX4_point_27 ?_
      obtain ⟨r5, h6, h⟩ := bind_s h
      refine ki (kS (As := [.long q1.toInt64, .long 0, .long (zp - 1)]) (rest := []) C0 (kX4_in l D cJ cZ q1.toInt64 0 (zp - 1) r5 h6) gX4_point_X4_in rfl ⟨rfl, rfl⟩ hdX4_in ⟨Nat.le_of_ble_eq_true rfl, Nat.le_of_ble_eq_true rfl⟩ (hP.sub [] rfl) hE hl rfl rfl (Nat.le_of_ble_eq_true rfl) dX4_point_28 (Nat.zero_le _) (Nat.zero_le _)) ?_
      refine lv_if_eq (tgt := 49) hx hb dX4_point_31 (by decide) (fun c7 => ?_) (fun c7 => ?_)
      · have h := ite_t c7 h
        refine lv_bipush (v := (-2)) hx hb dX4_point_49 (by decide) ?_
        cases h
        exact rfI hx hb hr hlocks hP hD hS dX4_point_51
      · have h := ite_f c7 h
        refine lv_iload_n hx hb dX4_point_34 rfl (lv_at hl 3 rfl) ?_
        refine lv_i2l (v := q2.toInt64) hx hb dX4_point_35 rfl ?_
        refine lv_lconst (v := 0) hx hb dX4_point_36 (by decide) ?_
        refine lv_aload_n hx hb dX4_point_37 rfl (lv_at hl 0 rfl) ?_
        refine va_get (D := D) (ci := 4) (v := .long zp) (C := RX4) (T := TX4) (N := 14) hx hb hts iwX4_point_4 hown hE.1 hP 0 rfl rfl 0 (by decide) (hts _ lkX4_point_0) (fun _ h9 => h9) rfl dX4_point_38 ?_
        refine lv_lconst (v := 1) hx hb dX4_point_41 (by decide) ?_
        refine lv_lsub hx hb dX4_point_42 ?_
        obtain ⟨r8, h9, h⟩ := bind_s h
        refine ki (kS (As := [.long q2.toInt64, .long 0, .long (zp - 1)]) (rest := []) C0 (kX4_in l D cJ cZ q2.toInt64 0 (zp - 1) r8 h9) gX4_point_X4_in rfl ⟨rfl, rfl⟩ hdX4_in ⟨Nat.le_of_ble_eq_true rfl, Nat.le_of_ble_eq_true rfl⟩ (hP.sub [] rfl) hE hl rfl rfl (Nat.le_of_ble_eq_true rfl) dX4_point_43 (Nat.zero_le _) (Nat.zero_le _)) ?_
        refine lv_if_ne (tgt := 52) hx hb dX4_point_46 (by decide) (fun c10 => ?_) (fun c10 => ?_)
        · have h := ite_f c10 h
          refine lv_iload_n hx hb dX4_point_52 rfl (lv_at hl 3 rfl) ?_
          refine lv_i2l (v := q2.toInt64) hx hb dX4_point_53 rfl ?_
          refine lv_iload_n hx hb dX4_point_54 rfl (lv_at hl 3 rfl) ?_
          refine lv_i2l (v := q2.toInt64) hx hb dX4_point_55 rfl ?_
          refine lv_lmul hx hb dX4_point_56 ?_
          refine lv_aload_n hx hb dX4_point_57 rfl (lv_at hl 0 rfl) ?_
          refine va_get (D := D) (ci := 4) (v := .long zp) (C := RX4) (T := TX4) (N := 14) hx hb hts iwX4_point_4 hown hE.1 hP 0 rfl rfl 0 (by decide) (hts _ lkX4_point_0) (fun _ h9 => h9) rfl dX4_point_58 ?_
          refine lv_lremJ hx hb dX4_point_61 c1 ?_
          refine lv_aload_n hx hb dX4_point_62 rfl (lv_at hl 0 rfl) ?_
          refine lv_iload_n hx hb dX4_point_63 rfl (lv_at hl 2 rfl) ?_
          refine lv_i2l (v := q1.toInt64) hx hb dX4_point_64 rfl ?_
          obtain ⟨r11, h12, h⟩ := bind_s h
          refine kl (kV (As := [.long q1.toInt64]) (rest := [.long (jrem (q2.toInt64 * q2.toInt64) zp)]) C0 (kX4_curve l D cJ cZ mo a1 a2 a3 a4 a5 zp zr zh zx zy zi zu zv zl zpx zpy zip zvu zvv q1.toInt64 r11 h12) gX4_point_X4_curve rfl ⟨rfl, rfl⟩ hdX4_curve ⟨Nat.le_of_ble_eq_true rfl, Nat.le_of_ble_eq_true rfl⟩ 4 0 rfl rfl rfl hP hE hl rfl rfl (Nat.le_of_ble_eq_true rfl) dX4_point_65 (Nat.zero_le _) (Nat.zero_le _)) ?_
          refine lc_eq (tgt := 74) hx hb dX4_point_68 dX4_point_69 (by decide) (fun c13 => ?_) (fun c13 => ?_)
          · have h := ite_t c13 h
            refine lv_aload_n hx hb dX4_point_74 rfl (lv_at hl 0 rfl) ?_
            refine lv_iload_n hx hb dX4_point_75 rfl (lv_at hl 2 rfl) ?_
            refine lv_i2l (v := q1.toInt64) hx hb dX4_point_76 rfl ?_
            refine va_put (D := D) (ci := 4) (v := .long q1.toInt64) (ty := .long) (C := RX4) (T := TX4) (N := 14) hx hb hts iwX4_point_4 tyX4 tyX4_ok nmX4 hown hE.1 hP hD hS 0 rfl rfl 8 (by decide) (hts _ lkX4_point_1) (fun _ h9 => h9) rfl (by decide +kernel) rfl rfl (Nat.le_of_ble_eq_true rfl) dX4_point_77 (fun H locs hP hD hS => ?_)
            have hP : va_P D vwCl [(mo, .inr (4, [.long zp, .long zr, .long zh, .ref a1, .ref a2, .ref a3, .ref a4, .ref a5, .long q1.toInt64, .long zy, .int (bI zi), .long zu, .long zv, .int zl])), (a1, .inl (cJ, 16, .inr (.inl zpx))), (a2, .inl (cJ, 16, .inr (.inl zpy))), (a3, .inl (cZ, 16, .inl (fun i => bI (zip i)))), (a4, .inl (cJ, 8, .inr (.inl zvu))), (a5, .inl (cJ, 8, .inr (.inl zvv)))] H := hP
            have hD : va_D A [(mo, .inr (4, [.long zp, .long zr, .long zh, .ref a1, .ref a2, .ref a3, .ref a4, .ref a5, .long q1.toInt64, .long zy, .int (bI zi), .long zu, .long zv, .int zl])), (a1, .inl (cJ, 16, .inr (.inl zpx))), (a2, .inl (cJ, 16, .inr (.inl zpy))), (a3, .inl (cZ, 16, .inl (fun i => bI (zip i)))), (a4, .inl (cJ, 8, .inr (.inl zvu))), (a5, .inl (cJ, 8, .inr (.inl zvv)))] := hD
            refine lv_aload_n hx hb dX4_point_80 rfl (lv_at hl 0 rfl) ?_
            refine lv_iload_n hx hb dX4_point_81 rfl (lv_at hl 3 rfl) ?_
            refine lv_i2l (v := q2.toInt64) hx hb dX4_point_82 rfl ?_
            refine va_put (D := D) (ci := 4) (v := .long q2.toInt64) (ty := .long) (C := RX4) (T := TX4) (N := 14) hx hb hts iwX4_point_4 tyX4 tyX4_ok nmX4 hown hE.1 hP hD hS 0 rfl rfl 9 (by decide) (hts _ lkX4_point_2) (fun _ h9 => h9) rfl (by decide +kernel) rfl rfl (Nat.le_of_ble_eq_true rfl) dX4_point_83 (fun H locs hP hD hS => ?_)
            have hP : va_P D vwCl [(mo, .inr (4, [.long zp, .long zr, .long zh, .ref a1, .ref a2, .ref a3, .ref a4, .ref a5, .long q1.toInt64, .long q2.toInt64, .int (bI zi), .long zu, .long zv, .int zl])), (a1, .inl (cJ, 16, .inr (.inl zpx))), (a2, .inl (cJ, 16, .inr (.inl zpy))), (a3, .inl (cZ, 16, .inl (fun i => bI (zip i)))), (a4, .inl (cJ, 8, .inr (.inl zvu))), (a5, .inl (cJ, 8, .inr (.inl zvv)))] H := hP
            have hD : va_D A [(mo, .inr (4, [.long zp, .long zr, .long zh, .ref a1, .ref a2, .ref a3, .ref a4, .ref a5, .long q1.toInt64, .long q2.toInt64, .int (bI zi), .long zu, .long zv, .int zl])), (a1, .inl (cJ, 16, .inr (.inl zpx))), (a2, .inl (cJ, 16, .inr (.inl zpy))), (a3, .inl (cZ, 16, .inl (fun i => bI (zip i)))), (a4, .inl (cJ, 8, .inr (.inl zvu))), (a5, .inl (cJ, 8, .inr (.inl zvv)))] := hD
            refine lv_aload_n hx hb dX4_point_86 rfl (lv_at hl 0 rfl) ?_
            refine lv_iconst (v := 1) hx hb dX4_point_87 (by decide) ?_
            refine va_put (D := D) (ci := 4) (v := .int (bI true)) (ty := .boolean) (C := RX4) (T := TX4) (N := 14) hx hb hts iwX4_point_4 tyX4 tyX4_ok nmX4 hown hE.1 hP hD hS 0 rfl rfl 10 (by decide) (hts _ lkX4_point_3) (fun _ h9 => h9) rfl (by decide +kernel) (narv_bI _) (fits_bI _) (Nat.le_of_ble_eq_true rfl) dX4_point_88 (fun H locs hP hD hS => ?_)
            have hP : va_P D vwCl [(mo, .inr (4, [.long zp, .long zr, .long zh, .ref a1, .ref a2, .ref a3, .ref a4, .ref a5, .long q1.toInt64, .long q2.toInt64, .int (bI true), .long zu, .long zv, .int zl])), (a1, .inl (cJ, 16, .inr (.inl zpx))), (a2, .inl (cJ, 16, .inr (.inl zpy))), (a3, .inl (cZ, 16, .inl (fun i => bI (zip i)))), (a4, .inl (cJ, 8, .inr (.inl zvu))), (a5, .inl (cJ, 8, .inr (.inl zvv)))] H := hP
            have hD : va_D A [(mo, .inr (4, [.long zp, .long zr, .long zh, .ref a1, .ref a2, .ref a3, .ref a4, .ref a5, .long q1.toInt64, .long q2.toInt64, .int (bI true), .long zu, .long zv, .int zl])), (a1, .inl (cJ, 16, .inr (.inl zpx))), (a2, .inl (cJ, 16, .inr (.inl zpy))), (a3, .inl (cZ, 16, .inl (fun i => bI (zip i)))), (a4, .inl (cJ, 8, .inr (.inl zvu))), (a5, .inl (cJ, 8, .inr (.inl zvv)))] := hD
            refine lv_aload_n hx hb dX4_point_91 rfl (lv_at hl 0 rfl) ?_
            refine lv_iload_n hx hb dX4_point_92 rfl (lv_at hl 1 rfl) ?_
            obtain ⟨⟨o14, o15, o16⟩, h17, h⟩ := bind_s h
            try dsimp only at h
            refine kE (wc := [(mo, .inr (4, [.long zp, .long zr, .long zh, .ref a1, .ref a2, .ref a3, .ref a4, .ref a5, .long q1.toInt64, .long q2.toInt64, .int (bI true), .long zu, .long zv, .int zl])), (a1, .inl (cJ, 16, .inr (.inl zpx))), (a2, .inl (cJ, 16, .inr (.inl zpy))), (a3, .inl (cZ, 16, .inl (fun i => bI (zip i)))), (a4, .inl (cJ, 8, .inr (.inl zvu))), (a5, .inl (cJ, 8, .inr (.inl zvv)))]) (wr := []) [0, 1, 2, 3, 4, 5] [] hP hD hS hA rfl rfl rfl (by decide) rfl (eV (As := [.int q0]) (rest := []) C0 (kX4_store l D cJ cZ mo a1 a2 a3 a4 a5 zp zr zh q1.toInt64 q2.toInt64 true zu zv zl zpx zpy zip zvu zvv q0 H.size o14 o15 o16 h17) gX4_point_X4_store rfl ⟨rfl, rfl⟩ hdX4_store ⟨Nat.le_of_ble_eq_true rfl, Nat.le_of_ble_eq_true rfl⟩ 4 0 rfl rfl rfl hP hD hE hl rfl rfl (Nat.le_of_ble_eq_true rfl) dX4_point_93 ⟨Nat.zero_le _, Nat.zero_le _⟩) (fun H locs hP hD hS => ?_)
            have hP : va_P D vwCl [(mo, .inr (4, [.long zp, .long zr, .long zh, .ref a1, .ref a2, .ref a3, .ref a4, .ref a5, .long q1.toInt64, .long q2.toInt64, .int (bI true), .long zu, .long zv, .int zl])), (a1, .inl (cJ, 16, .inr (.inl o14))), (a2, .inl (cJ, 16, .inr (.inl o15))), (a3, .inl (cZ, 16, .inl (fun i => bI (o16 i)))), (a4, .inl (cJ, 8, .inr (.inl zvu))), (a5, .inl (cJ, 8, .inr (.inl zvv)))] H := hP
            have hD : va_D A [(mo, .inr (4, [.long zp, .long zr, .long zh, .ref a1, .ref a2, .ref a3, .ref a4, .ref a5, .long q1.toInt64, .long q2.toInt64, .int (bI true), .long zu, .long zv, .int zl])), (a1, .inl (cJ, 16, .inr (.inl o14))), (a2, .inl (cJ, 16, .inr (.inl o15))), (a3, .inl (cZ, 16, .inl (fun i => bI (o16 i)))), (a4, .inl (cJ, 8, .inr (.inl zvu))), (a5, .inl (cJ, 8, .inr (.inl zvv)))] := hD
            refine lv_iconst (v := 1) hx hb dX4_point_96 (by decide) ?_
            cases h
            exact rfI hx hb hr hlocks hP hD hS dX4_point_97
          · have h := ite_f c13 h
            refine lv_iconst (v := (-1)) hx hb dX4_point_72 (by decide) ?_
            cases h
            exact rfI hx hb hr hlocks hP hD hS dX4_point_73
        · have h := ite_t c10 h
          refine lv_bipush (v := (-2)) hx hb dX4_point_49 (by decide) ?_
          cases h
          exact rfI hx hb hr hlocks hP hD hS dX4_point_51
  · have h := ite_t c1 h
    refine lv_bipush (v := (-3)) hx hb dX4_point_9 (by decide) ?_
    cases h
    exact rfI hx hb hr hlocks hP hD hS dX4_point_11
def fX4_nowhere  (zp : Int64) (zip : Nat → Bool) (q0 : Int32) : Option (Int32 × (Nat → Bool)) :=
  if zp = 0 then
    some ((-3), zip)
  else
    (fX4_isSlot q0).bind fun r2 =>
    if (bI r2) = 0 then
      some ((-2), zip)
    else
      if q0 < 0 ∨ 16 ≤ q0.toNatClampNeg then none else
      bnd (uB zip q0.toNatClampNeg false) fun w6 =>
      some (1, w6)
abbrev rmX4_nowhere : Room := { frames := 2, cells := 0, slots := 0, locals := 45 }
theorem lkX4_nowhere_0 : (.fieldLink RX4 28 "PairingDeskModel" "p" "J" : Cond) ∈ wsX4_nowhere := by decide +kernel
theorem lkX4_nowhere_1 : (.fieldLink RX4 16 "PairingDeskModel" "isPoint" "[Z" : Cond) ∈ wsX4_nowhere := by decide +kernel
theorem iwX4_nowhere_4 : ∀ w ∈ wsX40, w ∈ wsX4_nowhere := by decide +kernel
theorem hdX4_nowhere : KN yX4_nowhere 1 := by decide +kernel
set_option maxHeartbeats 4000000 in
set_option maxRecDepth 100000 in
theorem kX4_nowhere (l : Launch) (D : va_G) (cJ cZ : ClassId) (mo a1 a2 a3 a4 a5 : Nat) (zp : Int64) (zr : Int64) (zh : Int64) (zx : Int64) (zy : Int64) (zi : Bool) (zu : Int64) (zv : Int64) (zl : Int32) (zpx : Nat → Int64) (zpy : Nat → Int64) (zip : Nat → Bool) (zvu : Nat → Int64) (zvv : Nat → Int64) (q0 : Int32) (sz : Nat) (rr : Int32) (ozip : Nat → Bool) (h : fX4_nowhere zp zip q0 = some (rr, ozip)) : Met l yX4_nowhere wsX4_nowhere rmX4_nowhere (PE D cJ cZ [.ref mo, .int q0] [(mo, .inr (4, [.long zp, .long zr, .long zh, .ref a1, .ref a2, .ref a3, .ref a4, .ref a5, .long zx, .long zy, .int (bI zi), .long zu, .long zv, .int zl])), (a1, .inl (cJ, 16, .inr (.inl zpx))), (a2, .inl (cJ, 16, .inr (.inl zpy))), (a3, .inl (cZ, 16, .inl (fun i => bI (zip i)))), (a4, .inl (cJ, 8, .inr (.inl zvu))), (a5, .inl (cJ, 8, .inr (.inl zvv)))] sz) (QE D (some (.int rr)) [(mo, .inr (4, [.long zp, .long zr, .long zh, .ref a1, .ref a2, .ref a3, .ref a4, .ref a5, .long zx, .long zy, .int (bI zi), .long zu, .long zv, .int zl])), (a1, .inl (cJ, 16, .inr (.inl zpx))), (a2, .inl (cJ, 16, .inr (.inl zpy))), (a3, .inl (cZ, 16, .inl (fun i => bI (ozip i)))), (a4, .inl (cJ, 8, .inr (.inl zvu))), (a5, .inl (cJ, 8, .inr (.inl zvv)))] (va_A [(mo, .inr (4, [.long zp, .long zr, .long zh, .ref a1, .ref a2, .ref a3, .ref a4, .ref a5, .long zx, .long zy, .int (bI zi), .long zu, .long zv, .int zl])), (a1, .inl (cJ, 16, .inr (.inl zpx))), (a2, .inl (cJ, 16, .inr (.inl zpy))), (a3, .inl (cZ, 16, .inl (fun i => bI (zip i)))), (a4, .inl (cJ, 8, .inr (.inl zvu))), (a5, .inl (cJ, 8, .inr (.inl zvv)))] sz)) 0 0 (va_A [(mo, .inr (4, [.long zp, .long zr, .long zh, .ref a1, .ref a2, .ref a3, .ref a4, .ref a5, .long zx, .long zy, .int (bI zi), .long zu, .long zv, .int zl])), (a1, .inl (cJ, 16, .inr (.inl zpx))), (a2, .inl (cJ, 16, .inr (.inl zpy))), (a3, .inl (cZ, 16, .inl (fun i => bI (zip i)))), (a4, .inl (cJ, 8, .inr (.inl zvu))), (a5, .inl (cJ, 8, .inr (.inl zvv)))] sz) := by
  refine Met.ofW (cc := cX4_nowhere) (maxL := 2) (ret := some .int) (by decide) rfl ?_
  intro pg e s m args below meth c s₁ B hml hv
  obtain ⟨rfl, hsz, hP, hE, hD0⟩ := hv
  have hx := B.exec
  have hb := B.bytes
  have hr := B.returns
  have hlocks := B.notSynchronized
  have C0 : CallFix pg m c cX4_nowhere 2 s ([.ref mo, .int q0] : List Value).toArray wsX4_nowhere RX4 := ⟨hx, hb, hml, findClass_of_methodNamed B.named, atoms_spec (ws := wsX4_nowhere) B.pre⟩
  have hown := C0.2.2.2.1
  have hts := C0.2.2.2.2
  subst hsz
  have hD := hD0.self (sz := s.heap.size)
  generalize hAe : va_A [(mo, .inr (4, [.long zp, .long zr, .long zh, .ref a1, .ref a2, .ref a3, .ref a4, .ref a5, .long zx, .long zy, .int (bI zi), .long zu, .long zv, .int zl])), (a1, .inl (cJ, 16, .inr (.inl zpx))), (a2, .inl (cJ, 16, .inr (.inl zpy))), (a3, .inl (cZ, 16, .inl (fun i => bI (zip i)))), (a4, .inl (cJ, 8, .inr (.inl zvu))), (a5, .inl (cJ, 8, .inr (.inl zvv)))] s.heap.size = A at hD ⊢
  have hA : ∀ q : Nat, s.heap.size ≤ q → A q := fun q h => by rw [← hAe]; exact Or.inr h
  have hS : va_S A s.heap s.heap [] := va_S.rf
  have hP : va_P D vwCl [(mo, .inr (4, [.long zp, .long zr, .long zh, .ref a1, .ref a2, .ref a3, .ref a4, .ref a5, .long zx, .long zy, .int (bI zi), .long zu, .long zv, .int zl])), (a1, .inl (cJ, 16, .inr (.inl zpx))), (a2, .inl (cJ, 16, .inr (.inl zpy))), (a3, .inl (cZ, 16, .inl (fun i => bI (zip i)))), (a4, .inl (cJ, 8, .inr (.inl zvu))), (a5, .inl (cJ, 8, .inr (.inl zvv)))] s.heap := hP
  have hl := lv_entry ([.ref mo, .int q0]) (n := 2) (Nat.le_of_ble_eq_true rfl)
  rw [lg_entry_eq]
  generalize (lg_sl ([.ref mo, .int q0]) ++ List.replicate (2 - (lg_sl ([.ref mo, .int q0])).length) Slot.unset).toArray = ls at hl ⊢
  have hl : lv_has ls 2 [(0, .ref mo), (1, .int q0)] := hl
  suffices key : ∀ (H : Heap) (locs : List Loc), va_P D vwCl [(mo, .inr (4, [.long zp, .long zr, .long zh, .ref a1, .ref a2, .ref a3, .ref a4, .ref a5, .long zx, .long zy, .int (bI zi), .long zu, .long zv, .int zl])), (a1, .inl (cJ, 16, .inr (.inl zpx))), (a2, .inl (cJ, 16, .inr (.inl zpy))), (a3, .inl (cZ, 16, .inl (fun i => bI (zip i)))), (a4, .inl (cJ, 8, .inr (.inl zvu))), (a5, .inl (cJ, 8, .inr (.inl zvv)))] H → va_D A [(mo, .inr (4, [.long zp, .long zr, .long zh, .ref a1, .ref a2, .ref a3, .ref a4, .ref a5, .long zx, .long zy, .int (bI zi), .long zu, .long zv, .int zl])), (a1, .inl (cJ, 16, .inr (.inl zpx))), (a2, .inl (cJ, 16, .inr (.inl zpy))), (a3, .inl (cZ, 16, .inl (fun i => bI (zip i)))), (a4, .inl (cJ, 8, .inr (.inl zvu))), (a5, .inl (cJ, 8, .inr (.inl zvv)))] → va_S A s.heap H locs → W pg l e (headSpec wsX4_nowhere rmX4_nowhere).room s m ([.ref mo, .int q0] : List Value).toArray below meth c H locs 0 0 (MQ below (QE D (some (.int rr)) [(mo, .inr (4, [.long zp, .long zr, .long zh, .ref a1, .ref a2, .ref a3, .ref a4, .ref a5, .long zx, .long zy, .int (bI zi), .long zu, .long zv, .int zl])), (a1, .inl (cJ, 16, .inr (.inl zpx))), (a2, .inl (cJ, 16, .inr (.inl zpy))), (a3, .inl (cZ, 16, .inl (fun i => bI (ozip i)))), (a4, .inl (cJ, 8, .inr (.inl zvu))), (a5, .inl (cJ, 8, .inr (.inl zvv)))] A) ([.ref mo, .int q0] : List Value).toArray s 0 0 A) (F0 m 0 ls []) from key s.heap [] hP hD hS
  intro H locs hP hD hS
  unfold fX4_nowhere at h
  refine lv_aload_n hx hb dX4_nowhere_0 rfl (lv_at hl 0 rfl) ?_
  refine va_get (D := D) (ci := 4) (v := .long zp) (C := RX4) (T := TX4) (N := 14) hx hb hts iwX4_nowhere_4 hown hE.1 hP 0 rfl rfl 0 (by decide) (hts _ lkX4_nowhere_0) (fun _ h9 => h9) rfl dX4_nowhere_1 ?_
  refine lv_lconst (v := 0) hx hb dX4_nowhere_4 (by decide) ?_
  refine lc_ne (tgt := 12) hx hb dX4_nowhere_5 dX4_nowhere_6 (by decide) (fun c1 => ?_) (fun c1 => ?_)
  · have h := ite_f c1 h
    refine lv_iload_n hx hb dX4_nowhere_12 rfl (lv_at hl 1 rfl) ?_
    obtain ⟨r2, h3, h⟩ := bind_s h
    refine ki (kS (As := [.int q0]) (rest := []) C0 (kX4_isSlot l D cJ cZ q0 r2 h3) gX4_nowhere_X4_isSlot rfl ⟨rfl, rfl⟩ hdX4_isSlot ⟨Nat.le_of_ble_eq_true rfl, Nat.le_of_ble_eq_true rfl⟩ (hP.sub [] rfl) hE hl rfl rfl (Nat.le_of_ble_eq_true rfl) dX4_nowhere_13 (Nat.zero_le _) (Nat.zero_le _)) ?_
    refine lv_if_ne (tgt := 22) hx hb dX4_nowhere_16 (by decide) (fun c4 => ?_) (fun c4 => ?_)
    · have h := ite_f c4 h
      refine lv_aload_n hx hb dX4_nowhere_22 rfl (lv_at hl 0 rfl) ?_
      refine va_get (D := D) (ci := 4) (v := .ref a3) (C := RX4) (T := TX4) (N := 14) hx hb hts iwX4_nowhere_4 hown hE.1 hP 0 rfl rfl 5 (by decide) (hts _ lkX4_nowhere_1) (fun _ h9 => h9) rfl dX4_nowhere_23 ?_
      refine lv_iload_n hx hb dX4_nowhere_26 rfl (lv_at hl 1 rfl) ?_
      refine lv_iconst (v := 0) hx hb dX4_nowhere_27 (by decide) ?_
      obtain ⟨c5, h⟩ := ite_n h
      refine va_zast (x := bI false) hx hb hE.1 hP hD hS 3 1 rfl rfl c5 dX4_nowhere_28 (fun H locs hP hD hS => ?_)
      rw [upd_bI] at hP hD
      have hP : va_P D vwCl [(mo, .inr (4, [.long zp, .long zr, .long zh, .ref a1, .ref a2, .ref a3, .ref a4, .ref a5, .long zx, .long zy, .int (bI zi), .long zu, .long zv, .int zl])), (a1, .inl (cJ, 16, .inr (.inl zpx))), (a2, .inl (cJ, 16, .inr (.inl zpy))), (a3, .inl (cZ, 16, .inl (fun i => bI ((uB zip q0.toNatClampNeg false) i)))), (a4, .inl (cJ, 8, .inr (.inl zvu))), (a5, .inl (cJ, 8, .inr (.inl zvv)))] H := hP
      have hD : va_D A [(mo, .inr (4, [.long zp, .long zr, .long zh, .ref a1, .ref a2, .ref a3, .ref a4, .ref a5, .long zx, .long zy, .int (bI zi), .long zu, .long zv, .int zl])), (a1, .inl (cJ, 16, .inr (.inl zpx))), (a2, .inl (cJ, 16, .inr (.inl zpy))), (a3, .inl (cZ, 16, .inl (fun i => bI ((uB zip q0.toNatClampNeg false) i)))), (a4, .inl (cJ, 8, .inr (.inl zvu))), (a5, .inl (cJ, 8, .inr (.inl zvv)))] := hD
      obtain ⟨w6, ew6, h⟩ := bnd_s h
      rw [← ew6] at hP hD
      refine lv_iconst (v := 1) hx hb dX4_nowhere_29 (by decide) ?_
      cases h
      exact rfI hx hb hr hlocks hP hD hS dX4_nowhere_30
    · have h := ite_t c4 h
      refine lv_bipush (v := (-2)) hx hb dX4_nowhere_19 (by decide) ?_
      cases h
      exact rfI hx hb hr hlocks hP hD hS dX4_nowhere_21
  · have h := ite_t c1 h
    refine lv_bipush (v := (-3)) hx hb dX4_nowhere_9 (by decide) ?_
    cases h
    exact rfI hx hb hr hlocks hP hD hS dX4_nowhere_11
def fX4_turnOf_25 (N : Nat) (zp : Int64) (zh : Int64) : Nat → Int64 → Int32 → Int64 → Int64 → Bool → Option (Int32 × Int64 × Int64 × Bool)
  | 0, _, _, _, _, _ => none
  | n + 1, l3, l5, zx, zy, zi =>
    if 1000 < l5 then
      some (1000, zx, zy, false)
    else
      (fX4_curve zp l3).bind fun r4 =>
      if r4 = 0 then
        if zp = 0 then none else
        bnd (jrem (l3 + 1) zp) fun w22 =>
        bnd (l5 + 1) fun w23 =>
        fX4_turnOf_25 N zp zh n w22 w23 zx zy zi
      else
        (fX4_rootOf N zp r4).bind fun r7 =>
        if r7 < 0 then
          if zp = 0 then none else
          bnd (jrem (l3 + 1) zp) fun w11 =>
          bnd (l5 + 1) fun w12 =>
          fX4_turnOf_25 N zp zh n w11 w12 zx zy zi
        else
          (fX4_take N zp l3 r7 true zh).bind fun (o13, o14, o15) =>
          if (bI o15) = 0 then
            if zp = 0 then none else
            bnd (jrem (l3 + 1) zp) fun w19 =>
            bnd (l5 + 1) fun w20 =>
            fX4_turnOf_25 N zp zh n w19 w20 o13 o14 o15
          else
            some (l5, o13, o14, o15)
def fX4_turnOf (N : Nat) (zp : Int64) (zh : Int64) (zx : Int64) (zy : Int64) (zi : Bool) (q0 : Int64) : Option (Int32 × Int64 × Int64 × Bool) :=
  if zp = 0 then none else
  bnd (jrem (((jrem (jushr q0 1) zp) * 2) + (q0 &&& 1)) zp) fun w2 =>
  fX4_turnOf_25 N zp zh N w2 1 zx zy zi
abbrev rmX4_turnOf : Room := { frames := 6, cells := 0, slots := 0, locals := 161 }
theorem lkX4_turnOf_0 : (.fieldLink RX4 28 "PairingDeskModel" "p" "J" : Cond) ∈ wsX4_turnOf := by decide +kernel
theorem lkX4_turnOf_1 : (.constantLong RX4 26 (2) : Cond) ∈ wsX4_turnOf := by decide +kernel
theorem lkX4_turnOf_2 : (.fieldLink RX4 67 "PairingDeskModel" "is" "Z" : Cond) ∈ wsX4_turnOf := by decide +kernel
theorem lkX4_turnOf_3 : (.fieldLink RX4 61 "PairingDeskModel" "x" "J" : Cond) ∈ wsX4_turnOf := by decide +kernel
theorem lkX4_turnOf_4 : (.fieldLink RX4 64 "PairingDeskModel" "y" "J" : Cond) ∈ wsX4_turnOf := by decide +kernel
theorem lkX4_turnOf_5 : (.fieldLink RX4 51 "PairingDeskModel" "h" "J" : Cond) ∈ wsX4_turnOf := by decide +kernel
theorem lkX4_turnOf_6 : (.constantLong RX4 42 (-1) : Cond) ∈ wsX4_turnOf := by decide +kernel
theorem iwX4_turnOf_4 : ∀ w ∈ wsX40, w ∈ wsX4_turnOf := by decide +kernel
theorem hdX4_turnOf : KN yX4_turnOf 1 := by decide +kernel
set_option maxHeartbeats 4000000 in
set_option maxRecDepth 100000 in
theorem kX4_turnOf (l : Launch) (D : va_G) (cJ cZ : ClassId) (mo a1 a2 a3 a4 a5 : Nat) (N : Nat) (zp : Int64) (zr : Int64) (zh : Int64) (zx : Int64) (zy : Int64) (zi : Bool) (zu : Int64) (zv : Int64) (zl : Int32) (zpx : Nat → Int64) (zpy : Nat → Int64) (zip : Nat → Bool) (zvu : Nat → Int64) (zvv : Nat → Int64) (q0 : Int64) (sz : Nat) (rr : Int32) (ozx : Int64) (ozy : Int64) (ozi : Bool) (h : fX4_turnOf N zp zh zx zy zi q0 = some (rr, ozx, ozy, ozi)) : Met l yX4_turnOf wsX4_turnOf rmX4_turnOf (PE D cJ cZ [.ref mo, .long q0] [(mo, .inr (4, [.long zp, .long zr, .long zh, .ref a1, .ref a2, .ref a3, .ref a4, .ref a5, .long zx, .long zy, .int (bI zi), .long zu, .long zv, .int zl])), (a1, .inl (cJ, 16, .inr (.inl zpx))), (a2, .inl (cJ, 16, .inr (.inl zpy))), (a3, .inl (cZ, 16, .inl (fun i => bI (zip i)))), (a4, .inl (cJ, 8, .inr (.inl zvu))), (a5, .inl (cJ, 8, .inr (.inl zvv)))] sz) (QE D (some (.int rr)) [(mo, .inr (4, [.long zp, .long zr, .long zh, .ref a1, .ref a2, .ref a3, .ref a4, .ref a5, .long ozx, .long ozy, .int (bI ozi), .long zu, .long zv, .int zl])), (a1, .inl (cJ, 16, .inr (.inl zpx))), (a2, .inl (cJ, 16, .inr (.inl zpy))), (a3, .inl (cZ, 16, .inl (fun i => bI (zip i)))), (a4, .inl (cJ, 8, .inr (.inl zvu))), (a5, .inl (cJ, 8, .inr (.inl zvv)))] (va_A [(mo, .inr (4, [.long zp, .long zr, .long zh, .ref a1, .ref a2, .ref a3, .ref a4, .ref a5, .long zx, .long zy, .int (bI zi), .long zu, .long zv, .int zl])), (a1, .inl (cJ, 16, .inr (.inl zpx))), (a2, .inl (cJ, 16, .inr (.inl zpy))), (a3, .inl (cZ, 16, .inl (fun i => bI (zip i)))), (a4, .inl (cJ, 8, .inr (.inl zvu))), (a5, .inl (cJ, 8, .inr (.inl zvv)))] sz)) 0 0 (va_A [(mo, .inr (4, [.long zp, .long zr, .long zh, .ref a1, .ref a2, .ref a3, .ref a4, .ref a5, .long zx, .long zy, .int (bI zi), .long zu, .long zv, .int zl])), (a1, .inl (cJ, 16, .inr (.inl zpx))), (a2, .inl (cJ, 16, .inr (.inl zpy))), (a3, .inl (cZ, 16, .inl (fun i => bI (zip i)))), (a4, .inl (cJ, 8, .inr (.inl zvu))), (a5, .inl (cJ, 8, .inr (.inl zvv)))] sz) := by
  refine Met.ofW (cc := cX4_turnOf) (maxL := 10) (ret := some .int) (by decide) rfl ?_
  intro pg e s m args below meth c s₁ B hml hv
  obtain ⟨rfl, hsz, hP, hE, hD0⟩ := hv
  have hx := B.exec
  have hb := B.bytes
  have hr := B.returns
  have hlocks := B.notSynchronized
  have C0 : CallFix pg m c cX4_turnOf 10 s ([.ref mo, .long q0] : List Value).toArray wsX4_turnOf RX4 := ⟨hx, hb, hml, findClass_of_methodNamed B.named, atoms_spec (ws := wsX4_turnOf) B.pre⟩
  have hown := C0.2.2.2.1
  have hts := C0.2.2.2.2
  subst hsz
  have hD := hD0.self (sz := s.heap.size)
  generalize hAe : va_A [(mo, .inr (4, [.long zp, .long zr, .long zh, .ref a1, .ref a2, .ref a3, .ref a4, .ref a5, .long zx, .long zy, .int (bI zi), .long zu, .long zv, .int zl])), (a1, .inl (cJ, 16, .inr (.inl zpx))), (a2, .inl (cJ, 16, .inr (.inl zpy))), (a3, .inl (cZ, 16, .inl (fun i => bI (zip i)))), (a4, .inl (cJ, 8, .inr (.inl zvu))), (a5, .inl (cJ, 8, .inr (.inl zvv)))] s.heap.size = A at hD ⊢
  have hA : ∀ q : Nat, s.heap.size ≤ q → A q := fun q h => by rw [← hAe]; exact Or.inr h
  have hS : va_S A s.heap s.heap [] := va_S.rf
  have hP : va_P D vwCl [(mo, .inr (4, [.long zp, .long zr, .long zh, .ref a1, .ref a2, .ref a3, .ref a4, .ref a5, .long zx, .long zy, .int (bI zi), .long zu, .long zv, .int zl])), (a1, .inl (cJ, 16, .inr (.inl zpx))), (a2, .inl (cJ, 16, .inr (.inl zpy))), (a3, .inl (cZ, 16, .inl (fun i => bI (zip i)))), (a4, .inl (cJ, 8, .inr (.inl zvu))), (a5, .inl (cJ, 8, .inr (.inl zvv)))] s.heap := hP
  have hl := lv_entry ([.ref mo, .long q0]) (n := 10) (Nat.le_of_ble_eq_true rfl)
  rw [lg_entry_eq]
  generalize (lg_sl ([.ref mo, .long q0]) ++ List.replicate (10 - (lg_sl ([.ref mo, .long q0])).length) Slot.unset).toArray = ls at hl ⊢
  have hl : lv_has ls 10 [(0, .ref mo), (1, .long q0)] := hl
  have loop25 : ∀ (n : Nat) (l3 : Int64) (l5 : Int32) (zx : Int64) (zy : Int64) (zi : Bool), fX4_turnOf_25 N zp zh n l3 l5 zx zy zi = some (rr, ozx, ozy, ozi) → ∀ (H : Heap) (locs : List Loc), va_P D vwCl [(mo, .inr (4, [.long zp, .long zr, .long zh, .ref a1, .ref a2, .ref a3, .ref a4, .ref a5, .long zx, .long zy, .int (bI zi), .long zu, .long zv, .int zl])), (a1, .inl (cJ, 16, .inr (.inl zpx))), (a2, .inl (cJ, 16, .inr (.inl zpy))), (a3, .inl (cZ, 16, .inl (fun i => bI (zip i)))), (a4, .inl (cJ, 8, .inr (.inl zvu))), (a5, .inl (cJ, 8, .inr (.inl zvv)))] H → va_D A [(mo, .inr (4, [.long zp, .long zr, .long zh, .ref a1, .ref a2, .ref a3, .ref a4, .ref a5, .long zx, .long zy, .int (bI zi), .long zu, .long zv, .int zl])), (a1, .inl (cJ, 16, .inr (.inl zpx))), (a2, .inl (cJ, 16, .inr (.inl zpy))), (a3, .inl (cZ, 16, .inl (fun i => bI (zip i)))), (a4, .inl (cJ, 8, .inr (.inl zvu))), (a5, .inl (cJ, 8, .inr (.inl zvv)))] → va_S A s.heap H locs → ∀ ls : Array Slot, lv_has ls 10 [(0, .ref mo), (3, .long l3), (5, .int l5)] → W pg l e (headSpec wsX4_turnOf rmX4_turnOf).room s m ([.ref mo, .long q0] : List Value).toArray below meth c H locs 0 0 (MQ below (QE D (some (.int rr)) [(mo, .inr (4, [.long zp, .long zr, .long zh, .ref a1, .ref a2, .ref a3, .ref a4, .ref a5, .long ozx, .long ozy, .int (bI ozi), .long zu, .long zv, .int zl])), (a1, .inl (cJ, 16, .inr (.inl zpx))), (a2, .inl (cJ, 16, .inr (.inl zpy))), (a3, .inl (cZ, 16, .inl (fun i => bI (zip i)))), (a4, .inl (cJ, 8, .inr (.inl zvu))), (a5, .inl (cJ, 8, .inr (.inl zvv)))] A) ([.ref mo, .long q0] : List Value).toArray s 0 0 A) (F0 m 25 ls []) := by
    intro n
    induction n with
    | zero =>
      intro l3 l5 zx zy zi h
      cases h
    | succ n ih =>
      intro l3 l5 zx zy zi h H locs hP hD hS ls hl
      rw [fX4_turnOf_25] at h
      refine lv_iload hx hb dX4_turnOf_25 (lv_at hl 2 rfl) ?_
      refine lv_sipush (v := 1000) hx hb dX4_turnOf_27 (by decide) ?_
      refine lv_icmp_gt (tgt := 117) hx hb dX4_turnOf_30 (by decide) (fun c3 => ?_) (fun c3 => ?_)
      · have h := ite_t c3 h
        refine lv_aload_n hx hb dX4_turnOf_117 rfl (lv_at hl 0 rfl) ?_
        refine lv_iconst (v := 0) hx hb dX4_turnOf_118 (by decide) ?_
        refine va_put (D := D) (ci := 4) (v := .int (bI false)) (ty := .boolean) (C := RX4) (T := TX4) (N := 14) hx hb hts iwX4_turnOf_4 tyX4 tyX4_ok nmX4 hown hE.1 hP hD hS 0 rfl rfl 10 (by decide) (hts _ lkX4_turnOf_2) (fun _ h9 => h9) rfl (by decide +kernel) (narv_bI _) (fits_bI _) (Nat.le_of_ble_eq_true rfl) dX4_turnOf_119 (fun H locs hP hD hS => ?_)
        have hP : va_P D vwCl [(mo, .inr (4, [.long zp, .long zr, .long zh, .ref a1, .ref a2, .ref a3, .ref a4, .ref a5, .long zx, .long zy, .int (bI false), .long zu, .long zv, .int zl])), (a1, .inl (cJ, 16, .inr (.inl zpx))), (a2, .inl (cJ, 16, .inr (.inl zpy))), (a3, .inl (cZ, 16, .inl (fun i => bI (zip i)))), (a4, .inl (cJ, 8, .inr (.inl zvu))), (a5, .inl (cJ, 8, .inr (.inl zvv)))] H := hP
        have hD : va_D A [(mo, .inr (4, [.long zp, .long zr, .long zh, .ref a1, .ref a2, .ref a3, .ref a4, .ref a5, .long zx, .long zy, .int (bI false), .long zu, .long zv, .int zl])), (a1, .inl (cJ, 16, .inr (.inl zpx))), (a2, .inl (cJ, 16, .inr (.inl zpy))), (a3, .inl (cZ, 16, .inl (fun i => bI (zip i)))), (a4, .inl (cJ, 8, .inr (.inl zvu))), (a5, .inl (cJ, 8, .inr (.inl zvv)))] := hD
        refine lv_sipush (v := 1000) hx hb dX4_turnOf_122 (by decide) ?_
        cases h
        exact rfI hx hb hr hlocks hP hD hS dX4_turnOf_125
      · have h := ite_f c3 h
        refine lv_aload_n hx hb dX4_turnOf_33 rfl (lv_at hl 0 rfl) ?_
        refine lv_lload_n hx hb dX4_turnOf_34 rfl (lv_at hl 1 rfl) ?_
        obtain ⟨r4, h5, h⟩ := bind_s h
        refine kl (kV (As := [.long l3]) (rest := []) C0 (kX4_curve l D cJ cZ mo a1 a2 a3 a4 a5 zp zr zh zx zy zi zu zv zl zpx zpy zip zvu zvv l3 r4 h5) gX4_turnOf_X4_curve rfl ⟨rfl, rfl⟩ hdX4_curve ⟨Nat.le_of_ble_eq_true rfl, Nat.le_of_ble_eq_true rfl⟩ 4 0 rfl rfl rfl hP hE hl rfl rfl (Nat.le_of_ble_eq_true rfl) dX4_turnOf_35 (Nat.zero_le _) (Nat.zero_le _)) ?_
        refine lv_lstore (lv' := [(6, .long r4), (0, .ref mo), (3, .long l3), (5, .int l5)]) hx hb dX4_turnOf_38 hl (by decide) rfl (fun ls hl => ?_)
        refine lv_lload hx hb dX4_turnOf_40 (lv_at hl 0 rfl) ?_
        refine lv_lconst (v := 0) hx hb dX4_turnOf_42 (by decide) ?_
        refine lc_ne (tgt := 53) hx hb dX4_turnOf_43 dX4_turnOf_44 (by decide) (fun c6 => ?_) (fun c6 => ?_)
        · have h := ite_f c6 h
          refine lv_aload_n hx hb dX4_turnOf_53 rfl (lv_at hl 1 rfl) ?_
          refine lv_lload hx hb dX4_turnOf_54 (lv_at hl 0 rfl) ?_
          obtain ⟨r7, h8, h⟩ := bind_s h
          refine kl (kV (As := [.long r4]) (rest := []) C0 (kX4_rootOf l D cJ cZ mo a1 a2 a3 a4 a5 N zp zr zh zx zy zi zu zv zl zpx zpy zip zvu zvv r4 r7 h8) gX4_turnOf_X4_rootOf rfl ⟨rfl, rfl⟩ hdX4_rootOf ⟨Nat.le_of_ble_eq_true rfl, Nat.le_of_ble_eq_true rfl⟩ 4 0 rfl rfl rfl hP hE hl rfl rfl (Nat.le_of_ble_eq_true rfl) dX4_turnOf_56 (Nat.zero_le _) (Nat.zero_le _)) ?_
          refine lv_lstore (lv' := [(8, .long r7), (6, .long r4), (0, .ref mo), (3, .long l3), (5, .int l5)]) hx hb dX4_turnOf_59 hl (by decide) rfl (fun ls hl => ?_)
          refine lv_lload hx hb dX4_turnOf_61 (lv_at hl 0 rfl) ?_
          refine lv_lconst (v := 0) hx hb dX4_turnOf_63 (by decide) ?_
          refine lc_lt (tgt := 102) hx hb dX4_turnOf_64 dX4_turnOf_65 (by decide) (fun c9 => ?_) (fun c9 => ?_)
          · have h := ite_t c9 h
            refine lv_lload_n hx hb dX4_turnOf_102 rfl (lv_at hl 3 rfl) ?_
            refine lv_lconst (v := 1) hx hb dX4_turnOf_103 (by decide) ?_
            refine lv_ladd hx hb dX4_turnOf_104 ?_
            refine lv_aload_n hx hb dX4_turnOf_105 rfl (lv_at hl 2 rfl) ?_
            refine va_get (D := D) (ci := 4) (v := .long zp) (C := RX4) (T := TX4) (N := 14) hx hb hts iwX4_turnOf_4 hown hE.1 hP 0 rfl rfl 0 (by decide) (hts _ lkX4_turnOf_0) (fun _ h9 => h9) rfl dX4_turnOf_106 ?_
            obtain ⟨c10, h⟩ := ite_n h
            refine lv_lremJ hx hb dX4_turnOf_109 c10 ?_
            obtain ⟨w11, ew11, h⟩ := bnd_s h
            refine tl ew11.symm ?_
            refine lv_lstore_n (lv' := [(3, .long w11), (8, .long r7), (6, .long r4), (0, .ref mo), (5, .int l5)]) hx hb dX4_turnOf_110 rfl hl (by decide) rfl (fun ls hl => ?_)
            obtain ⟨w12, ew12, h⟩ := bnd_s h
            refine lv_iinc (v := w12) (lv' := [(5, .int w12), (3, .long w11), (8, .long r7), (6, .long r4), (0, .ref mo)]) hx hb dX4_turnOf_111 hl (k := 4) rfl (by rw [ew12]; rfl) (by decide) rfl (fun ls hl => ?_)
            refine lv_goto (tgt := 25) hx hb dX4_turnOf_114 (by decide) ?_
            exact ih w11 w12 zx zy zi h H locs hP hD hS ls (lv_sub hl [4, 1, 0] rfl)
          · have h := ite_f c9 h
            refine lv_aload_n hx hb dX4_turnOf_68 rfl (lv_at hl 2 rfl) ?_
            refine lv_lload_n hx hb dX4_turnOf_69 rfl (lv_at hl 3 rfl) ?_
            refine va_put (D := D) (ci := 4) (v := .long l3) (ty := .long) (C := RX4) (T := TX4) (N := 14) hx hb hts iwX4_turnOf_4 tyX4 tyX4_ok nmX4 hown hE.1 hP hD hS 0 rfl rfl 8 (by decide) (hts _ lkX4_turnOf_3) (fun _ h9 => h9) rfl (by decide +kernel) rfl rfl (Nat.le_of_ble_eq_true rfl) dX4_turnOf_70 (fun H locs hP hD hS => ?_)
            have hP : va_P D vwCl [(mo, .inr (4, [.long zp, .long zr, .long zh, .ref a1, .ref a2, .ref a3, .ref a4, .ref a5, .long l3, .long zy, .int (bI zi), .long zu, .long zv, .int zl])), (a1, .inl (cJ, 16, .inr (.inl zpx))), (a2, .inl (cJ, 16, .inr (.inl zpy))), (a3, .inl (cZ, 16, .inl (fun i => bI (zip i)))), (a4, .inl (cJ, 8, .inr (.inl zvu))), (a5, .inl (cJ, 8, .inr (.inl zvv)))] H := hP
            have hD : va_D A [(mo, .inr (4, [.long zp, .long zr, .long zh, .ref a1, .ref a2, .ref a3, .ref a4, .ref a5, .long l3, .long zy, .int (bI zi), .long zu, .long zv, .int zl])), (a1, .inl (cJ, 16, .inr (.inl zpx))), (a2, .inl (cJ, 16, .inr (.inl zpy))), (a3, .inl (cZ, 16, .inl (fun i => bI (zip i)))), (a4, .inl (cJ, 8, .inr (.inl zvu))), (a5, .inl (cJ, 8, .inr (.inl zvv)))] := hD
            refine lv_aload_n hx hb dX4_turnOf_73 rfl (lv_at hl 2 rfl) ?_
            refine lv_lload hx hb dX4_turnOf_74 (lv_at hl 0 rfl) ?_
            refine va_put (D := D) (ci := 4) (v := .long r7) (ty := .long) (C := RX4) (T := TX4) (N := 14) hx hb hts iwX4_turnOf_4 tyX4 tyX4_ok nmX4 hown hE.1 hP hD hS 0 rfl rfl 9 (by decide) (hts _ lkX4_turnOf_4) (fun _ h9 => h9) rfl (by decide +kernel) rfl rfl (Nat.le_of_ble_eq_true rfl) dX4_turnOf_76 (fun H locs hP hD hS => ?_)
            have hP : va_P D vwCl [(mo, .inr (4, [.long zp, .long zr, .long zh, .ref a1, .ref a2, .ref a3, .ref a4, .ref a5, .long l3, .long r7, .int (bI zi), .long zu, .long zv, .int zl])), (a1, .inl (cJ, 16, .inr (.inl zpx))), (a2, .inl (cJ, 16, .inr (.inl zpy))), (a3, .inl (cZ, 16, .inl (fun i => bI (zip i)))), (a4, .inl (cJ, 8, .inr (.inl zvu))), (a5, .inl (cJ, 8, .inr (.inl zvv)))] H := hP
            have hD : va_D A [(mo, .inr (4, [.long zp, .long zr, .long zh, .ref a1, .ref a2, .ref a3, .ref a4, .ref a5, .long l3, .long r7, .int (bI zi), .long zu, .long zv, .int zl])), (a1, .inl (cJ, 16, .inr (.inl zpx))), (a2, .inl (cJ, 16, .inr (.inl zpy))), (a3, .inl (cZ, 16, .inl (fun i => bI (zip i)))), (a4, .inl (cJ, 8, .inr (.inl zvu))), (a5, .inl (cJ, 8, .inr (.inl zvv)))] := hD
            refine lv_aload_n hx hb dX4_turnOf_79 rfl (lv_at hl 2 rfl) ?_
            refine lv_iconst (v := 1) hx hb dX4_turnOf_80 (by decide) ?_
            refine va_put (D := D) (ci := 4) (v := .int (bI true)) (ty := .boolean) (C := RX4) (T := TX4) (N := 14) hx hb hts iwX4_turnOf_4 tyX4 tyX4_ok nmX4 hown hE.1 hP hD hS 0 rfl rfl 10 (by decide) (hts _ lkX4_turnOf_2) (fun _ h9 => h9) rfl (by decide +kernel) (narv_bI _) (fits_bI _) (Nat.le_of_ble_eq_true rfl) dX4_turnOf_81 (fun H locs hP hD hS => ?_)
            have hP : va_P D vwCl [(mo, .inr (4, [.long zp, .long zr, .long zh, .ref a1, .ref a2, .ref a3, .ref a4, .ref a5, .long l3, .long r7, .int (bI true), .long zu, .long zv, .int zl])), (a1, .inl (cJ, 16, .inr (.inl zpx))), (a2, .inl (cJ, 16, .inr (.inl zpy))), (a3, .inl (cZ, 16, .inl (fun i => bI (zip i)))), (a4, .inl (cJ, 8, .inr (.inl zvu))), (a5, .inl (cJ, 8, .inr (.inl zvv)))] H := hP
            have hD : va_D A [(mo, .inr (4, [.long zp, .long zr, .long zh, .ref a1, .ref a2, .ref a3, .ref a4, .ref a5, .long l3, .long r7, .int (bI true), .long zu, .long zv, .int zl])), (a1, .inl (cJ, 16, .inr (.inl zpx))), (a2, .inl (cJ, 16, .inr (.inl zpy))), (a3, .inl (cZ, 16, .inl (fun i => bI (zip i)))), (a4, .inl (cJ, 8, .inr (.inl zvu))), (a5, .inl (cJ, 8, .inr (.inl zvv)))] := hD
            refine lv_aload_n hx hb dX4_turnOf_84 rfl (lv_at hl 2 rfl) ?_
            refine lv_aload_n hx hb dX4_turnOf_85 rfl (lv_at hl 2 rfl) ?_
            refine va_get (D := D) (ci := 4) (v := .long zh) (C := RX4) (T := TX4) (N := 14) hx hb hts iwX4_turnOf_4 hown hE.1 hP 0 rfl rfl 2 (by decide) (hts _ lkX4_turnOf_5) (fun _ h9 => h9) rfl dX4_turnOf_86 ?_
            obtain ⟨⟨o13, o14, o15⟩, h16, h⟩ := bind_s h
            try dsimp only at h
            refine kE (wc := [(mo, .inr (4, [.long zp, .long zr, .long zh, .ref a1, .ref a2, .ref a3, .ref a4, .ref a5, .long l3, .long r7, .int (bI true), .long zu, .long zv, .int zl])), (a1, .inl (cJ, 16, .inr (.inl zpx))), (a2, .inl (cJ, 16, .inr (.inl zpy))), (a3, .inl (cZ, 16, .inl (fun i => bI (zip i)))), (a4, .inl (cJ, 8, .inr (.inl zvu))), (a5, .inl (cJ, 8, .inr (.inl zvv)))]) (wr := []) [0, 1, 2, 3, 4, 5] [] hP hD hS hA rfl rfl rfl (by decide) rfl (eV (As := [.long zh]) (rest := []) C0 (kX4_take l D cJ cZ mo a1 a2 a3 a4 a5 N zp zr zh l3 r7 true zu zv zl zpx zpy zip zvu zvv zh H.size o13 o14 o15 h16) gX4_turnOf_X4_take rfl ⟨rfl, rfl⟩ hdX4_take ⟨Nat.le_of_ble_eq_true rfl, Nat.le_of_ble_eq_true rfl⟩ 4 0 rfl rfl rfl hP hD hE hl rfl rfl (Nat.le_of_ble_eq_true rfl) dX4_turnOf_89 ⟨Nat.zero_le _, Nat.zero_le _⟩) (fun H locs hP hD hS => ?_)
            have hP : va_P D vwCl [(mo, .inr (4, [.long zp, .long zr, .long zh, .ref a1, .ref a2, .ref a3, .ref a4, .ref a5, .long o13, .long o14, .int (bI o15), .long zu, .long zv, .int zl])), (a1, .inl (cJ, 16, .inr (.inl zpx))), (a2, .inl (cJ, 16, .inr (.inl zpy))), (a3, .inl (cZ, 16, .inl (fun i => bI (zip i)))), (a4, .inl (cJ, 8, .inr (.inl zvu))), (a5, .inl (cJ, 8, .inr (.inl zvv)))] H := hP
            have hD : va_D A [(mo, .inr (4, [.long zp, .long zr, .long zh, .ref a1, .ref a2, .ref a3, .ref a4, .ref a5, .long o13, .long o14, .int (bI o15), .long zu, .long zv, .int zl])), (a1, .inl (cJ, 16, .inr (.inl zpx))), (a2, .inl (cJ, 16, .inr (.inl zpy))), (a3, .inl (cZ, 16, .inl (fun i => bI (zip i)))), (a4, .inl (cJ, 8, .inr (.inl zvu))), (a5, .inl (cJ, 8, .inr (.inl zvv)))] := hD
            refine lv_aload_n hx hb dX4_turnOf_92 rfl (lv_at hl 2 rfl) ?_
            refine va_get (D := D) (ci := 4) (v := .int (bI o15)) (C := RX4) (T := TX4) (N := 14) hx hb hts iwX4_turnOf_4 hown hE.1 hP 0 rfl rfl 10 (by decide) (hts _ lkX4_turnOf_2) (fun _ h9 => h9) rfl dX4_turnOf_93 ?_
            refine lv_if_eq (tgt := 102) hx hb dX4_turnOf_96 (by decide) (fun c17 => ?_) (fun c17 => ?_)
            · have h := ite_t c17 h
              refine lv_lload_n hx hb dX4_turnOf_102 rfl (lv_at hl 3 rfl) ?_
              refine lv_lconst (v := 1) hx hb dX4_turnOf_103 (by decide) ?_
              refine lv_ladd hx hb dX4_turnOf_104 ?_
              refine lv_aload_n hx hb dX4_turnOf_105 rfl (lv_at hl 2 rfl) ?_
              refine va_get (D := D) (ci := 4) (v := .long zp) (C := RX4) (T := TX4) (N := 14) hx hb hts iwX4_turnOf_4 hown hE.1 hP 0 rfl rfl 0 (by decide) (hts _ lkX4_turnOf_0) (fun _ h9 => h9) rfl dX4_turnOf_106 ?_
              obtain ⟨c18, h⟩ := ite_n h
              refine lv_lremJ hx hb dX4_turnOf_109 c18 ?_
              obtain ⟨w19, ew19, h⟩ := bnd_s h
              refine tl ew19.symm ?_
              refine lv_lstore_n (lv' := [(3, .long w19), (8, .long r7), (6, .long r4), (0, .ref mo), (5, .int l5)]) hx hb dX4_turnOf_110 rfl hl (by decide) rfl (fun ls hl => ?_)
              obtain ⟨w20, ew20, h⟩ := bnd_s h
              refine lv_iinc (v := w20) (lv' := [(5, .int w20), (3, .long w19), (8, .long r7), (6, .long r4), (0, .ref mo)]) hx hb dX4_turnOf_111 hl (k := 4) rfl (by rw [ew20]; rfl) (by decide) rfl (fun ls hl => ?_)
              refine lv_goto (tgt := 25) hx hb dX4_turnOf_114 (by decide) ?_
              exact ih w19 w20 o13 o14 o15 h H locs hP hD hS ls (lv_sub hl [4, 1, 0] rfl)
            · have h := ite_f c17 h
              refine lv_iload hx hb dX4_turnOf_99 (lv_at hl 4 rfl) ?_
              cases h
              exact rfI hx hb hr hlocks hP hD hS dX4_turnOf_101
        · have h := ite_t c6 h
          refine lv_ldc2 (v := (-1)) hx hb hown (hts _ lkX4_turnOf_6) dX4_turnOf_47 ?_
          refine lv_goto (tgt := 59) hx hb dX4_turnOf_50 (by decide) ?_
          refine lv_lstore (lv' := [(8, .long (-1)), (6, .long r4), (0, .ref mo), (3, .long l3), (5, .int l5)]) hx hb dX4_turnOf_59 hl (by decide) rfl (fun ls hl => ?_)
          refine lv_lload hx hb dX4_turnOf_61 (lv_at hl 0 rfl) ?_
          refine lv_lconst (v := 0) hx hb dX4_turnOf_63 (by decide) ?_
          refine lc_lt (tgt := 102) hx hb dX4_turnOf_64 dX4_turnOf_65 (by decide) (fun _ => ?_) (fun cc => absurd (by decide) cc)
          refine lv_lload_n hx hb dX4_turnOf_102 rfl (lv_at hl 3 rfl) ?_
          refine lv_lconst (v := 1) hx hb dX4_turnOf_103 (by decide) ?_
          refine lv_ladd hx hb dX4_turnOf_104 ?_
          refine lv_aload_n hx hb dX4_turnOf_105 rfl (lv_at hl 2 rfl) ?_
          refine va_get (D := D) (ci := 4) (v := .long zp) (C := RX4) (T := TX4) (N := 14) hx hb hts iwX4_turnOf_4 hown hE.1 hP 0 rfl rfl 0 (by decide) (hts _ lkX4_turnOf_0) (fun _ h9 => h9) rfl dX4_turnOf_106 ?_
          obtain ⟨c21, h⟩ := ite_n h
          refine lv_lremJ hx hb dX4_turnOf_109 c21 ?_
          obtain ⟨w22, ew22, h⟩ := bnd_s h
          refine tl ew22.symm ?_
          refine lv_lstore_n (lv' := [(3, .long w22), (8, .long (-1)), (6, .long r4), (0, .ref mo), (5, .int l5)]) hx hb dX4_turnOf_110 rfl hl (by decide) rfl (fun ls hl => ?_)
          obtain ⟨w23, ew23, h⟩ := bnd_s h
          refine lv_iinc (v := w23) (lv' := [(5, .int w23), (3, .long w22), (8, .long (-1)), (6, .long r4), (0, .ref mo)]) hx hb dX4_turnOf_111 hl (k := 4) rfl (by rw [ew23]; rfl) (by decide) rfl (fun ls hl => ?_)
          refine lv_goto (tgt := 25) hx hb dX4_turnOf_114 (by decide) ?_
          exact ih w22 w23 zx zy zi h H locs hP hD hS ls (lv_sub hl [4, 1, 0] rfl)
  suffices key : ∀ (H : Heap) (locs : List Loc), va_P D vwCl [(mo, .inr (4, [.long zp, .long zr, .long zh, .ref a1, .ref a2, .ref a3, .ref a4, .ref a5, .long zx, .long zy, .int (bI zi), .long zu, .long zv, .int zl])), (a1, .inl (cJ, 16, .inr (.inl zpx))), (a2, .inl (cJ, 16, .inr (.inl zpy))), (a3, .inl (cZ, 16, .inl (fun i => bI (zip i)))), (a4, .inl (cJ, 8, .inr (.inl zvu))), (a5, .inl (cJ, 8, .inr (.inl zvv)))] H → va_D A [(mo, .inr (4, [.long zp, .long zr, .long zh, .ref a1, .ref a2, .ref a3, .ref a4, .ref a5, .long zx, .long zy, .int (bI zi), .long zu, .long zv, .int zl])), (a1, .inl (cJ, 16, .inr (.inl zpx))), (a2, .inl (cJ, 16, .inr (.inl zpy))), (a3, .inl (cZ, 16, .inl (fun i => bI (zip i)))), (a4, .inl (cJ, 8, .inr (.inl zvu))), (a5, .inl (cJ, 8, .inr (.inl zvv)))] → va_S A s.heap H locs → W pg l e (headSpec wsX4_turnOf rmX4_turnOf).room s m ([.ref mo, .long q0] : List Value).toArray below meth c H locs 0 0 (MQ below (QE D (some (.int rr)) [(mo, .inr (4, [.long zp, .long zr, .long zh, .ref a1, .ref a2, .ref a3, .ref a4, .ref a5, .long ozx, .long ozy, .int (bI ozi), .long zu, .long zv, .int zl])), (a1, .inl (cJ, 16, .inr (.inl zpx))), (a2, .inl (cJ, 16, .inr (.inl zpy))), (a3, .inl (cZ, 16, .inl (fun i => bI (zip i)))), (a4, .inl (cJ, 8, .inr (.inl zvu))), (a5, .inl (cJ, 8, .inr (.inl zvv)))] A) ([.ref mo, .long q0] : List Value).toArray s 0 0 A) (F0 m 0 ls []) from key s.heap [] hP hD hS
  intro H locs hP hD hS
  unfold fX4_turnOf at h
  refine lv_lload_n hx hb dX4_turnOf_0 rfl (lv_at hl 1 rfl) ?_
  refine lv_iconst (v := 1) hx hb dX4_turnOf_1 (by decide) ?_
  refine lv_lushr (v := jushr q0 1) hx hb dX4_turnOf_2 rfl ?_
  refine lv_aload_n hx hb dX4_turnOf_3 rfl (lv_at hl 0 rfl) ?_
  refine va_get (D := D) (ci := 4) (v := .long zp) (C := RX4) (T := TX4) (N := 14) hx hb hts iwX4_turnOf_4 hown hE.1 hP 0 rfl rfl 0 (by decide) (hts _ lkX4_turnOf_0) (fun _ h9 => h9) rfl dX4_turnOf_4 ?_
  obtain ⟨c1, h⟩ := ite_n h
  refine lv_lremJ hx hb dX4_turnOf_7 c1 ?_
  refine lv_ldc2 (v := 2) hx hb hown (hts _ lkX4_turnOf_1) dX4_turnOf_8 ?_
  refine lv_lmul hx hb dX4_turnOf_11 ?_
  refine lv_lload_n hx hb dX4_turnOf_12 rfl (lv_at hl 1 rfl) ?_
  refine lv_lconst (v := 1) hx hb dX4_turnOf_13 (by decide) ?_
  refine lv_land hx hb dX4_turnOf_14 ?_
  refine lv_ladd hx hb dX4_turnOf_15 ?_
  refine lv_aload_n hx hb dX4_turnOf_16 rfl (lv_at hl 0 rfl) ?_
  refine va_get (D := D) (ci := 4) (v := .long zp) (C := RX4) (T := TX4) (N := 14) hx hb hts iwX4_turnOf_4 hown hE.1 hP 0 rfl rfl 0 (by decide) (hts _ lkX4_turnOf_0) (fun _ h9 => h9) rfl dX4_turnOf_17 ?_
  refine lv_lremJ hx hb dX4_turnOf_20 c1 ?_
  obtain ⟨w2, ew2, h⟩ := bnd_s h
  refine tl ew2.symm ?_
  refine lv_lstore_n (lv' := [(3, .long w2), (0, .ref mo), (1, .long q0)]) hx hb dX4_turnOf_21 rfl hl (by decide) rfl (fun ls hl => ?_)
  refine lv_iconst (v := 1) hx hb dX4_turnOf_22 (by decide) ?_
  refine lv_istore (lv' := [(5, .int 1), (3, .long w2), (0, .ref mo), (1, .long q0)]) hx hb dX4_turnOf_23 hl (by decide) rfl (fun ls hl => ?_)
  exact loop25 N w2 1 zx zy zi h H locs hP hD hS ls (lv_sub hl [2, 1, 0] rfl)
def fX4_turn (N : Nat) (zp : Int64) (zh : Int64) (zx : Int64) (zy : Int64) (zi : Bool) (zpx : Nat → Int64) (zpy : Nat → Int64) (zip : Nat → Bool) (q0 : Int32) (q1 : Int64) : Option (Int32 × Int64 × Int64 × Bool × (Nat → Int64) × (Nat → Int64) × (Nat → Bool)) :=
  if zp = 0 then
    some ((-3), zx, zy, zi, zpx, zpy, zip)
  else
    (fX4_isSlot q0).bind fun r2 =>
    if (bI r2) = 0 then
      some ((-2), zx, zy, zi, zpx, zpy, zip)
    else
      (fX4_turnOf N zp zh zx zy zi q1).bind fun (r5, o6, o7, o8) =>
      (fX4_store o6 o7 o8 zpx zpy zip q0).bind fun (o10, o11, o12) =>
      some (r5, o6, o7, o8, o10, o11, o12)
abbrev rmX4_turn : Room := { frames := 7, cells := 0, slots := 0, locals := 190 }
theorem lkX4_turn_0 : (.fieldLink RX4 28 "PairingDeskModel" "p" "J" : Cond) ∈ wsX4_turn := by decide +kernel
theorem iwX4_turn_4 : ∀ w ∈ wsX40, w ∈ wsX4_turn := by decide +kernel
theorem hdX4_turn : KN yX4_turn 2 := by decide +kernel
set_option maxHeartbeats 4000000 in
set_option maxRecDepth 100000 in
theorem kX4_turn (l : Launch) (D : va_G) (cJ cZ : ClassId) (mo a1 a2 a3 a4 a5 : Nat) (N : Nat) (zp : Int64) (zr : Int64) (zh : Int64) (zx : Int64) (zy : Int64) (zi : Bool) (zu : Int64) (zv : Int64) (zl : Int32) (zpx : Nat → Int64) (zpy : Nat → Int64) (zip : Nat → Bool) (zvu : Nat → Int64) (zvv : Nat → Int64) (q0 : Int32) (q1 : Int64) (sz : Nat) (rr : Int32) (ozx : Int64) (ozy : Int64) (ozi : Bool) (ozpx : Nat → Int64) (ozpy : Nat → Int64) (ozip : Nat → Bool) (h : fX4_turn N zp zh zx zy zi zpx zpy zip q0 q1 = some (rr, ozx, ozy, ozi, ozpx, ozpy, ozip)) : Met l yX4_turn wsX4_turn rmX4_turn (PE D cJ cZ [.ref mo, .int q0, .long q1] [(mo, .inr (4, [.long zp, .long zr, .long zh, .ref a1, .ref a2, .ref a3, .ref a4, .ref a5, .long zx, .long zy, .int (bI zi), .long zu, .long zv, .int zl])), (a1, .inl (cJ, 16, .inr (.inl zpx))), (a2, .inl (cJ, 16, .inr (.inl zpy))), (a3, .inl (cZ, 16, .inl (fun i => bI (zip i)))), (a4, .inl (cJ, 8, .inr (.inl zvu))), (a5, .inl (cJ, 8, .inr (.inl zvv)))] sz) (QE D (some (.int rr)) [(mo, .inr (4, [.long zp, .long zr, .long zh, .ref a1, .ref a2, .ref a3, .ref a4, .ref a5, .long ozx, .long ozy, .int (bI ozi), .long zu, .long zv, .int zl])), (a1, .inl (cJ, 16, .inr (.inl ozpx))), (a2, .inl (cJ, 16, .inr (.inl ozpy))), (a3, .inl (cZ, 16, .inl (fun i => bI (ozip i)))), (a4, .inl (cJ, 8, .inr (.inl zvu))), (a5, .inl (cJ, 8, .inr (.inl zvv)))] (va_A [(mo, .inr (4, [.long zp, .long zr, .long zh, .ref a1, .ref a2, .ref a3, .ref a4, .ref a5, .long zx, .long zy, .int (bI zi), .long zu, .long zv, .int zl])), (a1, .inl (cJ, 16, .inr (.inl zpx))), (a2, .inl (cJ, 16, .inr (.inl zpy))), (a3, .inl (cZ, 16, .inl (fun i => bI (zip i)))), (a4, .inl (cJ, 8, .inr (.inl zvu))), (a5, .inl (cJ, 8, .inr (.inl zvv)))] sz)) 0 0 (va_A [(mo, .inr (4, [.long zp, .long zr, .long zh, .ref a1, .ref a2, .ref a3, .ref a4, .ref a5, .long zx, .long zy, .int (bI zi), .long zu, .long zv, .int zl])), (a1, .inl (cJ, 16, .inr (.inl zpx))), (a2, .inl (cJ, 16, .inr (.inl zpy))), (a3, .inl (cZ, 16, .inl (fun i => bI (zip i)))), (a4, .inl (cJ, 8, .inr (.inl zvu))), (a5, .inl (cJ, 8, .inr (.inl zvv)))] sz) := by
  refine Met.ofW (cc := cX4_turn) (maxL := 5) (ret := some .int) (by decide) rfl ?_
  intro pg e s m args below meth c s₁ B hml hv
  obtain ⟨rfl, hsz, hP, hE, hD0⟩ := hv
  have hx := B.exec
  have hb := B.bytes
  have hr := B.returns
  have hlocks := B.notSynchronized
  have C0 : CallFix pg m c cX4_turn 5 s ([.ref mo, .int q0, .long q1] : List Value).toArray wsX4_turn RX4 := ⟨hx, hb, hml, findClass_of_methodNamed B.named, atoms_spec (ws := wsX4_turn) B.pre⟩
  have hown := C0.2.2.2.1
  have hts := C0.2.2.2.2
  subst hsz
  have hD := hD0.self (sz := s.heap.size)
  generalize hAe : va_A [(mo, .inr (4, [.long zp, .long zr, .long zh, .ref a1, .ref a2, .ref a3, .ref a4, .ref a5, .long zx, .long zy, .int (bI zi), .long zu, .long zv, .int zl])), (a1, .inl (cJ, 16, .inr (.inl zpx))), (a2, .inl (cJ, 16, .inr (.inl zpy))), (a3, .inl (cZ, 16, .inl (fun i => bI (zip i)))), (a4, .inl (cJ, 8, .inr (.inl zvu))), (a5, .inl (cJ, 8, .inr (.inl zvv)))] s.heap.size = A at hD ⊢
  have hA : ∀ q : Nat, s.heap.size ≤ q → A q := fun q h => by rw [← hAe]; exact Or.inr h
  have hS : va_S A s.heap s.heap [] := va_S.rf
  have hP : va_P D vwCl [(mo, .inr (4, [.long zp, .long zr, .long zh, .ref a1, .ref a2, .ref a3, .ref a4, .ref a5, .long zx, .long zy, .int (bI zi), .long zu, .long zv, .int zl])), (a1, .inl (cJ, 16, .inr (.inl zpx))), (a2, .inl (cJ, 16, .inr (.inl zpy))), (a3, .inl (cZ, 16, .inl (fun i => bI (zip i)))), (a4, .inl (cJ, 8, .inr (.inl zvu))), (a5, .inl (cJ, 8, .inr (.inl zvv)))] s.heap := hP
  have hl := lv_entry ([.ref mo, .int q0, .long q1]) (n := 5) (Nat.le_of_ble_eq_true rfl)
  rw [lg_entry_eq]
  generalize (lg_sl ([.ref mo, .int q0, .long q1]) ++ List.replicate (5 - (lg_sl ([.ref mo, .int q0, .long q1])).length) Slot.unset).toArray = ls at hl ⊢
  have hl : lv_has ls 5 [(0, .ref mo), (1, .int q0), (2, .long q1)] := hl
  suffices key : ∀ (H : Heap) (locs : List Loc), va_P D vwCl [(mo, .inr (4, [.long zp, .long zr, .long zh, .ref a1, .ref a2, .ref a3, .ref a4, .ref a5, .long zx, .long zy, .int (bI zi), .long zu, .long zv, .int zl])), (a1, .inl (cJ, 16, .inr (.inl zpx))), (a2, .inl (cJ, 16, .inr (.inl zpy))), (a3, .inl (cZ, 16, .inl (fun i => bI (zip i)))), (a4, .inl (cJ, 8, .inr (.inl zvu))), (a5, .inl (cJ, 8, .inr (.inl zvv)))] H → va_D A [(mo, .inr (4, [.long zp, .long zr, .long zh, .ref a1, .ref a2, .ref a3, .ref a4, .ref a5, .long zx, .long zy, .int (bI zi), .long zu, .long zv, .int zl])), (a1, .inl (cJ, 16, .inr (.inl zpx))), (a2, .inl (cJ, 16, .inr (.inl zpy))), (a3, .inl (cZ, 16, .inl (fun i => bI (zip i)))), (a4, .inl (cJ, 8, .inr (.inl zvu))), (a5, .inl (cJ, 8, .inr (.inl zvv)))] → va_S A s.heap H locs → W pg l e (headSpec wsX4_turn rmX4_turn).room s m ([.ref mo, .int q0, .long q1] : List Value).toArray below meth c H locs 0 0 (MQ below (QE D (some (.int rr)) [(mo, .inr (4, [.long zp, .long zr, .long zh, .ref a1, .ref a2, .ref a3, .ref a4, .ref a5, .long ozx, .long ozy, .int (bI ozi), .long zu, .long zv, .int zl])), (a1, .inl (cJ, 16, .inr (.inl ozpx))), (a2, .inl (cJ, 16, .inr (.inl ozpy))), (a3, .inl (cZ, 16, .inl (fun i => bI (ozip i)))), (a4, .inl (cJ, 8, .inr (.inl zvu))), (a5, .inl (cJ, 8, .inr (.inl zvv)))] A) ([.ref mo, .int q0, .long q1] : List Value).toArray s 0 0 A) (F0 m 0 ls []) from key s.heap [] hP hD hS
  intro H locs hP hD hS
  unfold fX4_turn at h
  refine lv_aload_n hx hb dX4_turn_0 rfl (lv_at hl 0 rfl) ?_
  refine va_get (D := D) (ci := 4) (v := .long zp) (C := RX4) (T := TX4) (N := 14) hx hb hts iwX4_turn_4 hown hE.1 hP 0 rfl rfl 0 (by decide) (hts _ lkX4_turn_0) (fun _ h9 => h9) rfl dX4_turn_1 ?_
  refine lv_lconst (v := 0) hx hb dX4_turn_4 (by decide) ?_
  refine lc_ne (tgt := 12) hx hb dX4_turn_5 dX4_turn_6 (by decide) (fun c1 => ?_) (fun c1 => ?_)
  · have h := ite_f c1 h
    refine lv_iload_n hx hb dX4_turn_12 rfl (lv_at hl 1 rfl) ?_
    obtain ⟨r2, h3, h⟩ := bind_s h
    refine ki (kS (As := [.int q0]) (rest := []) C0 (kX4_isSlot l D cJ cZ q0 r2 h3) gX4_turn_X4_isSlot rfl ⟨rfl, rfl⟩ hdX4_isSlot ⟨Nat.le_of_ble_eq_true rfl, Nat.le_of_ble_eq_true rfl⟩ (hP.sub [] rfl) hE hl rfl rfl (Nat.le_of_ble_eq_true rfl) dX4_turn_13 (Nat.zero_le _) (Nat.zero_le _)) ?_
    refine lv_if_ne (tgt := 22) hx hb dX4_turn_16 (by decide) (fun c4 => ?_) (fun c4 => ?_)
    · have h := ite_f c4 h
      refine lv_aload_n hx hb dX4_turn_22 rfl (lv_at hl 0 rfl) ?_
      refine lv_lload_n hx hb dX4_turn_23 rfl (lv_at hl 2 rfl) ?_
      obtain ⟨⟨r5, o6, o7, o8⟩, h9, h⟩ := bind_s h
      try dsimp only at h
      refine kE (wc := [(mo, .inr (4, [.long zp, .long zr, .long zh, .ref a1, .ref a2, .ref a3, .ref a4, .ref a5, .long zx, .long zy, .int (bI zi), .long zu, .long zv, .int zl])), (a1, .inl (cJ, 16, .inr (.inl zpx))), (a2, .inl (cJ, 16, .inr (.inl zpy))), (a3, .inl (cZ, 16, .inl (fun i => bI (zip i)))), (a4, .inl (cJ, 8, .inr (.inl zvu))), (a5, .inl (cJ, 8, .inr (.inl zvv)))]) (wr := []) [0, 1, 2, 3, 4, 5] [] hP hD hS hA rfl rfl rfl (by decide) rfl (eV (As := [.long q1]) (rest := []) C0 (kX4_turnOf l D cJ cZ mo a1 a2 a3 a4 a5 N zp zr zh zx zy zi zu zv zl zpx zpy zip zvu zvv q1 H.size r5 o6 o7 o8 h9) gX4_turn_X4_turnOf rfl ⟨rfl, rfl⟩ hdX4_turnOf ⟨Nat.le_of_ble_eq_true rfl, Nat.le_of_ble_eq_true rfl⟩ 4 0 rfl rfl rfl hP hD hE hl rfl rfl (Nat.le_of_ble_eq_true rfl) dX4_turn_24 ⟨Nat.zero_le _, Nat.zero_le _⟩) (fun H locs hP hD hS => ?_)
      have hP : va_P D vwCl [(mo, .inr (4, [.long zp, .long zr, .long zh, .ref a1, .ref a2, .ref a3, .ref a4, .ref a5, .long o6, .long o7, .int (bI o8), .long zu, .long zv, .int zl])), (a1, .inl (cJ, 16, .inr (.inl zpx))), (a2, .inl (cJ, 16, .inr (.inl zpy))), (a3, .inl (cZ, 16, .inl (fun i => bI (zip i)))), (a4, .inl (cJ, 8, .inr (.inl zvu))), (a5, .inl (cJ, 8, .inr (.inl zvv)))] H := hP
      have hD : va_D A [(mo, .inr (4, [.long zp, .long zr, .long zh, .ref a1, .ref a2, .ref a3, .ref a4, .ref a5, .long o6, .long o7, .int (bI o8), .long zu, .long zv, .int zl])), (a1, .inl (cJ, 16, .inr (.inl zpx))), (a2, .inl (cJ, 16, .inr (.inl zpy))), (a3, .inl (cZ, 16, .inl (fun i => bI (zip i)))), (a4, .inl (cJ, 8, .inr (.inl zvu))), (a5, .inl (cJ, 8, .inr (.inl zvv)))] := hD
      refine lv_istore (lv' := [(4, .int r5), (0, .ref mo), (1, .int q0), (2, .long q1)]) hx hb dX4_turn_27 hl (by decide) rfl (fun ls hl => ?_)
      refine lv_aload_n hx hb dX4_turn_29 rfl (lv_at hl 1 rfl) ?_
      refine lv_iload_n hx hb dX4_turn_30 rfl (lv_at hl 2 rfl) ?_
      obtain ⟨⟨o10, o11, o12⟩, h13, h⟩ := bind_s h
      try dsimp only at h
      refine kE (wc := [(mo, .inr (4, [.long zp, .long zr, .long zh, .ref a1, .ref a2, .ref a3, .ref a4, .ref a5, .long o6, .long o7, .int (bI o8), .long zu, .long zv, .int zl])), (a1, .inl (cJ, 16, .inr (.inl zpx))), (a2, .inl (cJ, 16, .inr (.inl zpy))), (a3, .inl (cZ, 16, .inl (fun i => bI (zip i)))), (a4, .inl (cJ, 8, .inr (.inl zvu))), (a5, .inl (cJ, 8, .inr (.inl zvv)))]) (wr := []) [0, 1, 2, 3, 4, 5] [] hP hD hS hA rfl rfl rfl (by decide) rfl (eV (As := [.int q0]) (rest := []) C0 (kX4_store l D cJ cZ mo a1 a2 a3 a4 a5 zp zr zh o6 o7 o8 zu zv zl zpx zpy zip zvu zvv q0 H.size o10 o11 o12 h13) gX4_turn_X4_store rfl ⟨rfl, rfl⟩ hdX4_store ⟨Nat.le_of_ble_eq_true rfl, Nat.le_of_ble_eq_true rfl⟩ 4 0 rfl rfl rfl hP hD hE hl rfl rfl (Nat.le_of_ble_eq_true rfl) dX4_turn_31 ⟨Nat.zero_le _, Nat.zero_le _⟩) (fun H locs hP hD hS => ?_)
      have hP : va_P D vwCl [(mo, .inr (4, [.long zp, .long zr, .long zh, .ref a1, .ref a2, .ref a3, .ref a4, .ref a5, .long o6, .long o7, .int (bI o8), .long zu, .long zv, .int zl])), (a1, .inl (cJ, 16, .inr (.inl o10))), (a2, .inl (cJ, 16, .inr (.inl o11))), (a3, .inl (cZ, 16, .inl (fun i => bI (o12 i)))), (a4, .inl (cJ, 8, .inr (.inl zvu))), (a5, .inl (cJ, 8, .inr (.inl zvv)))] H := hP
      have hD : va_D A [(mo, .inr (4, [.long zp, .long zr, .long zh, .ref a1, .ref a2, .ref a3, .ref a4, .ref a5, .long o6, .long o7, .int (bI o8), .long zu, .long zv, .int zl])), (a1, .inl (cJ, 16, .inr (.inl o10))), (a2, .inl (cJ, 16, .inr (.inl o11))), (a3, .inl (cZ, 16, .inl (fun i => bI (o12 i)))), (a4, .inl (cJ, 8, .inr (.inl zvu))), (a5, .inl (cJ, 8, .inr (.inl zvv)))] := hD
      refine lv_iload hx hb dX4_turn_34 (lv_at hl 0 rfl) ?_
      cases h
      exact rfI hx hb hr hlocks hP hD hS dX4_turn_36
    · have h := ite_t c4 h
      refine lv_bipush (v := (-2)) hx hb dX4_turn_19 (by decide) ?_
      cases h
      exact rfI hx hb hr hlocks hP hD hS dX4_turn_21
  · have h := ite_t c1 h
    refine lv_bipush (v := (-3)) hx hb dX4_turn_9 (by decide) ?_
    cases h
    exact rfI hx hb hr hlocks hP hD hS dX4_turn_11
def fX4_add (N : Nat) (zp : Int64) (zx : Int64) (zy : Int64) (zi : Bool) (zpx : Nat → Int64) (zpy : Nat → Int64) (zip : Nat → Bool) (q0 : Int32) (q1 : Int32) (q2 : Int32) : Option (Int32 × Int64 × Int64 × Bool × (Nat → Int64) × (Nat → Int64) × (Nat → Bool)) :=
  if zp = 0 then
    some ((-3), zx, zy, zi, zpx, zpy, zip)
  else
    (fX4_isSlot q0).bind fun r2 =>
    if (bI r2) = 0 then
      some ((-2), zx, zy, zi, zpx, zpy, zip)
    else
      (fX4_isSlot q1).bind fun r5 =>
      if (bI r5) = 0 then
        some ((-2), zx, zy, zi, zpx, zpy, zip)
      else
        (fX4_isSlot q2).bind fun r8 =>
        if (bI r8) = 0 then
          some ((-2), zx, zy, zi, zpx, zpy, zip)
        else
          (fX4_load zx zy zi zpx zpy zip q1).bind fun (o11, o12, o13) =>
          if q2 < 0 ∨ 16 ≤ q2.toNatClampNeg then none else
          (fX4_plus N zp o11 o12 o13 (zpx q2.toNatClampNeg) (zpy q2.toNatClampNeg) (zip q2.toNatClampNeg)).bind fun (o16, o17, o18) =>
          (fX4_store o16 o17 o18 zpx zpy zip q0).bind fun (o20, o21, o22) =>
          if (bI o18) = 0 then
            some (0, o16, o17, o18, o20, o21, o22)
          else
            some (1, o16, o17, o18, o20, o21, o22)
abbrev rmX4_add : Room := { frames := 5, cells := 0, slots := 0, locals := 133 }
theorem lkX4_add_0 : (.fieldLink RX4 28 "PairingDeskModel" "p" "J" : Cond) ∈ wsX4_add := by decide +kernel
theorem lkX4_add_1 : (.fieldLink RX4 7 "PairingDeskModel" "px" "[J" : Cond) ∈ wsX4_add := by decide +kernel
theorem lkX4_add_2 : (.fieldLink RX4 13 "PairingDeskModel" "py" "[J" : Cond) ∈ wsX4_add := by decide +kernel
theorem lkX4_add_3 : (.fieldLink RX4 16 "PairingDeskModel" "isPoint" "[Z" : Cond) ∈ wsX4_add := by decide +kernel
theorem lkX4_add_4 : (.fieldLink RX4 67 "PairingDeskModel" "is" "Z" : Cond) ∈ wsX4_add := by decide +kernel
theorem iwX4_add_4 : ∀ w ∈ wsX40, w ∈ wsX4_add := by decide +kernel
theorem hdX4_add : KN yX4_add 3 := by decide +kernel
set_option maxHeartbeats 4000000 in
set_option maxRecDepth 100000 in
theorem kX4_add (l : Launch) (D : va_G) (cJ cZ : ClassId) (mo a1 a2 a3 a4 a5 : Nat) (N : Nat) (zp : Int64) (zr : Int64) (zh : Int64) (zx : Int64) (zy : Int64) (zi : Bool) (zu : Int64) (zv : Int64) (zl : Int32) (zpx : Nat → Int64) (zpy : Nat → Int64) (zip : Nat → Bool) (zvu : Nat → Int64) (zvv : Nat → Int64) (q0 : Int32) (q1 : Int32) (q2 : Int32) (sz : Nat) (rr : Int32) (ozx : Int64) (ozy : Int64) (ozi : Bool) (ozpx : Nat → Int64) (ozpy : Nat → Int64) (ozip : Nat → Bool) (h : fX4_add N zp zx zy zi zpx zpy zip q0 q1 q2 = some (rr, ozx, ozy, ozi, ozpx, ozpy, ozip)) : Met l yX4_add wsX4_add rmX4_add (PE D cJ cZ [.ref mo, .int q0, .int q1, .int q2] [(mo, .inr (4, [.long zp, .long zr, .long zh, .ref a1, .ref a2, .ref a3, .ref a4, .ref a5, .long zx, .long zy, .int (bI zi), .long zu, .long zv, .int zl])), (a1, .inl (cJ, 16, .inr (.inl zpx))), (a2, .inl (cJ, 16, .inr (.inl zpy))), (a3, .inl (cZ, 16, .inl (fun i => bI (zip i)))), (a4, .inl (cJ, 8, .inr (.inl zvu))), (a5, .inl (cJ, 8, .inr (.inl zvv)))] sz) (QE D (some (.int rr)) [(mo, .inr (4, [.long zp, .long zr, .long zh, .ref a1, .ref a2, .ref a3, .ref a4, .ref a5, .long ozx, .long ozy, .int (bI ozi), .long zu, .long zv, .int zl])), (a1, .inl (cJ, 16, .inr (.inl ozpx))), (a2, .inl (cJ, 16, .inr (.inl ozpy))), (a3, .inl (cZ, 16, .inl (fun i => bI (ozip i)))), (a4, .inl (cJ, 8, .inr (.inl zvu))), (a5, .inl (cJ, 8, .inr (.inl zvv)))] (va_A [(mo, .inr (4, [.long zp, .long zr, .long zh, .ref a1, .ref a2, .ref a3, .ref a4, .ref a5, .long zx, .long zy, .int (bI zi), .long zu, .long zv, .int zl])), (a1, .inl (cJ, 16, .inr (.inl zpx))), (a2, .inl (cJ, 16, .inr (.inl zpy))), (a3, .inl (cZ, 16, .inl (fun i => bI (zip i)))), (a4, .inl (cJ, 8, .inr (.inl zvu))), (a5, .inl (cJ, 8, .inr (.inl zvv)))] sz)) 0 0 (va_A [(mo, .inr (4, [.long zp, .long zr, .long zh, .ref a1, .ref a2, .ref a3, .ref a4, .ref a5, .long zx, .long zy, .int (bI zi), .long zu, .long zv, .int zl])), (a1, .inl (cJ, 16, .inr (.inl zpx))), (a2, .inl (cJ, 16, .inr (.inl zpy))), (a3, .inl (cZ, 16, .inl (fun i => bI (zip i)))), (a4, .inl (cJ, 8, .inr (.inl zvu))), (a5, .inl (cJ, 8, .inr (.inl zvv)))] sz) := by
  refine Met.ofW (cc := cX4_add) (maxL := 4) (ret := some .int) (by decide) rfl ?_
  intro pg e s m args below meth c s₁ B hml hv
  obtain ⟨rfl, hsz, hP, hE, hD0⟩ := hv
  have hx := B.exec
  have hb := B.bytes
  have hr := B.returns
  have hlocks := B.notSynchronized
  have C0 : CallFix pg m c cX4_add 4 s ([.ref mo, .int q0, .int q1, .int q2] : List Value).toArray wsX4_add RX4 := ⟨hx, hb, hml, findClass_of_methodNamed B.named, atoms_spec (ws := wsX4_add) B.pre⟩
  have hown := C0.2.2.2.1
  have hts := C0.2.2.2.2
  subst hsz
  have hD := hD0.self (sz := s.heap.size)
  generalize hAe : va_A [(mo, .inr (4, [.long zp, .long zr, .long zh, .ref a1, .ref a2, .ref a3, .ref a4, .ref a5, .long zx, .long zy, .int (bI zi), .long zu, .long zv, .int zl])), (a1, .inl (cJ, 16, .inr (.inl zpx))), (a2, .inl (cJ, 16, .inr (.inl zpy))), (a3, .inl (cZ, 16, .inl (fun i => bI (zip i)))), (a4, .inl (cJ, 8, .inr (.inl zvu))), (a5, .inl (cJ, 8, .inr (.inl zvv)))] s.heap.size = A at hD ⊢
  have hA : ∀ q : Nat, s.heap.size ≤ q → A q := fun q h => by rw [← hAe]; exact Or.inr h
  have hS : va_S A s.heap s.heap [] := va_S.rf
  have hP : va_P D vwCl [(mo, .inr (4, [.long zp, .long zr, .long zh, .ref a1, .ref a2, .ref a3, .ref a4, .ref a5, .long zx, .long zy, .int (bI zi), .long zu, .long zv, .int zl])), (a1, .inl (cJ, 16, .inr (.inl zpx))), (a2, .inl (cJ, 16, .inr (.inl zpy))), (a3, .inl (cZ, 16, .inl (fun i => bI (zip i)))), (a4, .inl (cJ, 8, .inr (.inl zvu))), (a5, .inl (cJ, 8, .inr (.inl zvv)))] s.heap := hP
  have hl := lv_entry ([.ref mo, .int q0, .int q1, .int q2]) (n := 4) (Nat.le_of_ble_eq_true rfl)
  rw [lg_entry_eq]
  generalize (lg_sl ([.ref mo, .int q0, .int q1, .int q2]) ++ List.replicate (4 - (lg_sl ([.ref mo, .int q0, .int q1, .int q2])).length) Slot.unset).toArray = ls at hl ⊢
  have hl : lv_has ls 4 [(0, .ref mo), (1, .int q0), (2, .int q1), (3, .int q2)] := hl
  suffices key : ∀ (H : Heap) (locs : List Loc), va_P D vwCl [(mo, .inr (4, [.long zp, .long zr, .long zh, .ref a1, .ref a2, .ref a3, .ref a4, .ref a5, .long zx, .long zy, .int (bI zi), .long zu, .long zv, .int zl])), (a1, .inl (cJ, 16, .inr (.inl zpx))), (a2, .inl (cJ, 16, .inr (.inl zpy))), (a3, .inl (cZ, 16, .inl (fun i => bI (zip i)))), (a4, .inl (cJ, 8, .inr (.inl zvu))), (a5, .inl (cJ, 8, .inr (.inl zvv)))] H → va_D A [(mo, .inr (4, [.long zp, .long zr, .long zh, .ref a1, .ref a2, .ref a3, .ref a4, .ref a5, .long zx, .long zy, .int (bI zi), .long zu, .long zv, .int zl])), (a1, .inl (cJ, 16, .inr (.inl zpx))), (a2, .inl (cJ, 16, .inr (.inl zpy))), (a3, .inl (cZ, 16, .inl (fun i => bI (zip i)))), (a4, .inl (cJ, 8, .inr (.inl zvu))), (a5, .inl (cJ, 8, .inr (.inl zvv)))] → va_S A s.heap H locs → W pg l e (headSpec wsX4_add rmX4_add).room s m ([.ref mo, .int q0, .int q1, .int q2] : List Value).toArray below meth c H locs 0 0 (MQ below (QE D (some (.int rr)) [(mo, .inr (4, [.long zp, .long zr, .long zh, .ref a1, .ref a2, .ref a3, .ref a4, .ref a5, .long ozx, .long ozy, .int (bI ozi), .long zu, .long zv, .int zl])), (a1, .inl (cJ, 16, .inr (.inl ozpx))), (a2, .inl (cJ, 16, .inr (.inl ozpy))), (a3, .inl (cZ, 16, .inl (fun i => bI (ozip i)))), (a4, .inl (cJ, 8, .inr (.inl zvu))), (a5, .inl (cJ, 8, .inr (.inl zvv)))] A) ([.ref mo, .int q0, .int q1, .int q2] : List Value).toArray s 0 0 A) (F0 m 0 ls []) from key s.heap [] hP hD hS
  intro H locs hP hD hS
  unfold fX4_add at h
  refine lv_aload_n hx hb dX4_add_0 rfl (lv_at hl 0 rfl) ?_
  refine va_get (D := D) (ci := 4) (v := .long zp) (C := RX4) (T := TX4) (N := 14) hx hb hts iwX4_add_4 hown hE.1 hP 0 rfl rfl 0 (by decide) (hts _ lkX4_add_0) (fun _ h9 => h9) rfl dX4_add_1 ?_
  refine lv_lconst (v := 0) hx hb dX4_add_4 (by decide) ?_
  refine lc_ne (tgt := 12) hx hb dX4_add_5 dX4_add_6 (by decide) (fun c1 => ?_) (fun c1 => ?_)
  · have h := ite_f c1 h
    refine lv_iload_n hx hb dX4_add_12 rfl (lv_at hl 1 rfl) ?_
    obtain ⟨r2, h3, h⟩ := bind_s h
    refine ki (kS (As := [.int q0]) (rest := []) C0 (kX4_isSlot l D cJ cZ q0 r2 h3) gX4_add_X4_isSlot rfl ⟨rfl, rfl⟩ hdX4_isSlot ⟨Nat.le_of_ble_eq_true rfl, Nat.le_of_ble_eq_true rfl⟩ (hP.sub [] rfl) hE hl rfl rfl (Nat.le_of_ble_eq_true rfl) dX4_add_13 (Nat.zero_le _) (Nat.zero_le _)) ?_
    refine lv_if_eq (tgt := 33) hx hb dX4_add_16 (by decide) (fun c4 => ?_) (fun c4 => ?_)
    · have h := ite_t c4 h
      refine lv_bipush (v := (-2)) hx hb dX4_add_33 (by decide) ?_
      cases h
      exact rfI hx hb hr hlocks hP hD hS dX4_add_35
    · have h := ite_f c4 h
      refine lv_iload_n hx hb dX4_add_19 rfl (lv_at hl 2 rfl) ?_
      obtain ⟨r5, h6, h⟩ := bind_s h
      refine ki (kS (As := [.int q1]) (rest := []) C0 (kX4_isSlot l D cJ cZ q1 r5 h6) gX4_add_X4_isSlot rfl ⟨rfl, rfl⟩ hdX4_isSlot ⟨Nat.le_of_ble_eq_true rfl, Nat.le_of_ble_eq_true rfl⟩ (hP.sub [] rfl) hE hl rfl rfl (Nat.le_of_ble_eq_true rfl) dX4_add_20 (Nat.zero_le _) (Nat.zero_le _)) ?_
      refine lv_if_eq (tgt := 33) hx hb dX4_add_23 (by decide) (fun c7 => ?_) (fun c7 => ?_)
      · have h := ite_t c7 h
        refine lv_bipush (v := (-2)) hx hb dX4_add_33 (by decide) ?_
        cases h
        exact rfI hx hb hr hlocks hP hD hS dX4_add_35
      · have h := ite_f c7 h
        refine lv_iload_n hx hb dX4_add_26 rfl (lv_at hl 3 rfl) ?_
        obtain ⟨r8, h9, h⟩ := bind_s h
        refine ki (kS (As := [.int q2]) (rest := []) C0 (kX4_isSlot l D cJ cZ q2 r8 h9) gX4_add_X4_isSlot rfl ⟨rfl, rfl⟩ hdX4_isSlot ⟨Nat.le_of_ble_eq_true rfl, Nat.le_of_ble_eq_true rfl⟩ (hP.sub [] rfl) hE hl rfl rfl (Nat.le_of_ble_eq_true rfl) dX4_add_27 (Nat.zero_le _) (Nat.zero_le _)) ?_
        refine lv_if_ne (tgt := 36) hx hb dX4_add_30 (by decide) (fun c10 => ?_) (fun c10 => ?_)
        · have h := ite_f c10 h
          refine lv_aload_n hx hb dX4_add_36 rfl (lv_at hl 0 rfl) ?_
          refine lv_iload_n hx hb dX4_add_37 rfl (lv_at hl 2 rfl) ?_
          obtain ⟨⟨o11, o12, o13⟩, h14, h⟩ := bind_s h
          try dsimp only at h
          refine kE (wc := [(mo, .inr (4, [.long zp, .long zr, .long zh, .ref a1, .ref a2, .ref a3, .ref a4, .ref a5, .long zx, .long zy, .int (bI zi), .long zu, .long zv, .int zl])), (a1, .inl (cJ, 16, .inr (.inl zpx))), (a2, .inl (cJ, 16, .inr (.inl zpy))), (a3, .inl (cZ, 16, .inl (fun i => bI (zip i)))), (a4, .inl (cJ, 8, .inr (.inl zvu))), (a5, .inl (cJ, 8, .inr (.inl zvv)))]) (wr := []) [0, 1, 2, 3, 4, 5] [] hP hD hS hA rfl rfl rfl (by decide) rfl (eV (As := [.int q1]) (rest := []) C0 (kX4_load l D cJ cZ mo a1 a2 a3 a4 a5 zp zr zh zx zy zi zu zv zl zpx zpy zip zvu zvv q1 H.size o11 o12 o13 h14) gX4_add_X4_load rfl ⟨rfl, rfl⟩ hdX4_load ⟨Nat.le_of_ble_eq_true rfl, Nat.le_of_ble_eq_true rfl⟩ 4 0 rfl rfl rfl hP hD hE hl rfl rfl (Nat.le_of_ble_eq_true rfl) dX4_add_38 ⟨Nat.zero_le _, Nat.zero_le _⟩) (fun H locs hP hD hS => ?_)
          have hP : va_P D vwCl [(mo, .inr (4, [.long zp, .long zr, .long zh, .ref a1, .ref a2, .ref a3, .ref a4, .ref a5, .long o11, .long o12, .int (bI o13), .long zu, .long zv, .int zl])), (a1, .inl (cJ, 16, .inr (.inl zpx))), (a2, .inl (cJ, 16, .inr (.inl zpy))), (a3, .inl (cZ, 16, .inl (fun i => bI (zip i)))), (a4, .inl (cJ, 8, .inr (.inl zvu))), (a5, .inl (cJ, 8, .inr (.inl zvv)))] H := hP
          have hD : va_D A [(mo, .inr (4, [.long zp, .long zr, .long zh, .ref a1, .ref a2, .ref a3, .ref a4, .ref a5, .long o11, .long o12, .int (bI o13), .long zu, .long zv, .int zl])), (a1, .inl (cJ, 16, .inr (.inl zpx))), (a2, .inl (cJ, 16, .inr (.inl zpy))), (a3, .inl (cZ, 16, .inl (fun i => bI (zip i)))), (a4, .inl (cJ, 8, .inr (.inl zvu))), (a5, .inl (cJ, 8, .inr (.inl zvv)))] := hD
          refine lv_aload_n hx hb dX4_add_41 rfl (lv_at hl 0 rfl) ?_
          refine lv_aload_n hx hb dX4_add_42 rfl (lv_at hl 0 rfl) ?_
          refine va_get (D := D) (ci := 4) (v := .ref a1) (C := RX4) (T := TX4) (N := 14) hx hb hts iwX4_add_4 hown hE.1 hP 0 rfl rfl 3 (by decide) (hts _ lkX4_add_1) (fun _ h9 => h9) rfl dX4_add_43 ?_
          refine lv_iload_n hx hb dX4_add_46 rfl (lv_at hl 3 rfl) ?_
          obtain ⟨c15, h⟩ := ite_n h
          refine va_lald hx hb hE.1 hP 1 0 rfl rfl c15 dX4_add_47 ?_
          refine lv_aload_n hx hb dX4_add_48 rfl (lv_at hl 0 rfl) ?_
          refine va_get (D := D) (ci := 4) (v := .ref a2) (C := RX4) (T := TX4) (N := 14) hx hb hts iwX4_add_4 hown hE.1 hP 0 rfl rfl 4 (by decide) (hts _ lkX4_add_2) (fun _ h9 => h9) rfl dX4_add_49 ?_
          refine lv_iload_n hx hb dX4_add_52 rfl (lv_at hl 3 rfl) ?_
          refine va_lald hx hb hE.1 hP 2 0 rfl rfl c15 dX4_add_53 ?_
          refine lv_aload_n hx hb dX4_add_54 rfl (lv_at hl 0 rfl) ?_
          refine va_get (D := D) (ci := 4) (v := .ref a3) (C := RX4) (T := TX4) (N := 14) hx hb hts iwX4_add_4 hown hE.1 hP 0 rfl rfl 5 (by decide) (hts _ lkX4_add_3) (fun _ h9 => h9) rfl dX4_add_55 ?_
          refine lv_iload_n hx hb dX4_add_58 rfl (lv_at hl 3 rfl) ?_
          refine va_zald hx hb hE.1 hP 3 1 rfl rfl c15 dX4_add_59 ?_
          obtain ⟨⟨o16, o17, o18⟩, h19, h⟩ := bind_s h
          try dsimp only at h
          refine kE (wc := [(mo, .inr (4, [.long zp, .long zr, .long zh, .ref a1, .ref a2, .ref a3, .ref a4, .ref a5, .long o11, .long o12, .int (bI o13), .long zu, .long zv, .int zl])), (a1, .inl (cJ, 16, .inr (.inl zpx))), (a2, .inl (cJ, 16, .inr (.inl zpy))), (a3, .inl (cZ, 16, .inl (fun i => bI (zip i)))), (a4, .inl (cJ, 8, .inr (.inl zvu))), (a5, .inl (cJ, 8, .inr (.inl zvv)))]) (wr := []) [0, 1, 2, 3, 4, 5] [] hP hD hS hA rfl rfl rfl (by decide) rfl (eV (As := [.long (zpx q2.toNatClampNeg), .long (zpy q2.toNatClampNeg), .int (bI (zip q2.toNatClampNeg))]) (rest := []) C0 (kX4_plus l D cJ cZ mo a1 a2 a3 a4 a5 N zp zr zh o11 o12 o13 zu zv zl zpx zpy zip zvu zvv (zpx q2.toNatClampNeg) (zpy q2.toNatClampNeg) (zip q2.toNatClampNeg) H.size o16 o17 o18 h19) gX4_add_X4_plus rfl ⟨rfl, rfl⟩ hdX4_plus ⟨Nat.le_of_ble_eq_true rfl, Nat.le_of_ble_eq_true rfl⟩ 4 0 rfl rfl rfl hP hD hE hl rfl rfl (Nat.le_of_ble_eq_true rfl) dX4_add_60 ⟨Nat.zero_le _, Nat.zero_le _⟩) (fun H locs hP hD hS => ?_)
          have hP : va_P D vwCl [(mo, .inr (4, [.long zp, .long zr, .long zh, .ref a1, .ref a2, .ref a3, .ref a4, .ref a5, .long o16, .long o17, .int (bI o18), .long zu, .long zv, .int zl])), (a1, .inl (cJ, 16, .inr (.inl zpx))), (a2, .inl (cJ, 16, .inr (.inl zpy))), (a3, .inl (cZ, 16, .inl (fun i => bI (zip i)))), (a4, .inl (cJ, 8, .inr (.inl zvu))), (a5, .inl (cJ, 8, .inr (.inl zvv)))] H := hP
          have hD : va_D A [(mo, .inr (4, [.long zp, .long zr, .long zh, .ref a1, .ref a2, .ref a3, .ref a4, .ref a5, .long o16, .long o17, .int (bI o18), .long zu, .long zv, .int zl])), (a1, .inl (cJ, 16, .inr (.inl zpx))), (a2, .inl (cJ, 16, .inr (.inl zpy))), (a3, .inl (cZ, 16, .inl (fun i => bI (zip i)))), (a4, .inl (cJ, 8, .inr (.inl zvu))), (a5, .inl (cJ, 8, .inr (.inl zvv)))] := hD
          refine lv_aload_n hx hb dX4_add_63 rfl (lv_at hl 0 rfl) ?_
          refine lv_iload_n hx hb dX4_add_64 rfl (lv_at hl 1 rfl) ?_
          obtain ⟨⟨o20, o21, o22⟩, h23, h⟩ := bind_s h
          try dsimp only at h
          refine kE (wc := [(mo, .inr (4, [.long zp, .long zr, .long zh, .ref a1, .ref a2, .ref a3, .ref a4, .ref a5, .long o16, .long o17, .int (bI o18), .long zu, .long zv, .int zl])), (a1, .inl (cJ, 16, .inr (.inl zpx))), (a2, .inl (cJ, 16, .inr (.inl zpy))), (a3, .inl (cZ, 16, .inl (fun i => bI (zip i)))), (a4, .inl (cJ, 8, .inr (.inl zvu))), (a5, .inl (cJ, 8, .inr (.inl zvv)))]) (wr := []) [0, 1, 2, 3, 4, 5] [] hP hD hS hA rfl rfl rfl (by decide) rfl (eV (As := [.int q0]) (rest := []) C0 (kX4_store l D cJ cZ mo a1 a2 a3 a4 a5 zp zr zh o16 o17 o18 zu zv zl zpx zpy zip zvu zvv q0 H.size o20 o21 o22 h23) gX4_add_X4_store rfl ⟨rfl, rfl⟩ hdX4_store ⟨Nat.le_of_ble_eq_true rfl, Nat.le_of_ble_eq_true rfl⟩ 4 0 rfl rfl rfl hP hD hE hl rfl rfl (Nat.le_of_ble_eq_true rfl) dX4_add_65 ⟨Nat.zero_le _, Nat.zero_le _⟩) (fun H locs hP hD hS => ?_)
          have hP : va_P D vwCl [(mo, .inr (4, [.long zp, .long zr, .long zh, .ref a1, .ref a2, .ref a3, .ref a4, .ref a5, .long o16, .long o17, .int (bI o18), .long zu, .long zv, .int zl])), (a1, .inl (cJ, 16, .inr (.inl o20))), (a2, .inl (cJ, 16, .inr (.inl o21))), (a3, .inl (cZ, 16, .inl (fun i => bI (o22 i)))), (a4, .inl (cJ, 8, .inr (.inl zvu))), (a5, .inl (cJ, 8, .inr (.inl zvv)))] H := hP
          have hD : va_D A [(mo, .inr (4, [.long zp, .long zr, .long zh, .ref a1, .ref a2, .ref a3, .ref a4, .ref a5, .long o16, .long o17, .int (bI o18), .long zu, .long zv, .int zl])), (a1, .inl (cJ, 16, .inr (.inl o20))), (a2, .inl (cJ, 16, .inr (.inl o21))), (a3, .inl (cZ, 16, .inl (fun i => bI (o22 i)))), (a4, .inl (cJ, 8, .inr (.inl zvu))), (a5, .inl (cJ, 8, .inr (.inl zvv)))] := hD
          refine lv_aload_n hx hb dX4_add_68 rfl (lv_at hl 0 rfl) ?_
          refine va_get (D := D) (ci := 4) (v := .int (bI o18)) (C := RX4) (T := TX4) (N := 14) hx hb hts iwX4_add_4 hown hE.1 hP 0 rfl rfl 10 (by decide) (hts _ lkX4_add_4) (fun _ h9 => h9) rfl dX4_add_69 ?_
          refine lv_if_eq (tgt := 79) hx hb dX4_add_72 (by decide) (fun c24 => ?_) (fun c24 => ?_)
          · have h := ite_t c24 h
            refine lv_iconst (v := 0) hx hb dX4_add_79 (by decide) ?_
            cases h
            exact rfI hx hb hr hlocks hP hD hS dX4_add_80
          · have h := ite_f c24 h
            refine lv_iconst (v := 1) hx hb dX4_add_75 (by decide) ?_
            refine lv_goto (tgt := 80) hx hb dX4_add_76 (by decide) ?_
            cases h
            exact rfI hx hb hr hlocks hP hD hS dX4_add_80
        · have h := ite_t c10 h
          refine lv_bipush (v := (-2)) hx hb dX4_add_33 (by decide) ?_
          cases h
          exact rfI hx hb hr hlocks hP hD hS dX4_add_35
  · have h := ite_t c1 h
    refine lv_bipush (v := (-3)) hx hb dX4_add_9 (by decide) ?_
    cases h
    exact rfI hx hb hr hlocks hP hD hS dX4_add_11
def fX4_times (N : Nat) (zp : Int64) (zx : Int64) (zy : Int64) (zi : Bool) (zpx : Nat → Int64) (zpy : Nat → Int64) (zip : Nat → Bool) (q0 : Int32) (q1 : Int32) (q2 : Int64) : Option (Int32 × Int64 × Int64 × Bool × (Nat → Int64) × (Nat → Int64) × (Nat → Bool)) :=
  if zp = 0 then
    some ((-3), zx, zy, zi, zpx, zpy, zip)
  else
    (fX4_isSlot q0).bind fun r2 =>
    if (bI r2) = 0 then
      some ((-2), zx, zy, zi, zpx, zpy, zip)
    else
      (fX4_isSlot q1).bind fun r5 =>
      if (bI r5) = 0 then
        some ((-2), zx, zy, zi, zpx, zpy, zip)
      else
        (fX4_load zx zy zi zpx zpy zip q1).bind fun (o8, o9, o10) =>
        if 0 ≤ q2 then
          (fX4_take N zp o8 o9 o10 q2).bind fun (o13, o14, o15) =>
          (fX4_store o13 o14 o15 zpx zpy zip q0).bind fun (o17, o18, o19) =>
          if (bI o15) = 0 then
            some (0, o13, o14, o15, o17, o18, o19)
          else
            some (1, o13, o14, o15, o17, o18, o19)
        else
          bnd (jrem (zp - o9) zp) fun w22 =>
          (fX4_take N zp o8 w22 o10 (-q2)).bind fun (o23, o24, o25) =>
          (fX4_store o23 o24 o25 zpx zpy zip q0).bind fun (o27, o28, o29) =>
          if (bI o25) = 0 then
            some (0, o23, o24, o25, o27, o28, o29)
          else
            some (1, o23, o24, o25, o27, o28, o29)
abbrev rmX4_times : Room := { frames := 6, cells := 0, slots := 0, locals := 161 }
theorem lkX4_times_0 : (.fieldLink RX4 28 "PairingDeskModel" "p" "J" : Cond) ∈ wsX4_times := by decide +kernel
theorem lkX4_times_1 : (.fieldLink RX4 67 "PairingDeskModel" "is" "Z" : Cond) ∈ wsX4_times := by decide +kernel
theorem lkX4_times_2 : (.fieldLink RX4 64 "PairingDeskModel" "y" "J" : Cond) ∈ wsX4_times := by decide +kernel
theorem iwX4_times_4 : ∀ w ∈ wsX40, w ∈ wsX4_times := by decide +kernel
theorem hdX4_times : KN yX4_times 3 := by decide +kernel
set_option maxHeartbeats 4000000 in
set_option maxRecDepth 100000 in
theorem kX4_times (l : Launch) (D : va_G) (cJ cZ : ClassId) (mo a1 a2 a3 a4 a5 : Nat) (N : Nat) (zp : Int64) (zr : Int64) (zh : Int64) (zx : Int64) (zy : Int64) (zi : Bool) (zu : Int64) (zv : Int64) (zl : Int32) (zpx : Nat → Int64) (zpy : Nat → Int64) (zip : Nat → Bool) (zvu : Nat → Int64) (zvv : Nat → Int64) (q0 : Int32) (q1 : Int32) (q2 : Int64) (sz : Nat) (rr : Int32) (ozx : Int64) (ozy : Int64) (ozi : Bool) (ozpx : Nat → Int64) (ozpy : Nat → Int64) (ozip : Nat → Bool) (h : fX4_times N zp zx zy zi zpx zpy zip q0 q1 q2 = some (rr, ozx, ozy, ozi, ozpx, ozpy, ozip)) : Met l yX4_times wsX4_times rmX4_times (PE D cJ cZ [.ref mo, .int q0, .int q1, .long q2] [(mo, .inr (4, [.long zp, .long zr, .long zh, .ref a1, .ref a2, .ref a3, .ref a4, .ref a5, .long zx, .long zy, .int (bI zi), .long zu, .long zv, .int zl])), (a1, .inl (cJ, 16, .inr (.inl zpx))), (a2, .inl (cJ, 16, .inr (.inl zpy))), (a3, .inl (cZ, 16, .inl (fun i => bI (zip i)))), (a4, .inl (cJ, 8, .inr (.inl zvu))), (a5, .inl (cJ, 8, .inr (.inl zvv)))] sz) (QE D (some (.int rr)) [(mo, .inr (4, [.long zp, .long zr, .long zh, .ref a1, .ref a2, .ref a3, .ref a4, .ref a5, .long ozx, .long ozy, .int (bI ozi), .long zu, .long zv, .int zl])), (a1, .inl (cJ, 16, .inr (.inl ozpx))), (a2, .inl (cJ, 16, .inr (.inl ozpy))), (a3, .inl (cZ, 16, .inl (fun i => bI (ozip i)))), (a4, .inl (cJ, 8, .inr (.inl zvu))), (a5, .inl (cJ, 8, .inr (.inl zvv)))] (va_A [(mo, .inr (4, [.long zp, .long zr, .long zh, .ref a1, .ref a2, .ref a3, .ref a4, .ref a5, .long zx, .long zy, .int (bI zi), .long zu, .long zv, .int zl])), (a1, .inl (cJ, 16, .inr (.inl zpx))), (a2, .inl (cJ, 16, .inr (.inl zpy))), (a3, .inl (cZ, 16, .inl (fun i => bI (zip i)))), (a4, .inl (cJ, 8, .inr (.inl zvu))), (a5, .inl (cJ, 8, .inr (.inl zvv)))] sz)) 0 0 (va_A [(mo, .inr (4, [.long zp, .long zr, .long zh, .ref a1, .ref a2, .ref a3, .ref a4, .ref a5, .long zx, .long zy, .int (bI zi), .long zu, .long zv, .int zl])), (a1, .inl (cJ, 16, .inr (.inl zpx))), (a2, .inl (cJ, 16, .inr (.inl zpy))), (a3, .inl (cZ, 16, .inl (fun i => bI (zip i)))), (a4, .inl (cJ, 8, .inr (.inl zvu))), (a5, .inl (cJ, 8, .inr (.inl zvv)))] sz) := by
  refine Met.ofW (cc := cX4_times) (maxL := 5) (ret := some .int) (by decide) rfl ?_
  intro pg e s m args below meth c s₁ B hml hv
  obtain ⟨rfl, hsz, hP, hE, hD0⟩ := hv
  have hx := B.exec
  have hb := B.bytes
  have hr := B.returns
  have hlocks := B.notSynchronized
  have C0 : CallFix pg m c cX4_times 5 s ([.ref mo, .int q0, .int q1, .long q2] : List Value).toArray wsX4_times RX4 := ⟨hx, hb, hml, findClass_of_methodNamed B.named, atoms_spec (ws := wsX4_times) B.pre⟩
  have hown := C0.2.2.2.1
  have hts := C0.2.2.2.2
  subst hsz
  have hD := hD0.self (sz := s.heap.size)
  generalize hAe : va_A [(mo, .inr (4, [.long zp, .long zr, .long zh, .ref a1, .ref a2, .ref a3, .ref a4, .ref a5, .long zx, .long zy, .int (bI zi), .long zu, .long zv, .int zl])), (a1, .inl (cJ, 16, .inr (.inl zpx))), (a2, .inl (cJ, 16, .inr (.inl zpy))), (a3, .inl (cZ, 16, .inl (fun i => bI (zip i)))), (a4, .inl (cJ, 8, .inr (.inl zvu))), (a5, .inl (cJ, 8, .inr (.inl zvv)))] s.heap.size = A at hD ⊢
  have hA : ∀ q : Nat, s.heap.size ≤ q → A q := fun q h => by rw [← hAe]; exact Or.inr h
  have hS : va_S A s.heap s.heap [] := va_S.rf
  have hP : va_P D vwCl [(mo, .inr (4, [.long zp, .long zr, .long zh, .ref a1, .ref a2, .ref a3, .ref a4, .ref a5, .long zx, .long zy, .int (bI zi), .long zu, .long zv, .int zl])), (a1, .inl (cJ, 16, .inr (.inl zpx))), (a2, .inl (cJ, 16, .inr (.inl zpy))), (a3, .inl (cZ, 16, .inl (fun i => bI (zip i)))), (a4, .inl (cJ, 8, .inr (.inl zvu))), (a5, .inl (cJ, 8, .inr (.inl zvv)))] s.heap := hP
  have hl := lv_entry ([.ref mo, .int q0, .int q1, .long q2]) (n := 5) (Nat.le_of_ble_eq_true rfl)
  rw [lg_entry_eq]
  generalize (lg_sl ([.ref mo, .int q0, .int q1, .long q2]) ++ List.replicate (5 - (lg_sl ([.ref mo, .int q0, .int q1, .long q2])).length) Slot.unset).toArray = ls at hl ⊢
  have hl : lv_has ls 5 [(0, .ref mo), (1, .int q0), (2, .int q1), (3, .long q2)] := hl
  suffices key : ∀ (H : Heap) (locs : List Loc), va_P D vwCl [(mo, .inr (4, [.long zp, .long zr, .long zh, .ref a1, .ref a2, .ref a3, .ref a4, .ref a5, .long zx, .long zy, .int (bI zi), .long zu, .long zv, .int zl])), (a1, .inl (cJ, 16, .inr (.inl zpx))), (a2, .inl (cJ, 16, .inr (.inl zpy))), (a3, .inl (cZ, 16, .inl (fun i => bI (zip i)))), (a4, .inl (cJ, 8, .inr (.inl zvu))), (a5, .inl (cJ, 8, .inr (.inl zvv)))] H → va_D A [(mo, .inr (4, [.long zp, .long zr, .long zh, .ref a1, .ref a2, .ref a3, .ref a4, .ref a5, .long zx, .long zy, .int (bI zi), .long zu, .long zv, .int zl])), (a1, .inl (cJ, 16, .inr (.inl zpx))), (a2, .inl (cJ, 16, .inr (.inl zpy))), (a3, .inl (cZ, 16, .inl (fun i => bI (zip i)))), (a4, .inl (cJ, 8, .inr (.inl zvu))), (a5, .inl (cJ, 8, .inr (.inl zvv)))] → va_S A s.heap H locs → W pg l e (headSpec wsX4_times rmX4_times).room s m ([.ref mo, .int q0, .int q1, .long q2] : List Value).toArray below meth c H locs 0 0 (MQ below (QE D (some (.int rr)) [(mo, .inr (4, [.long zp, .long zr, .long zh, .ref a1, .ref a2, .ref a3, .ref a4, .ref a5, .long ozx, .long ozy, .int (bI ozi), .long zu, .long zv, .int zl])), (a1, .inl (cJ, 16, .inr (.inl ozpx))), (a2, .inl (cJ, 16, .inr (.inl ozpy))), (a3, .inl (cZ, 16, .inl (fun i => bI (ozip i)))), (a4, .inl (cJ, 8, .inr (.inl zvu))), (a5, .inl (cJ, 8, .inr (.inl zvv)))] A) ([.ref mo, .int q0, .int q1, .long q2] : List Value).toArray s 0 0 A) (F0 m 0 ls []) from key s.heap [] hP hD hS
  intro H locs hP hD hS
  unfold fX4_times at h
  refine lv_aload_n hx hb dX4_times_0 rfl (lv_at hl 0 rfl) ?_
  refine va_get (D := D) (ci := 4) (v := .long zp) (C := RX4) (T := TX4) (N := 14) hx hb hts iwX4_times_4 hown hE.1 hP 0 rfl rfl 0 (by decide) (hts _ lkX4_times_0) (fun _ h9 => h9) rfl dX4_times_1 ?_
  refine lv_lconst (v := 0) hx hb dX4_times_4 (by decide) ?_
  refine lc_ne (tgt := 12) hx hb dX4_times_5 dX4_times_6 (by decide) (fun c1 => ?_) (fun c1 => ?_)
  · have h := ite_f c1 h
    refine lv_iload_n hx hb dX4_times_12 rfl (lv_at hl 1 rfl) ?_
    obtain ⟨r2, h3, h⟩ := bind_s h
    refine ki (kS (As := [.int q0]) (rest := []) C0 (kX4_isSlot l D cJ cZ q0 r2 h3) gX4_times_X4_isSlot rfl ⟨rfl, rfl⟩ hdX4_isSlot ⟨Nat.le_of_ble_eq_true rfl, Nat.le_of_ble_eq_true rfl⟩ (hP.sub [] rfl) hE hl rfl rfl (Nat.le_of_ble_eq_true rfl) dX4_times_13 (Nat.zero_le _) (Nat.zero_le _)) ?_
    refine lv_if_eq (tgt := 26) hx hb dX4_times_16 (by decide) (fun c4 => ?_) (fun c4 => ?_)
    · have h := ite_t c4 h
      refine lv_bipush (v := (-2)) hx hb dX4_times_26 (by decide) ?_
      cases h
      exact rfI hx hb hr hlocks hP hD hS dX4_times_28
    · have h := ite_f c4 h
      refine lv_iload_n hx hb dX4_times_19 rfl (lv_at hl 2 rfl) ?_
      obtain ⟨r5, h6, h⟩ := bind_s h
      refine ki (kS (As := [.int q1]) (rest := []) C0 (kX4_isSlot l D cJ cZ q1 r5 h6) gX4_times_X4_isSlot rfl ⟨rfl, rfl⟩ hdX4_isSlot ⟨Nat.le_of_ble_eq_true rfl, Nat.le_of_ble_eq_true rfl⟩ (hP.sub [] rfl) hE hl rfl rfl (Nat.le_of_ble_eq_true rfl) dX4_times_20 (Nat.zero_le _) (Nat.zero_le _)) ?_
      refine lv_if_ne (tgt := 29) hx hb dX4_times_23 (by decide) (fun c7 => ?_) (fun c7 => ?_)
      · have h := ite_f c7 h
        refine lv_aload_n hx hb dX4_times_29 rfl (lv_at hl 0 rfl) ?_
        refine lv_iload_n hx hb dX4_times_30 rfl (lv_at hl 2 rfl) ?_
        obtain ⟨⟨o8, o9, o10⟩, h11, h⟩ := bind_s h
        try dsimp only at h
        refine kE (wc := [(mo, .inr (4, [.long zp, .long zr, .long zh, .ref a1, .ref a2, .ref a3, .ref a4, .ref a5, .long zx, .long zy, .int (bI zi), .long zu, .long zv, .int zl])), (a1, .inl (cJ, 16, .inr (.inl zpx))), (a2, .inl (cJ, 16, .inr (.inl zpy))), (a3, .inl (cZ, 16, .inl (fun i => bI (zip i)))), (a4, .inl (cJ, 8, .inr (.inl zvu))), (a5, .inl (cJ, 8, .inr (.inl zvv)))]) (wr := []) [0, 1, 2, 3, 4, 5] [] hP hD hS hA rfl rfl rfl (by decide) rfl (eV (As := [.int q1]) (rest := []) C0 (kX4_load l D cJ cZ mo a1 a2 a3 a4 a5 zp zr zh zx zy zi zu zv zl zpx zpy zip zvu zvv q1 H.size o8 o9 o10 h11) gX4_times_X4_load rfl ⟨rfl, rfl⟩ hdX4_load ⟨Nat.le_of_ble_eq_true rfl, Nat.le_of_ble_eq_true rfl⟩ 4 0 rfl rfl rfl hP hD hE hl rfl rfl (Nat.le_of_ble_eq_true rfl) dX4_times_31 ⟨Nat.zero_le _, Nat.zero_le _⟩) (fun H locs hP hD hS => ?_)
        have hP : va_P D vwCl [(mo, .inr (4, [.long zp, .long zr, .long zh, .ref a1, .ref a2, .ref a3, .ref a4, .ref a5, .long o8, .long o9, .int (bI o10), .long zu, .long zv, .int zl])), (a1, .inl (cJ, 16, .inr (.inl zpx))), (a2, .inl (cJ, 16, .inr (.inl zpy))), (a3, .inl (cZ, 16, .inl (fun i => bI (zip i)))), (a4, .inl (cJ, 8, .inr (.inl zvu))), (a5, .inl (cJ, 8, .inr (.inl zvv)))] H := hP
        have hD : va_D A [(mo, .inr (4, [.long zp, .long zr, .long zh, .ref a1, .ref a2, .ref a3, .ref a4, .ref a5, .long o8, .long o9, .int (bI o10), .long zu, .long zv, .int zl])), (a1, .inl (cJ, 16, .inr (.inl zpx))), (a2, .inl (cJ, 16, .inr (.inl zpy))), (a3, .inl (cZ, 16, .inl (fun i => bI (zip i)))), (a4, .inl (cJ, 8, .inr (.inl zvu))), (a5, .inl (cJ, 8, .inr (.inl zvv)))] := hD
        refine lv_lload_n hx hb dX4_times_34 rfl (lv_at hl 3 rfl) ?_
        refine lv_lconst (v := 0) hx hb dX4_times_35 (by decide) ?_
        refine lc_ge (tgt := 58) hx hb dX4_times_36 dX4_times_37 (by decide) (fun c12 => ?_) (fun c12 => ?_)
        · have h := ite_t c12 h
          refine lv_aload_n hx hb dX4_times_58 rfl (lv_at hl 0 rfl) ?_
          refine lv_lload_n hx hb dX4_times_59 rfl (lv_at hl 3 rfl) ?_
          refine lv_lconst (v := 0) hx hb dX4_times_60 (by decide) ?_
          refine lc_ge (tgt := 70) hx hb dX4_times_61 dX4_times_62 (by decide) (fun _ => ?_) (fun cc => absurd c12 cc)
          refine lv_lload_n hx hb dX4_times_70 rfl (lv_at hl 3 rfl) ?_
          obtain ⟨⟨o13, o14, o15⟩, h16, h⟩ := bind_s h
          try dsimp only at h
          refine kE (wc := [(mo, .inr (4, [.long zp, .long zr, .long zh, .ref a1, .ref a2, .ref a3, .ref a4, .ref a5, .long o8, .long o9, .int (bI o10), .long zu, .long zv, .int zl])), (a1, .inl (cJ, 16, .inr (.inl zpx))), (a2, .inl (cJ, 16, .inr (.inl zpy))), (a3, .inl (cZ, 16, .inl (fun i => bI (zip i)))), (a4, .inl (cJ, 8, .inr (.inl zvu))), (a5, .inl (cJ, 8, .inr (.inl zvv)))]) (wr := []) [0, 1, 2, 3, 4, 5] [] hP hD hS hA rfl rfl rfl (by decide) rfl (eV (As := [.long q2]) (rest := []) C0 (kX4_take l D cJ cZ mo a1 a2 a3 a4 a5 N zp zr zh o8 o9 o10 zu zv zl zpx zpy zip zvu zvv q2 H.size o13 o14 o15 h16) gX4_times_X4_take rfl ⟨rfl, rfl⟩ hdX4_take ⟨Nat.le_of_ble_eq_true rfl, Nat.le_of_ble_eq_true rfl⟩ 4 0 rfl rfl rfl hP hD hE hl rfl rfl (Nat.le_of_ble_eq_true rfl) dX4_times_71 ⟨Nat.zero_le _, Nat.zero_le _⟩) (fun H locs hP hD hS => ?_)
          have hP : va_P D vwCl [(mo, .inr (4, [.long zp, .long zr, .long zh, .ref a1, .ref a2, .ref a3, .ref a4, .ref a5, .long o13, .long o14, .int (bI o15), .long zu, .long zv, .int zl])), (a1, .inl (cJ, 16, .inr (.inl zpx))), (a2, .inl (cJ, 16, .inr (.inl zpy))), (a3, .inl (cZ, 16, .inl (fun i => bI (zip i)))), (a4, .inl (cJ, 8, .inr (.inl zvu))), (a5, .inl (cJ, 8, .inr (.inl zvv)))] H := hP
          have hD : va_D A [(mo, .inr (4, [.long zp, .long zr, .long zh, .ref a1, .ref a2, .ref a3, .ref a4, .ref a5, .long o13, .long o14, .int (bI o15), .long zu, .long zv, .int zl])), (a1, .inl (cJ, 16, .inr (.inl zpx))), (a2, .inl (cJ, 16, .inr (.inl zpy))), (a3, .inl (cZ, 16, .inl (fun i => bI (zip i)))), (a4, .inl (cJ, 8, .inr (.inl zvu))), (a5, .inl (cJ, 8, .inr (.inl zvv)))] := hD
          refine lv_aload_n hx hb dX4_times_74 rfl (lv_at hl 0 rfl) ?_
          refine lv_iload_n hx hb dX4_times_75 rfl (lv_at hl 1 rfl) ?_
          obtain ⟨⟨o17, o18, o19⟩, h20, h⟩ := bind_s h
          try dsimp only at h
          refine kE (wc := [(mo, .inr (4, [.long zp, .long zr, .long zh, .ref a1, .ref a2, .ref a3, .ref a4, .ref a5, .long o13, .long o14, .int (bI o15), .long zu, .long zv, .int zl])), (a1, .inl (cJ, 16, .inr (.inl zpx))), (a2, .inl (cJ, 16, .inr (.inl zpy))), (a3, .inl (cZ, 16, .inl (fun i => bI (zip i)))), (a4, .inl (cJ, 8, .inr (.inl zvu))), (a5, .inl (cJ, 8, .inr (.inl zvv)))]) (wr := []) [0, 1, 2, 3, 4, 5] [] hP hD hS hA rfl rfl rfl (by decide) rfl (eV (As := [.int q0]) (rest := []) C0 (kX4_store l D cJ cZ mo a1 a2 a3 a4 a5 zp zr zh o13 o14 o15 zu zv zl zpx zpy zip zvu zvv q0 H.size o17 o18 o19 h20) gX4_times_X4_store rfl ⟨rfl, rfl⟩ hdX4_store ⟨Nat.le_of_ble_eq_true rfl, Nat.le_of_ble_eq_true rfl⟩ 4 0 rfl rfl rfl hP hD hE hl rfl rfl (Nat.le_of_ble_eq_true rfl) dX4_times_76 ⟨Nat.zero_le _, Nat.zero_le _⟩) (fun H locs hP hD hS => ?_)
          have hP : va_P D vwCl [(mo, .inr (4, [.long zp, .long zr, .long zh, .ref a1, .ref a2, .ref a3, .ref a4, .ref a5, .long o13, .long o14, .int (bI o15), .long zu, .long zv, .int zl])), (a1, .inl (cJ, 16, .inr (.inl o17))), (a2, .inl (cJ, 16, .inr (.inl o18))), (a3, .inl (cZ, 16, .inl (fun i => bI (o19 i)))), (a4, .inl (cJ, 8, .inr (.inl zvu))), (a5, .inl (cJ, 8, .inr (.inl zvv)))] H := hP
          have hD : va_D A [(mo, .inr (4, [.long zp, .long zr, .long zh, .ref a1, .ref a2, .ref a3, .ref a4, .ref a5, .long o13, .long o14, .int (bI o15), .long zu, .long zv, .int zl])), (a1, .inl (cJ, 16, .inr (.inl o17))), (a2, .inl (cJ, 16, .inr (.inl o18))), (a3, .inl (cZ, 16, .inl (fun i => bI (o19 i)))), (a4, .inl (cJ, 8, .inr (.inl zvu))), (a5, .inl (cJ, 8, .inr (.inl zvv)))] := hD
          refine lv_aload_n hx hb dX4_times_79 rfl (lv_at hl 0 rfl) ?_
          refine va_get (D := D) (ci := 4) (v := .int (bI o15)) (C := RX4) (T := TX4) (N := 14) hx hb hts iwX4_times_4 hown hE.1 hP 0 rfl rfl 10 (by decide) (hts _ lkX4_times_1) (fun _ h9 => h9) rfl dX4_times_80 ?_
          refine lv_if_eq (tgt := 90) hx hb dX4_times_83 (by decide) (fun c21 => ?_) (fun c21 => ?_)
          · have h := ite_t c21 h
            refine lv_iconst (v := 0) hx hb dX4_times_90 (by decide) ?_
            cases h
            exact rfI hx hb hr hlocks hP hD hS dX4_times_91
          · have h := ite_f c21 h
            refine lv_iconst (v := 1) hx hb dX4_times_86 (by decide) ?_
            refine lv_goto (tgt := 91) hx hb dX4_times_87 (by decide) ?_
            cases h
            exact rfI hx hb hr hlocks hP hD hS dX4_times_91
        · have h := ite_f c12 h
          refine lv_aload_n hx hb dX4_times_40 rfl (lv_at hl 0 rfl) ?_
          refine lv_aload_n hx hb dX4_times_41 rfl (lv_at hl 0 rfl) ?_
          refine va_get (D := D) (ci := 4) (v := .long zp) (C := RX4) (T := TX4) (N := 14) hx hb hts iwX4_times_4 hown hE.1 hP 0 rfl rfl 0 (by decide) (hts _ lkX4_times_0) (fun _ h9 => h9) rfl dX4_times_42 ?_
          refine lv_aload_n hx hb dX4_times_45 rfl (lv_at hl 0 rfl) ?_
          refine va_get (D := D) (ci := 4) (v := .long o9) (C := RX4) (T := TX4) (N := 14) hx hb hts iwX4_times_4 hown hE.1 hP 0 rfl rfl 9 (by decide) (hts _ lkX4_times_2) (fun _ h9 => h9) rfl dX4_times_46 ?_
          refine lv_lsub hx hb dX4_times_49 ?_
          refine lv_aload_n hx hb dX4_times_50 rfl (lv_at hl 0 rfl) ?_
          refine va_get (D := D) (ci := 4) (v := .long zp) (C := RX4) (T := TX4) (N := 14) hx hb hts iwX4_times_4 hown hE.1 hP 0 rfl rfl 0 (by decide) (hts _ lkX4_times_0) (fun _ h9 => h9) rfl dX4_times_51 ?_
          refine lv_lremJ hx hb dX4_times_54 c1 ?_
          obtain ⟨w22, ew22, h⟩ := bnd_s h
          refine tl ew22.symm ?_
          refine va_put (D := D) (ci := 4) (v := .long w22) (ty := .long) (C := RX4) (T := TX4) (N := 14) hx hb hts iwX4_times_4 tyX4 tyX4_ok nmX4 hown hE.1 hP hD hS 0 rfl rfl 9 (by decide) (hts _ lkX4_times_2) (fun _ h9 => h9) rfl (by decide +kernel) rfl rfl (Nat.le_of_ble_eq_true rfl) dX4_times_55 (fun H locs hP hD hS => ?_)
          have hP : va_P D vwCl [(mo, .inr (4, [.long zp, .long zr, .long zh, .ref a1, .ref a2, .ref a3, .ref a4, .ref a5, .long o8, .long w22, .int (bI o10), .long zu, .long zv, .int zl])), (a1, .inl (cJ, 16, .inr (.inl zpx))), (a2, .inl (cJ, 16, .inr (.inl zpy))), (a3, .inl (cZ, 16, .inl (fun i => bI (zip i)))), (a4, .inl (cJ, 8, .inr (.inl zvu))), (a5, .inl (cJ, 8, .inr (.inl zvv)))] H := hP
          have hD : va_D A [(mo, .inr (4, [.long zp, .long zr, .long zh, .ref a1, .ref a2, .ref a3, .ref a4, .ref a5, .long o8, .long w22, .int (bI o10), .long zu, .long zv, .int zl])), (a1, .inl (cJ, 16, .inr (.inl zpx))), (a2, .inl (cJ, 16, .inr (.inl zpy))), (a3, .inl (cZ, 16, .inl (fun i => bI (zip i)))), (a4, .inl (cJ, 8, .inr (.inl zvu))), (a5, .inl (cJ, 8, .inr (.inl zvv)))] := hD
          refine lv_aload_n hx hb dX4_times_58 rfl (lv_at hl 0 rfl) ?_
          refine lv_lload_n hx hb dX4_times_59 rfl (lv_at hl 3 rfl) ?_
          refine lv_lconst (v := 0) hx hb dX4_times_60 (by decide) ?_
          refine lc_ge (tgt := 70) hx hb dX4_times_61 dX4_times_62 (by decide) (fun cc => absurd cc c12) (fun _ => ?_)
          refine lv_lload_n hx hb dX4_times_65 rfl (lv_at hl 3 rfl) ?_
          refine lv_lneg hx hb dX4_times_66 ?_
          refine lv_goto (tgt := 71) hx hb dX4_times_67 (by decide) ?_
          obtain ⟨⟨o23, o24, o25⟩, h26, h⟩ := bind_s h
          try dsimp only at h
          refine kE (wc := [(mo, .inr (4, [.long zp, .long zr, .long zh, .ref a1, .ref a2, .ref a3, .ref a4, .ref a5, .long o8, .long w22, .int (bI o10), .long zu, .long zv, .int zl])), (a1, .inl (cJ, 16, .inr (.inl zpx))), (a2, .inl (cJ, 16, .inr (.inl zpy))), (a3, .inl (cZ, 16, .inl (fun i => bI (zip i)))), (a4, .inl (cJ, 8, .inr (.inl zvu))), (a5, .inl (cJ, 8, .inr (.inl zvv)))]) (wr := []) [0, 1, 2, 3, 4, 5] [] hP hD hS hA rfl rfl rfl (by decide) rfl (eV (As := [.long (-q2)]) (rest := []) C0 (kX4_take l D cJ cZ mo a1 a2 a3 a4 a5 N zp zr zh o8 w22 o10 zu zv zl zpx zpy zip zvu zvv (-q2) H.size o23 o24 o25 h26) gX4_times_X4_take rfl ⟨rfl, rfl⟩ hdX4_take ⟨Nat.le_of_ble_eq_true rfl, Nat.le_of_ble_eq_true rfl⟩ 4 0 rfl rfl rfl hP hD hE hl rfl rfl (Nat.le_of_ble_eq_true rfl) dX4_times_71 ⟨Nat.zero_le _, Nat.zero_le _⟩) (fun H locs hP hD hS => ?_)
          have hP : va_P D vwCl [(mo, .inr (4, [.long zp, .long zr, .long zh, .ref a1, .ref a2, .ref a3, .ref a4, .ref a5, .long o23, .long o24, .int (bI o25), .long zu, .long zv, .int zl])), (a1, .inl (cJ, 16, .inr (.inl zpx))), (a2, .inl (cJ, 16, .inr (.inl zpy))), (a3, .inl (cZ, 16, .inl (fun i => bI (zip i)))), (a4, .inl (cJ, 8, .inr (.inl zvu))), (a5, .inl (cJ, 8, .inr (.inl zvv)))] H := hP
          have hD : va_D A [(mo, .inr (4, [.long zp, .long zr, .long zh, .ref a1, .ref a2, .ref a3, .ref a4, .ref a5, .long o23, .long o24, .int (bI o25), .long zu, .long zv, .int zl])), (a1, .inl (cJ, 16, .inr (.inl zpx))), (a2, .inl (cJ, 16, .inr (.inl zpy))), (a3, .inl (cZ, 16, .inl (fun i => bI (zip i)))), (a4, .inl (cJ, 8, .inr (.inl zvu))), (a5, .inl (cJ, 8, .inr (.inl zvv)))] := hD
          refine lv_aload_n hx hb dX4_times_74 rfl (lv_at hl 0 rfl) ?_
          refine lv_iload_n hx hb dX4_times_75 rfl (lv_at hl 1 rfl) ?_
          obtain ⟨⟨o27, o28, o29⟩, h30, h⟩ := bind_s h
          try dsimp only at h
          refine kE (wc := [(mo, .inr (4, [.long zp, .long zr, .long zh, .ref a1, .ref a2, .ref a3, .ref a4, .ref a5, .long o23, .long o24, .int (bI o25), .long zu, .long zv, .int zl])), (a1, .inl (cJ, 16, .inr (.inl zpx))), (a2, .inl (cJ, 16, .inr (.inl zpy))), (a3, .inl (cZ, 16, .inl (fun i => bI (zip i)))), (a4, .inl (cJ, 8, .inr (.inl zvu))), (a5, .inl (cJ, 8, .inr (.inl zvv)))]) (wr := []) [0, 1, 2, 3, 4, 5] [] hP hD hS hA rfl rfl rfl (by decide) rfl (eV (As := [.int q0]) (rest := []) C0 (kX4_store l D cJ cZ mo a1 a2 a3 a4 a5 zp zr zh o23 o24 o25 zu zv zl zpx zpy zip zvu zvv q0 H.size o27 o28 o29 h30) gX4_times_X4_store rfl ⟨rfl, rfl⟩ hdX4_store ⟨Nat.le_of_ble_eq_true rfl, Nat.le_of_ble_eq_true rfl⟩ 4 0 rfl rfl rfl hP hD hE hl rfl rfl (Nat.le_of_ble_eq_true rfl) dX4_times_76 ⟨Nat.zero_le _, Nat.zero_le _⟩) (fun H locs hP hD hS => ?_)
          have hP : va_P D vwCl [(mo, .inr (4, [.long zp, .long zr, .long zh, .ref a1, .ref a2, .ref a3, .ref a4, .ref a5, .long o23, .long o24, .int (bI o25), .long zu, .long zv, .int zl])), (a1, .inl (cJ, 16, .inr (.inl o27))), (a2, .inl (cJ, 16, .inr (.inl o28))), (a3, .inl (cZ, 16, .inl (fun i => bI (o29 i)))), (a4, .inl (cJ, 8, .inr (.inl zvu))), (a5, .inl (cJ, 8, .inr (.inl zvv)))] H := hP
          have hD : va_D A [(mo, .inr (4, [.long zp, .long zr, .long zh, .ref a1, .ref a2, .ref a3, .ref a4, .ref a5, .long o23, .long o24, .int (bI o25), .long zu, .long zv, .int zl])), (a1, .inl (cJ, 16, .inr (.inl o27))), (a2, .inl (cJ, 16, .inr (.inl o28))), (a3, .inl (cZ, 16, .inl (fun i => bI (o29 i)))), (a4, .inl (cJ, 8, .inr (.inl zvu))), (a5, .inl (cJ, 8, .inr (.inl zvv)))] := hD
          refine lv_aload_n hx hb dX4_times_79 rfl (lv_at hl 0 rfl) ?_
          refine va_get (D := D) (ci := 4) (v := .int (bI o25)) (C := RX4) (T := TX4) (N := 14) hx hb hts iwX4_times_4 hown hE.1 hP 0 rfl rfl 10 (by decide) (hts _ lkX4_times_1) (fun _ h9 => h9) rfl dX4_times_80 ?_
          refine lv_if_eq (tgt := 90) hx hb dX4_times_83 (by decide) (fun c31 => ?_) (fun c31 => ?_)
          · have h := ite_t c31 h
            refine lv_iconst (v := 0) hx hb dX4_times_90 (by decide) ?_
            cases h
            exact rfI hx hb hr hlocks hP hD hS dX4_times_91
          · have h := ite_f c31 h
            refine lv_iconst (v := 1) hx hb dX4_times_86 (by decide) ?_
            refine lv_goto (tgt := 91) hx hb dX4_times_87 (by decide) ?_
            cases h
            exact rfI hx hb hr hlocks hP hD hS dX4_times_91
      · have h := ite_t c7 h
        refine lv_bipush (v := (-2)) hx hb dX4_times_26 (by decide) ?_
        cases h
        exact rfI hx hb hr hlocks hP hD hS dX4_times_28
  · have h := ite_t c1 h
    refine lv_bipush (v := (-3)) hx hb dX4_times_9 (by decide) ?_
    cases h
    exact rfI hx hb hr hlocks hP hD hS dX4_times_11
def fX4_at  (zp : Int64) (zpx : Nat → Int64) (zpy : Nat → Int64) (zip : Nat → Bool) (q0 : Int32) (q1 : Int32) : Option (Int32) :=
  if zp = 0 then
    some (-3)
  else
    (fX4_isSlot q0).bind fun r2 =>
    if (bI r2) = 0 then
      some (-2)
    else
      (fX4_in q1.toInt64 0 1).bind fun r5 =>
      if (bI r5) = 0 then
        some (-2)
      else
        if q0 < 0 ∨ 16 ≤ q0.toNatClampNeg then none else
        if (bI (zip q0.toNatClampNeg)) = 0 then
          some (-1)
        else
          if q1 = 0 then
            some ((zpx q0.toNatClampNeg).toInt32)
          else
            some ((zpy q0.toNatClampNeg).toInt32)
abbrev rmX4_at : Room := { frames := 2, cells := 0, slots := 0, locals := 45 }
theorem lkX4_at_0 : (.fieldLink RX4 28 "PairingDeskModel" "p" "J" : Cond) ∈ wsX4_at := by decide +kernel
theorem lkX4_at_1 : (.fieldLink RX4 16 "PairingDeskModel" "isPoint" "[Z" : Cond) ∈ wsX4_at := by decide +kernel
theorem lkX4_at_2 : (.fieldLink RX4 13 "PairingDeskModel" "py" "[J" : Cond) ∈ wsX4_at := by decide +kernel
theorem lkX4_at_3 : (.fieldLink RX4 7 "PairingDeskModel" "px" "[J" : Cond) ∈ wsX4_at := by decide +kernel
theorem iwX4_at_4 : ∀ w ∈ wsX40, w ∈ wsX4_at := by decide +kernel
theorem hdX4_at : KN yX4_at 2 := by decide +kernel
set_option maxHeartbeats 4000000 in
set_option maxRecDepth 100000 in
theorem kX4_at (l : Launch) (D : va_G) (cJ cZ : ClassId) (mo a1 a2 a3 a4 a5 : Nat) (zp : Int64) (zr : Int64) (zh : Int64) (zx : Int64) (zy : Int64) (zi : Bool) (zu : Int64) (zv : Int64) (zl : Int32) (zpx : Nat → Int64) (zpy : Nat → Int64) (zip : Nat → Bool) (zvu : Nat → Int64) (zvv : Nat → Int64) (q0 : Int32) (q1 : Int32) (rr : Int32) (h : fX4_at zp zpx zpy zip q0 q1 = some rr) : Met l yX4_at wsX4_at rmX4_at (PP D cJ cZ [.ref mo, .int q0, .int q1] [(mo, .inr (4, [.long zp, .long zr, .long zh, .ref a1, .ref a2, .ref a3, .ref a4, .ref a5, .long zx, .long zy, .int (bI zi), .long zu, .long zv, .int zl])), (a1, .inl (cJ, 16, .inr (.inl zpx))), (a2, .inl (cJ, 16, .inr (.inl zpy))), (a3, .inl (cZ, 16, .inl (fun i => bI (zip i)))), (a4, .inl (cJ, 8, .inr (.inl zvu))), (a5, .inl (cJ, 8, .inr (.inl zvv)))]) (SI rr) 0 0 (fun _ => False) := by
  refine Met.ofW (cc := cX4_at) (maxL := 3) (ret := some .int) (by decide) rfl ?_
  intro pg e s m args below meth c s₁ B hml hv
  obtain ⟨rfl, hP, hE⟩ := hv
  have hx := B.exec
  have hb := B.bytes
  have hr := B.returns
  have hlocks := B.notSynchronized
  have C0 : CallFix pg m c cX4_at 3 s ([.ref mo, .int q0, .int q1] : List Value).toArray wsX4_at RX4 := ⟨hx, hb, hml, findClass_of_methodNamed B.named, atoms_spec (ws := wsX4_at) B.pre⟩
  have hown := C0.2.2.2.1
  have hts := C0.2.2.2.2
  have hl := lv_entry ([.ref mo, .int q0, .int q1]) (n := 3) (Nat.le_of_ble_eq_true rfl)
  rw [lg_entry_eq]
  generalize (lg_sl ([.ref mo, .int q0, .int q1]) ++ List.replicate (3 - (lg_sl ([.ref mo, .int q0, .int q1])).length) Slot.unset).toArray = ls at hl ⊢
  have hl : lv_has ls 3 [(0, .ref mo), (1, .int q0), (2, .int q1)] := hl
  unfold fX4_at at h
  refine lv_aload_n hx hb dX4_at_0 rfl (lv_at hl 0 rfl) ?_
  refine va_get (D := D) (ci := 4) (v := .long zp) (C := RX4) (T := TX4) (N := 14) hx hb hts iwX4_at_4 hown hE.1 hP 0 rfl rfl 0 (by decide) (hts _ lkX4_at_0) (fun _ h9 => h9) rfl dX4_at_1 ?_
  refine lv_lconst (v := 0) hx hb dX4_at_4 (by decide) ?_
  refine lc_ne (tgt := 12) hx hb dX4_at_5 dX4_at_6 (by decide) (fun c1 => ?_) (fun c1 => ?_)
  · have h := ite_f c1 h
    refine lv_iload_n hx hb dX4_at_12 rfl (lv_at hl 1 rfl) ?_
    obtain ⟨r2, h3, h⟩ := bind_s h
    refine ki (kS (As := [.int q0]) (rest := []) C0 (kX4_isSlot l D cJ cZ q0 r2 h3) gX4_at_X4_isSlot rfl ⟨rfl, rfl⟩ hdX4_isSlot ⟨Nat.le_of_ble_eq_true rfl, Nat.le_of_ble_eq_true rfl⟩ (hP.sub [] rfl) hE hl rfl rfl (Nat.le_of_ble_eq_true rfl) dX4_at_13 (Nat.zero_le _) (Nat.zero_le _)) ?_
    refine lv_if_eq (tgt := 29) hx hb dX4_at_16 (by decide) (fun c4 => ?_) (fun c4 => ?_)
    · have h := ite_t c4 h
      refine lv_bipush (v := (-2)) hx hb dX4_at_29 (by decide) ?_
      exact reI hx hb hr hlocks h dX4_at_31
    · have h := ite_f c4 h
      refine lv_iload_n hx hb dX4_at_19 rfl (lv_at hl 2 rfl) ?_
      refine lv_i2l (v := q1.toInt64) hx hb dX4_at_20 rfl ?_
      refine lv_lconst (v := 0) hx hb dX4_at_21 (by decide) ?_
      refine lv_lconst (v := 1) hx hb dX4_at_22 (by decide) ?_
      obtain ⟨r5, h6, h⟩ := bind_s h
      refine ki (kS (As := [.long q1.toInt64, .long 0, .long 1]) (rest := []) C0 (kX4_in l D cJ cZ q1.toInt64 0 1 r5 h6) gX4_at_X4_in rfl ⟨rfl, rfl⟩ hdX4_in ⟨Nat.le_of_ble_eq_true rfl, Nat.le_of_ble_eq_true rfl⟩ (hP.sub [] rfl) hE hl rfl rfl (Nat.le_of_ble_eq_true rfl) dX4_at_23 (Nat.zero_le _) (Nat.zero_le _)) ?_
      refine lv_if_ne (tgt := 32) hx hb dX4_at_26 (by decide) (fun c7 => ?_) (fun c7 => ?_)
      · have h := ite_f c7 h
        refine lv_aload_n hx hb dX4_at_32 rfl (lv_at hl 0 rfl) ?_
        refine va_get (D := D) (ci := 4) (v := .ref a3) (C := RX4) (T := TX4) (N := 14) hx hb hts iwX4_at_4 hown hE.1 hP 0 rfl rfl 5 (by decide) (hts _ lkX4_at_1) (fun _ h9 => h9) rfl dX4_at_33 ?_
        refine lv_iload_n hx hb dX4_at_36 rfl (lv_at hl 1 rfl) ?_
        obtain ⟨c8, h⟩ := ite_n h
        refine va_zald hx hb hE.1 hP 3 1 rfl rfl c8 dX4_at_37 ?_
        refine lv_if_ne (tgt := 45) hx hb dX4_at_38 (by decide) (fun c9 => ?_) (fun c9 => ?_)
        · have h := ite_f c9 h
          refine lv_iload_n hx hb dX4_at_45 rfl (lv_at hl 2 rfl) ?_
          refine lv_if_ne (tgt := 58) hx hb dX4_at_46 (by decide) (fun c10 => ?_) (fun c10 => ?_)
          · have h := ite_f c10 h
            refine lv_aload_n hx hb dX4_at_58 rfl (lv_at hl 0 rfl) ?_
            refine va_get (D := D) (ci := 4) (v := .ref a2) (C := RX4) (T := TX4) (N := 14) hx hb hts iwX4_at_4 hown hE.1 hP 0 rfl rfl 4 (by decide) (hts _ lkX4_at_2) (fun _ h9 => h9) rfl dX4_at_59 ?_
            refine lv_iload_n hx hb dX4_at_62 rfl (lv_at hl 1 rfl) ?_
            refine va_lald hx hb hE.1 hP 2 0 rfl rfl c8 dX4_at_63 ?_
            refine lv_l2i (v := (zpy q0.toNatClampNeg).toInt32) hx hb dX4_at_64 rfl ?_
            exact reI hx hb hr hlocks h dX4_at_65
          · have h := ite_t c10 h
            refine lv_aload_n hx hb dX4_at_49 rfl (lv_at hl 0 rfl) ?_
            refine va_get (D := D) (ci := 4) (v := .ref a1) (C := RX4) (T := TX4) (N := 14) hx hb hts iwX4_at_4 hown hE.1 hP 0 rfl rfl 3 (by decide) (hts _ lkX4_at_3) (fun _ h9 => h9) rfl dX4_at_50 ?_
            refine lv_iload_n hx hb dX4_at_53 rfl (lv_at hl 1 rfl) ?_
            refine va_lald hx hb hE.1 hP 1 0 rfl rfl c8 dX4_at_54 ?_
            refine lv_goto (tgt := 64) hx hb dX4_at_55 (by decide) ?_
            refine lv_l2i (v := (zpx q0.toNatClampNeg).toInt32) hx hb dX4_at_64 rfl ?_
            exact reI hx hb hr hlocks h dX4_at_65
        · have h := ite_t c9 h
          refine lv_iconst (v := (-1)) hx hb dX4_at_41 (by decide) ?_
          refine lv_goto (tgt := 65) hx hb dX4_at_42 (by decide) ?_
          exact reI hx hb hr hlocks h dX4_at_65
      · have h := ite_t c7 h
        refine lv_bipush (v := (-2)) hx hb dX4_at_29 (by decide) ?_
        exact reI hx hb hr hlocks h dX4_at_31
  · have h := ite_t c1 h
    refine lv_bipush (v := (-3)) hx hb dX4_at_9 (by decide) ?_
    exact reI hx hb hr hlocks h dX4_at_11
def fX4_order_64 (N : Nat) (zp : Int64) (zpx : Nat → Int64) (zpy : Nat → Int64) (zip : Nat → Bool) (l1 : Int32) (l6 : Int64) (l8 : Int64) : Nat → Int64 → Int64 → Int64 → Int64 → Bool → Option (Int64 × Int64 × Int64 × Int64 × Bool)
  | 0, _, _, _, _, _ => none
  | n + 1, l2, l4, zx, zy, zi =>
    if l8 = 0 then none else
    if (jrem l4 l8) = 0 then
      bnd (l4 / l8) fun w10 =>
      (fX4_load zx zy zi zpx zpy zip l1).bind fun (o11, o12, o13) =>
      (fX4_take N zp o11 o12 o13 (l2 / l8)).bind fun (o15, o16, o17) =>
      if (bI o17) = 0 then
        bnd (l2 / l8) fun w20 =>
        fX4_order_64 N zp zpx zpy zip l1 l6 l8 n w20 w10 o15 o16 o17
      else
        fX4_order_64 N zp zpx zpy zip l1 l6 l8 n l2 w10 o15 o16 o17
    else
      some (l2, l4, zx, zy, zi)
def fX4_order_37 (N : Nat) (zp : Int64) (zpx : Nat → Int64) (zpy : Nat → Int64) (zip : Nat → Bool) (l1 : Int32) : Nat → Int64 → Int64 → Int64 → Int64 → Int64 → Bool → Option (Int32 × Int64 × Int64 × Bool)
  | 0, _, _, _, _, _, _ => none
  | n + 1, l2, l4, l6, zx, zy, zi =>
    if l4 ≤ 1 then
      some (l2.toInt32, zx, zy, zi)
    else
      if (l6 * l6) ≤ l4 then
        (fX4_order_64 N zp zpx zpy zip l1 l6 l6 N l2 l4 zx zy zi).bind fun (x21, x22, x23, x24, x25) =>
        bnd (l6 + 1) fun w27 =>
        fX4_order_37 N zp zpx zpy zip l1 n x21 x22 w27 x23 x24 x25
      else
        (fX4_order_64 N zp zpx zpy zip l1 l6 l4 N l2 l4 zx zy zi).bind fun (x28, x29, x30, x31, x32) =>
        bnd (l6 + 1) fun w34 =>
        fX4_order_37 N zp zpx zpy zip l1 n x28 x29 w34 x30 x31 x32
def fX4_order (N : Nat) (zp : Int64) (zx : Int64) (zy : Int64) (zi : Bool) (zpx : Nat → Int64) (zpy : Nat → Int64) (zip : Nat → Bool) (q0 : Int32) : Option (Int32 × Int64 × Int64 × Bool) :=
  if zp = 0 then
    some ((-3), zx, zy, zi)
  else
    (fX4_isSlot q0).bind fun r2 =>
    if (bI r2) = 0 then
      some ((-2), zx, zy, zi)
    else
      bnd (zp + 1) fun w5 =>
      fX4_order_37 N zp zpx zpy zip q0 N w5 w5 2 zx zy zi
abbrev rmX4_order : Room := { frames := 6, cells := 0, slots := 0, locals := 161 }
theorem lkX4_order_0 : (.fieldLink RX4 28 "PairingDeskModel" "p" "J" : Cond) ∈ wsX4_order := by decide +kernel
theorem lkX4_order_1 : (.constantLong RX4 26 (2) : Cond) ∈ wsX4_order := by decide +kernel
theorem lkX4_order_2 : (.fieldLink RX4 67 "PairingDeskModel" "is" "Z" : Cond) ∈ wsX4_order := by decide +kernel
theorem iwX4_order_4 : ∀ w ∈ wsX40, w ∈ wsX4_order := by decide +kernel
theorem hdX4_order : KN yX4_order 1 := by decide +kernel
set_option maxHeartbeats 4000000 in
set_option maxRecDepth 100000 in
theorem kX4_order (l : Launch) (D : va_G) (cJ cZ : ClassId) (mo a1 a2 a3 a4 a5 : Nat) (N : Nat) (zp : Int64) (zr : Int64) (zh : Int64) (zx : Int64) (zy : Int64) (zi : Bool) (zu : Int64) (zv : Int64) (zl : Int32) (zpx : Nat → Int64) (zpy : Nat → Int64) (zip : Nat → Bool) (zvu : Nat → Int64) (zvv : Nat → Int64) (q0 : Int32) (sz : Nat) (rr : Int32) (ozx : Int64) (ozy : Int64) (ozi : Bool) (h : fX4_order N zp zx zy zi zpx zpy zip q0 = some (rr, ozx, ozy, ozi)) : Met l yX4_order wsX4_order rmX4_order (PE D cJ cZ [.ref mo, .int q0] [(mo, .inr (4, [.long zp, .long zr, .long zh, .ref a1, .ref a2, .ref a3, .ref a4, .ref a5, .long zx, .long zy, .int (bI zi), .long zu, .long zv, .int zl])), (a1, .inl (cJ, 16, .inr (.inl zpx))), (a2, .inl (cJ, 16, .inr (.inl zpy))), (a3, .inl (cZ, 16, .inl (fun i => bI (zip i)))), (a4, .inl (cJ, 8, .inr (.inl zvu))), (a5, .inl (cJ, 8, .inr (.inl zvv)))] sz) (QE D (some (.int rr)) [(mo, .inr (4, [.long zp, .long zr, .long zh, .ref a1, .ref a2, .ref a3, .ref a4, .ref a5, .long ozx, .long ozy, .int (bI ozi), .long zu, .long zv, .int zl])), (a1, .inl (cJ, 16, .inr (.inl zpx))), (a2, .inl (cJ, 16, .inr (.inl zpy))), (a3, .inl (cZ, 16, .inl (fun i => bI (zip i)))), (a4, .inl (cJ, 8, .inr (.inl zvu))), (a5, .inl (cJ, 8, .inr (.inl zvv)))] (va_A [(mo, .inr (4, [.long zp, .long zr, .long zh, .ref a1, .ref a2, .ref a3, .ref a4, .ref a5, .long zx, .long zy, .int (bI zi), .long zu, .long zv, .int zl])), (a1, .inl (cJ, 16, .inr (.inl zpx))), (a2, .inl (cJ, 16, .inr (.inl zpy))), (a3, .inl (cZ, 16, .inl (fun i => bI (zip i)))), (a4, .inl (cJ, 8, .inr (.inl zvu))), (a5, .inl (cJ, 8, .inr (.inl zvv)))] sz)) 0 0 (va_A [(mo, .inr (4, [.long zp, .long zr, .long zh, .ref a1, .ref a2, .ref a3, .ref a4, .ref a5, .long zx, .long zy, .int (bI zi), .long zu, .long zv, .int zl])), (a1, .inl (cJ, 16, .inr (.inl zpx))), (a2, .inl (cJ, 16, .inr (.inl zpy))), (a3, .inl (cZ, 16, .inl (fun i => bI (zip i)))), (a4, .inl (cJ, 8, .inr (.inl zvu))), (a5, .inl (cJ, 8, .inr (.inl zvv)))] sz) := by
  refine Met.ofW (cc := cX4_order) (maxL := 10) (ret := some .int) (by decide) rfl ?_
  intro pg e s m args below meth c s₁ B hml hv
  obtain ⟨rfl, hsz, hP, hE, hD0⟩ := hv
  have hx := B.exec
  have hb := B.bytes
  have hr := B.returns
  have hlocks := B.notSynchronized
  have C0 : CallFix pg m c cX4_order 10 s ([.ref mo, .int q0] : List Value).toArray wsX4_order RX4 := ⟨hx, hb, hml, findClass_of_methodNamed B.named, atoms_spec (ws := wsX4_order) B.pre⟩
  have hown := C0.2.2.2.1
  have hts := C0.2.2.2.2
  subst hsz
  have hD := hD0.self (sz := s.heap.size)
  generalize hAe : va_A [(mo, .inr (4, [.long zp, .long zr, .long zh, .ref a1, .ref a2, .ref a3, .ref a4, .ref a5, .long zx, .long zy, .int (bI zi), .long zu, .long zv, .int zl])), (a1, .inl (cJ, 16, .inr (.inl zpx))), (a2, .inl (cJ, 16, .inr (.inl zpy))), (a3, .inl (cZ, 16, .inl (fun i => bI (zip i)))), (a4, .inl (cJ, 8, .inr (.inl zvu))), (a5, .inl (cJ, 8, .inr (.inl zvv)))] s.heap.size = A at hD ⊢
  have hA : ∀ q : Nat, s.heap.size ≤ q → A q := fun q h => by rw [← hAe]; exact Or.inr h
  have hS : va_S A s.heap s.heap [] := va_S.rf
  have hP : va_P D vwCl [(mo, .inr (4, [.long zp, .long zr, .long zh, .ref a1, .ref a2, .ref a3, .ref a4, .ref a5, .long zx, .long zy, .int (bI zi), .long zu, .long zv, .int zl])), (a1, .inl (cJ, 16, .inr (.inl zpx))), (a2, .inl (cJ, 16, .inr (.inl zpy))), (a3, .inl (cZ, 16, .inl (fun i => bI (zip i)))), (a4, .inl (cJ, 8, .inr (.inl zvu))), (a5, .inl (cJ, 8, .inr (.inl zvv)))] s.heap := hP
  have hl := lv_entry ([.ref mo, .int q0]) (n := 10) (Nat.le_of_ble_eq_true rfl)
  rw [lg_entry_eq]
  generalize (lg_sl ([.ref mo, .int q0]) ++ List.replicate (10 - (lg_sl ([.ref mo, .int q0])).length) Slot.unset).toArray = ls at hl ⊢
  have hl : lv_has ls 10 [(0, .ref mo), (1, .int q0)] := hl
  have loop64 : ∀ (l1 : Int32) (l6 : Int64) (l8 : Int64), ∀ (n : Nat) (l2 : Int64) (l4 : Int64) (zx : Int64) (zy : Int64) (zi : Bool) (u : Int64 × Int64 × Int64 × Int64 × Bool), fX4_order_64 N zp zpx zpy zip l1 l6 l8 n l2 l4 zx zy zi = some u → ∀ (H : Heap) (locs : List Loc), va_P D vwCl [(mo, .inr (4, [.long zp, .long zr, .long zh, .ref a1, .ref a2, .ref a3, .ref a4, .ref a5, .long zx, .long zy, .int (bI zi), .long zu, .long zv, .int zl])), (a1, .inl (cJ, 16, .inr (.inl zpx))), (a2, .inl (cJ, 16, .inr (.inl zpy))), (a3, .inl (cZ, 16, .inl (fun i => bI (zip i)))), (a4, .inl (cJ, 8, .inr (.inl zvu))), (a5, .inl (cJ, 8, .inr (.inl zvv)))] H → va_D A [(mo, .inr (4, [.long zp, .long zr, .long zh, .ref a1, .ref a2, .ref a3, .ref a4, .ref a5, .long zx, .long zy, .int (bI zi), .long zu, .long zv, .int zl])), (a1, .inl (cJ, 16, .inr (.inl zpx))), (a2, .inl (cJ, 16, .inr (.inl zpy))), (a3, .inl (cZ, 16, .inl (fun i => bI (zip i)))), (a4, .inl (cJ, 8, .inr (.inl zvu))), (a5, .inl (cJ, 8, .inr (.inl zvv)))] → va_S A s.heap H locs → ∀ ls : Array Slot, lv_has ls 10 [(0, .ref mo), (1, .int l1), (2, .long l2), (4, .long l4), (6, .long l6), (8, .long l8)] → ( ∀ (H : Heap) (locs : List Loc), va_P D vwCl [(mo, .inr (4, [.long zp, .long zr, .long zh, .ref a1, .ref a2, .ref a3, .ref a4, .ref a5, .long u.2.2.1, .long u.2.2.2.1, .int (bI u.2.2.2.2), .long zu, .long zv, .int zl])), (a1, .inl (cJ, 16, .inr (.inl zpx))), (a2, .inl (cJ, 16, .inr (.inl zpy))), (a3, .inl (cZ, 16, .inl (fun i => bI (zip i)))), (a4, .inl (cJ, 8, .inr (.inl zvu))), (a5, .inl (cJ, 8, .inr (.inl zvv)))] H → va_D A [(mo, .inr (4, [.long zp, .long zr, .long zh, .ref a1, .ref a2, .ref a3, .ref a4, .ref a5, .long u.2.2.1, .long u.2.2.2.1, .int (bI u.2.2.2.2), .long zu, .long zv, .int zl])), (a1, .inl (cJ, 16, .inr (.inl zpx))), (a2, .inl (cJ, 16, .inr (.inl zpy))), (a3, .inl (cZ, 16, .inl (fun i => bI (zip i)))), (a4, .inl (cJ, 8, .inr (.inl zvu))), (a5, .inl (cJ, 8, .inr (.inl zvv)))] → va_S A s.heap H locs → ∀ ls : Array Slot, lv_has ls 10 [(0, .ref mo), (1, .int l1), (2, .long u.1), (4, .long u.2.1), (6, .long l6), (8, .long l8)] → W pg l e (headSpec wsX4_order rmX4_order).room s m ([.ref mo, .int q0] : List Value).toArray below meth c H locs 0 0 (MQ below (QE D (some (.int rr)) [(mo, .inr (4, [.long zp, .long zr, .long zh, .ref a1, .ref a2, .ref a3, .ref a4, .ref a5, .long ozx, .long ozy, .int (bI ozi), .long zu, .long zv, .int zl])), (a1, .inl (cJ, 16, .inr (.inl zpx))), (a2, .inl (cJ, 16, .inr (.inl zpy))), (a3, .inl (cZ, 16, .inl (fun i => bI (zip i)))), (a4, .inl (cJ, 8, .inr (.inl zvu))), (a5, .inl (cJ, 8, .inr (.inl zvv)))] A) ([.ref mo, .int q0] : List Value).toArray s 0 0 A) (F0 m 113 ls [])) → W pg l e (headSpec wsX4_order rmX4_order).room s m ([.ref mo, .int q0] : List Value).toArray below meth c H locs 0 0 (MQ below (QE D (some (.int rr)) [(mo, .inr (4, [.long zp, .long zr, .long zh, .ref a1, .ref a2, .ref a3, .ref a4, .ref a5, .long ozx, .long ozy, .int (bI ozi), .long zu, .long zv, .int zl])), (a1, .inl (cJ, 16, .inr (.inl zpx))), (a2, .inl (cJ, 16, .inr (.inl zpy))), (a3, .inl (cZ, 16, .inl (fun i => bI (zip i)))), (a4, .inl (cJ, 8, .inr (.inl zvu))), (a5, .inl (cJ, 8, .inr (.inl zvv)))] A) ([.ref mo, .int q0] : List Value).toArray s 0 0 A) (F0 m 64 ls []) := by
    intro l1 l6 l8
    intro n
    induction n with
    | zero =>
      intro l2 l4 zx zy zi u h
      cases h
    | succ n ih =>
      intro l2 l4 zx zy zi u h H locs hP hD hS ls hl kk
      rw [fX4_order_64] at h
      refine lv_lload hx hb dX4_order_64 (lv_at hl 3 rfl) ?_
      refine lv_lload hx hb dX4_order_66 (lv_at hl 5 rfl) ?_
      obtain ⟨c8, h⟩ := ite_n h
      refine lv_lremJ hx hb dX4_order_68 c8 ?_
      refine lv_lconst (v := 0) hx hb dX4_order_69 (by decide) ?_
      refine lc_ne (tgt := 113) hx hb dX4_order_70 dX4_order_71 (by decide) (fun c9 => ?_) (fun c9 => ?_)
      · have h := ite_f c9 h
        cases h
        exact kk H locs hP hD hS ls (lv_sub hl [0, 1, 2, 3, 4, 5] rfl)
      · have h := ite_t c9 h
        refine lv_lload hx hb dX4_order_74 (lv_at hl 3 rfl) ?_
        refine lv_lload hx hb dX4_order_76 (lv_at hl 5 rfl) ?_
        refine lv_ldiv hx hb dX4_order_78 c8 ?_
        obtain ⟨w10, ew10, h⟩ := bnd_s h
        refine tl ew10.symm ?_
        refine lv_lstore (lv' := [(4, .long w10), (0, .ref mo), (1, .int l1), (2, .long l2), (6, .long l6), (8, .long l8)]) hx hb dX4_order_79 hl (by decide) rfl (fun ls hl => ?_)
        refine lv_aload_n hx hb dX4_order_81 rfl (lv_at hl 1 rfl) ?_
        refine lv_iload_n hx hb dX4_order_82 rfl (lv_at hl 2 rfl) ?_
        obtain ⟨⟨o11, o12, o13⟩, h14, h⟩ := bind_s h
        try dsimp only at h
        refine kE (wc := [(mo, .inr (4, [.long zp, .long zr, .long zh, .ref a1, .ref a2, .ref a3, .ref a4, .ref a5, .long zx, .long zy, .int (bI zi), .long zu, .long zv, .int zl])), (a1, .inl (cJ, 16, .inr (.inl zpx))), (a2, .inl (cJ, 16, .inr (.inl zpy))), (a3, .inl (cZ, 16, .inl (fun i => bI (zip i)))), (a4, .inl (cJ, 8, .inr (.inl zvu))), (a5, .inl (cJ, 8, .inr (.inl zvv)))]) (wr := []) [0, 1, 2, 3, 4, 5] [] hP hD hS hA rfl rfl rfl (by decide) rfl (eV (As := [.int l1]) (rest := []) C0 (kX4_load l D cJ cZ mo a1 a2 a3 a4 a5 zp zr zh zx zy zi zu zv zl zpx zpy zip zvu zvv l1 H.size o11 o12 o13 h14) gX4_order_X4_load rfl ⟨rfl, rfl⟩ hdX4_load ⟨Nat.le_of_ble_eq_true rfl, Nat.le_of_ble_eq_true rfl⟩ 4 0 rfl rfl rfl hP hD hE hl rfl rfl (Nat.le_of_ble_eq_true rfl) dX4_order_83 ⟨Nat.zero_le _, Nat.zero_le _⟩) (fun H locs hP hD hS => ?_)
        have hP : va_P D vwCl [(mo, .inr (4, [.long zp, .long zr, .long zh, .ref a1, .ref a2, .ref a3, .ref a4, .ref a5, .long o11, .long o12, .int (bI o13), .long zu, .long zv, .int zl])), (a1, .inl (cJ, 16, .inr (.inl zpx))), (a2, .inl (cJ, 16, .inr (.inl zpy))), (a3, .inl (cZ, 16, .inl (fun i => bI (zip i)))), (a4, .inl (cJ, 8, .inr (.inl zvu))), (a5, .inl (cJ, 8, .inr (.inl zvv)))] H := hP
        have hD : va_D A [(mo, .inr (4, [.long zp, .long zr, .long zh, .ref a1, .ref a2, .ref a3, .ref a4, .ref a5, .long o11, .long o12, .int (bI o13), .long zu, .long zv, .int zl])), (a1, .inl (cJ, 16, .inr (.inl zpx))), (a2, .inl (cJ, 16, .inr (.inl zpy))), (a3, .inl (cZ, 16, .inl (fun i => bI (zip i)))), (a4, .inl (cJ, 8, .inr (.inl zvu))), (a5, .inl (cJ, 8, .inr (.inl zvv)))] := hD
        refine lv_aload_n hx hb dX4_order_86 rfl (lv_at hl 1 rfl) ?_
        refine lv_lload_n hx hb dX4_order_87 rfl (lv_at hl 3 rfl) ?_
        refine lv_lload hx hb dX4_order_88 (lv_at hl 5 rfl) ?_
        refine lv_ldiv hx hb dX4_order_90 c8 ?_
        obtain ⟨⟨o15, o16, o17⟩, h18, h⟩ := bind_s h
        try dsimp only at h
        refine kE (wc := [(mo, .inr (4, [.long zp, .long zr, .long zh, .ref a1, .ref a2, .ref a3, .ref a4, .ref a5, .long o11, .long o12, .int (bI o13), .long zu, .long zv, .int zl])), (a1, .inl (cJ, 16, .inr (.inl zpx))), (a2, .inl (cJ, 16, .inr (.inl zpy))), (a3, .inl (cZ, 16, .inl (fun i => bI (zip i)))), (a4, .inl (cJ, 8, .inr (.inl zvu))), (a5, .inl (cJ, 8, .inr (.inl zvv)))]) (wr := []) [0, 1, 2, 3, 4, 5] [] hP hD hS hA rfl rfl rfl (by decide) rfl (eV (As := [.long (l2 / l8)]) (rest := []) C0 (kX4_take l D cJ cZ mo a1 a2 a3 a4 a5 N zp zr zh o11 o12 o13 zu zv zl zpx zpy zip zvu zvv (l2 / l8) H.size o15 o16 o17 h18) gX4_order_X4_take rfl ⟨rfl, rfl⟩ hdX4_take ⟨Nat.le_of_ble_eq_true rfl, Nat.le_of_ble_eq_true rfl⟩ 4 0 rfl rfl rfl hP hD hE hl rfl rfl (Nat.le_of_ble_eq_true rfl) dX4_order_91 ⟨Nat.zero_le _, Nat.zero_le _⟩) (fun H locs hP hD hS => ?_)
        have hP : va_P D vwCl [(mo, .inr (4, [.long zp, .long zr, .long zh, .ref a1, .ref a2, .ref a3, .ref a4, .ref a5, .long o15, .long o16, .int (bI o17), .long zu, .long zv, .int zl])), (a1, .inl (cJ, 16, .inr (.inl zpx))), (a2, .inl (cJ, 16, .inr (.inl zpy))), (a3, .inl (cZ, 16, .inl (fun i => bI (zip i)))), (a4, .inl (cJ, 8, .inr (.inl zvu))), (a5, .inl (cJ, 8, .inr (.inl zvv)))] H := hP
        have hD : va_D A [(mo, .inr (4, [.long zp, .long zr, .long zh, .ref a1, .ref a2, .ref a3, .ref a4, .ref a5, .long o15, .long o16, .int (bI o17), .long zu, .long zv, .int zl])), (a1, .inl (cJ, 16, .inr (.inl zpx))), (a2, .inl (cJ, 16, .inr (.inl zpy))), (a3, .inl (cZ, 16, .inl (fun i => bI (zip i)))), (a4, .inl (cJ, 8, .inr (.inl zvu))), (a5, .inl (cJ, 8, .inr (.inl zvv)))] := hD
        refine lv_aload_n hx hb dX4_order_94 rfl (lv_at hl 1 rfl) ?_
        refine va_get (D := D) (ci := 4) (v := .int (bI o17)) (C := RX4) (T := TX4) (N := 14) hx hb hts iwX4_order_4 hown hE.1 hP 0 rfl rfl 10 (by decide) (hts _ lkX4_order_2) (fun _ h9 => h9) rfl dX4_order_95 ?_
        refine lv_if_eq (tgt := 105) hx hb dX4_order_98 (by decide) (fun c19 => ?_) (fun c19 => ?_)
        · have h := ite_t c19 h
          refine lv_lload_n hx hb dX4_order_105 rfl (lv_at hl 3 rfl) ?_
          refine lv_lload hx hb dX4_order_106 (lv_at hl 5 rfl) ?_
          refine lv_ldiv hx hb dX4_order_108 c8 ?_
          obtain ⟨w20, ew20, h⟩ := bnd_s h
          refine tl ew20.symm ?_
          refine lv_lstore_n (lv' := [(2, .long w20), (4, .long w10), (0, .ref mo), (1, .int l1), (6, .long l6), (8, .long l8)]) hx hb dX4_order_109 rfl hl (by decide) rfl (fun ls hl => ?_)
          refine lv_goto (tgt := 64) hx hb dX4_order_110 (by decide) ?_
          exact ih w20 w10 o15 o16 o17 u h H locs hP hD hS ls (lv_sub hl [2, 3, 0, 1, 4, 5] rfl) kk
        · have h := ite_f c19 h
          refine lv_lload_n hx hb dX4_order_101 rfl (lv_at hl 3 rfl) ?_
          refine lv_goto (tgt := 109) hx hb dX4_order_102 (by decide) ?_
          refine lv_lstore_n (lv' := [(2, .long l2), (4, .long w10), (0, .ref mo), (1, .int l1), (6, .long l6), (8, .long l8)]) hx hb dX4_order_109 rfl hl (by decide) rfl (fun ls hl => ?_)
          refine lv_goto (tgt := 64) hx hb dX4_order_110 (by decide) ?_
          exact ih l2 w10 o15 o16 o17 u h H locs hP hD hS ls (lv_sub hl [2, 3, 0, 1, 4, 5] rfl) kk
  have loop37 : ∀ (l1 : Int32), ∀ (n : Nat) (l2 : Int64) (l4 : Int64) (l6 : Int64) (zx : Int64) (zy : Int64) (zi : Bool), fX4_order_37 N zp zpx zpy zip l1 n l2 l4 l6 zx zy zi = some (rr, ozx, ozy, ozi) → ∀ (H : Heap) (locs : List Loc), va_P D vwCl [(mo, .inr (4, [.long zp, .long zr, .long zh, .ref a1, .ref a2, .ref a3, .ref a4, .ref a5, .long zx, .long zy, .int (bI zi), .long zu, .long zv, .int zl])), (a1, .inl (cJ, 16, .inr (.inl zpx))), (a2, .inl (cJ, 16, .inr (.inl zpy))), (a3, .inl (cZ, 16, .inl (fun i => bI (zip i)))), (a4, .inl (cJ, 8, .inr (.inl zvu))), (a5, .inl (cJ, 8, .inr (.inl zvv)))] H → va_D A [(mo, .inr (4, [.long zp, .long zr, .long zh, .ref a1, .ref a2, .ref a3, .ref a4, .ref a5, .long zx, .long zy, .int (bI zi), .long zu, .long zv, .int zl])), (a1, .inl (cJ, 16, .inr (.inl zpx))), (a2, .inl (cJ, 16, .inr (.inl zpy))), (a3, .inl (cZ, 16, .inl (fun i => bI (zip i)))), (a4, .inl (cJ, 8, .inr (.inl zvu))), (a5, .inl (cJ, 8, .inr (.inl zvv)))] → va_S A s.heap H locs → ∀ ls : Array Slot, lv_has ls 10 [(0, .ref mo), (1, .int l1), (2, .long l2), (4, .long l4), (6, .long l6)] → W pg l e (headSpec wsX4_order rmX4_order).room s m ([.ref mo, .int q0] : List Value).toArray below meth c H locs 0 0 (MQ below (QE D (some (.int rr)) [(mo, .inr (4, [.long zp, .long zr, .long zh, .ref a1, .ref a2, .ref a3, .ref a4, .ref a5, .long ozx, .long ozy, .int (bI ozi), .long zu, .long zv, .int zl])), (a1, .inl (cJ, 16, .inr (.inl zpx))), (a2, .inl (cJ, 16, .inr (.inl zpy))), (a3, .inl (cZ, 16, .inl (fun i => bI (zip i)))), (a4, .inl (cJ, 8, .inr (.inl zvu))), (a5, .inl (cJ, 8, .inr (.inl zvv)))] A) ([.ref mo, .int q0] : List Value).toArray s 0 0 A) (F0 m 37 ls []) := by
    intro l1
    intro n
    induction n with
    | zero =>
      intro l2 l4 l6 zx zy zi h
      cases h
    | succ n ih =>
      intro l2 l4 l6 zx zy zi h H locs hP hD hS ls hl
      rw [fX4_order_37] at h
      refine lv_lload hx hb dX4_order_37 (lv_at hl 3 rfl) ?_
      refine lv_lconst (v := 1) hx hb dX4_order_39 (by decide) ?_
      refine lc_le (tgt := 122) hx hb dX4_order_40 dX4_order_41 (by decide) (fun c6 => ?_) (fun c6 => ?_)
      · have h := ite_t c6 h
        refine lv_lload_n hx hb dX4_order_122 rfl (lv_at hl 2 rfl) ?_
        refine lv_l2i (v := l2.toInt32) hx hb dX4_order_123 rfl ?_
        cases h
        exact rfI hx hb hr hlocks hP hD hS dX4_order_124
      · have h := ite_f c6 h
        refine lv_lload hx hb dX4_order_44 (lv_at hl 4 rfl) ?_
        refine lv_lload hx hb dX4_order_46 (lv_at hl 4 rfl) ?_
        refine lv_lmul hx hb dX4_order_48 ?_
        refine lv_lload hx hb dX4_order_49 (lv_at hl 3 rfl) ?_
        refine lc_le (tgt := 60) hx hb dX4_order_51 dX4_order_52 (by decide) (fun c7 => ?_) (fun c7 => ?_)
        · have h := ite_t c7 h
          refine lv_lload hx hb dX4_order_60 (lv_at hl 4 rfl) ?_
          refine lv_lstore (lv' := [(8, .long l6), (0, .ref mo), (1, .int l1), (2, .long l2), (4, .long l4), (6, .long l6)]) hx hb dX4_order_62 hl (by decide) rfl (fun ls hl => ?_)
          obtain ⟨⟨x21, x22, x23, x24, x25⟩, h26, h⟩ := bind_s h
          try dsimp only at h
          refine loop64 l1 l6 l6 N l2 l4 zx zy zi _ h26 H locs hP hD hS ls (lv_sub hl [1, 2, 3, 4, 5, 0] rfl) (fun H locs hP hD hS ls hl => ?_)
          refine lv_lload hx hb dX4_order_113 (lv_at hl 4 rfl) ?_
          refine lv_lconst (v := 1) hx hb dX4_order_115 (by decide) ?_
          refine lv_ladd hx hb dX4_order_116 ?_
          obtain ⟨w27, ew27, h⟩ := bnd_s h
          refine tl ew27.symm ?_
          refine lv_lstore (lv' := [(6, .long w27), (0, .ref mo), (1, .int l1), (2, .long x21), (4, .long x22), (8, .long l6)]) hx hb dX4_order_117 hl (by decide) rfl (fun ls hl => ?_)
          refine lv_goto (tgt := 37) hx hb dX4_order_119 (by decide) ?_
          exact ih x21 x22 w27 x23 x24 x25 h H locs hP hD hS ls (lv_sub hl [1, 2, 3, 4, 0] rfl)
        · have h := ite_f c7 h
          refine lv_lload hx hb dX4_order_55 (lv_at hl 3 rfl) ?_
          refine lv_goto (tgt := 62) hx hb dX4_order_57 (by decide) ?_
          refine lv_lstore (lv' := [(8, .long l4), (0, .ref mo), (1, .int l1), (2, .long l2), (4, .long l4), (6, .long l6)]) hx hb dX4_order_62 hl (by decide) rfl (fun ls hl => ?_)
          obtain ⟨⟨x28, x29, x30, x31, x32⟩, h33, h⟩ := bind_s h
          try dsimp only at h
          refine loop64 l1 l6 l4 N l2 l4 zx zy zi _ h33 H locs hP hD hS ls (lv_sub hl [1, 2, 3, 4, 5, 0] rfl) (fun H locs hP hD hS ls hl => ?_)
          refine lv_lload hx hb dX4_order_113 (lv_at hl 4 rfl) ?_
          refine lv_lconst (v := 1) hx hb dX4_order_115 (by decide) ?_
          refine lv_ladd hx hb dX4_order_116 ?_
          obtain ⟨w34, ew34, h⟩ := bnd_s h
          refine tl ew34.symm ?_
          refine lv_lstore (lv' := [(6, .long w34), (0, .ref mo), (1, .int l1), (2, .long x28), (4, .long x29), (8, .long l4)]) hx hb dX4_order_117 hl (by decide) rfl (fun ls hl => ?_)
          refine lv_goto (tgt := 37) hx hb dX4_order_119 (by decide) ?_
          exact ih x28 x29 w34 x30 x31 x32 h H locs hP hD hS ls (lv_sub hl [1, 2, 3, 4, 0] rfl)
  suffices key : ∀ (H : Heap) (locs : List Loc), va_P D vwCl [(mo, .inr (4, [.long zp, .long zr, .long zh, .ref a1, .ref a2, .ref a3, .ref a4, .ref a5, .long zx, .long zy, .int (bI zi), .long zu, .long zv, .int zl])), (a1, .inl (cJ, 16, .inr (.inl zpx))), (a2, .inl (cJ, 16, .inr (.inl zpy))), (a3, .inl (cZ, 16, .inl (fun i => bI (zip i)))), (a4, .inl (cJ, 8, .inr (.inl zvu))), (a5, .inl (cJ, 8, .inr (.inl zvv)))] H → va_D A [(mo, .inr (4, [.long zp, .long zr, .long zh, .ref a1, .ref a2, .ref a3, .ref a4, .ref a5, .long zx, .long zy, .int (bI zi), .long zu, .long zv, .int zl])), (a1, .inl (cJ, 16, .inr (.inl zpx))), (a2, .inl (cJ, 16, .inr (.inl zpy))), (a3, .inl (cZ, 16, .inl (fun i => bI (zip i)))), (a4, .inl (cJ, 8, .inr (.inl zvu))), (a5, .inl (cJ, 8, .inr (.inl zvv)))] → va_S A s.heap H locs → W pg l e (headSpec wsX4_order rmX4_order).room s m ([.ref mo, .int q0] : List Value).toArray below meth c H locs 0 0 (MQ below (QE D (some (.int rr)) [(mo, .inr (4, [.long zp, .long zr, .long zh, .ref a1, .ref a2, .ref a3, .ref a4, .ref a5, .long ozx, .long ozy, .int (bI ozi), .long zu, .long zv, .int zl])), (a1, .inl (cJ, 16, .inr (.inl zpx))), (a2, .inl (cJ, 16, .inr (.inl zpy))), (a3, .inl (cZ, 16, .inl (fun i => bI (zip i)))), (a4, .inl (cJ, 8, .inr (.inl zvu))), (a5, .inl (cJ, 8, .inr (.inl zvv)))] A) ([.ref mo, .int q0] : List Value).toArray s 0 0 A) (F0 m 0 ls []) from key s.heap [] hP hD hS
  intro H locs hP hD hS
  unfold fX4_order at h
  refine lv_aload_n hx hb dX4_order_0 rfl (lv_at hl 0 rfl) ?_
  refine va_get (D := D) (ci := 4) (v := .long zp) (C := RX4) (T := TX4) (N := 14) hx hb hts iwX4_order_4 hown hE.1 hP 0 rfl rfl 0 (by decide) (hts _ lkX4_order_0) (fun _ h9 => h9) rfl dX4_order_1 ?_
  refine lv_lconst (v := 0) hx hb dX4_order_4 (by decide) ?_
  refine lc_ne (tgt := 12) hx hb dX4_order_5 dX4_order_6 (by decide) (fun c1 => ?_) (fun c1 => ?_)
  · have h := ite_f c1 h
    refine lv_iload_n hx hb dX4_order_12 rfl (lv_at hl 1 rfl) ?_
    obtain ⟨r2, h3, h⟩ := bind_s h
    refine ki (kS (As := [.int q0]) (rest := []) C0 (kX4_isSlot l D cJ cZ q0 r2 h3) gX4_order_X4_isSlot rfl ⟨rfl, rfl⟩ hdX4_isSlot ⟨Nat.le_of_ble_eq_true rfl, Nat.le_of_ble_eq_true rfl⟩ (hP.sub [] rfl) hE hl rfl rfl (Nat.le_of_ble_eq_true rfl) dX4_order_13 (Nat.zero_le _) (Nat.zero_le _)) ?_
    refine lv_if_ne (tgt := 22) hx hb dX4_order_16 (by decide) (fun c4 => ?_) (fun c4 => ?_)
    · have h := ite_f c4 h
      refine lv_aload_n hx hb dX4_order_22 rfl (lv_at hl 0 rfl) ?_
      refine va_get (D := D) (ci := 4) (v := .long zp) (C := RX4) (T := TX4) (N := 14) hx hb hts iwX4_order_4 hown hE.1 hP 0 rfl rfl 0 (by decide) (hts _ lkX4_order_0) (fun _ h9 => h9) rfl dX4_order_23 ?_
      refine lv_lconst (v := 1) hx hb dX4_order_26 (by decide) ?_
      refine lv_ladd hx hb dX4_order_27 ?_
      obtain ⟨w5, ew5, h⟩ := bnd_s h
      refine tl ew5.symm ?_
      refine lv_lstore_n (lv' := [(2, .long w5), (0, .ref mo), (1, .int q0)]) hx hb dX4_order_28 rfl hl (by decide) rfl (fun ls hl => ?_)
      refine lv_lload_n hx hb dX4_order_29 rfl (lv_at hl 0 rfl) ?_
      refine lv_lstore (lv' := [(4, .long w5), (2, .long w5), (0, .ref mo), (1, .int q0)]) hx hb dX4_order_30 hl (by decide) rfl (fun ls hl => ?_)
      refine lv_ldc2 (v := 2) hx hb hown (hts _ lkX4_order_1) dX4_order_32 ?_
      refine lv_lstore (lv' := [(6, .long 2), (4, .long w5), (2, .long w5), (0, .ref mo), (1, .int q0)]) hx hb dX4_order_35 hl (by decide) rfl (fun ls hl => ?_)
      exact loop37 q0 N w5 w5 2 zx zy zi h H locs hP hD hS ls (lv_sub hl [3, 4, 2, 1, 0] rfl)
    · have h := ite_t c4 h
      refine lv_bipush (v := (-2)) hx hb dX4_order_19 (by decide) ?_
      cases h
      exact rfI hx hb hr hlocks hP hD hS dX4_order_21
  · have h := ite_t c1 h
    refine lv_bipush (v := (-3)) hx hb dX4_order_9 (by decide) ?_
    cases h
    exact rfI hx hb hr hlocks hP hD hS dX4_order_11
def fX4_written  (zpx : Nat → Int64) (zpy : Nat → Int64) (zip : Nat → Bool) (q0 : Int32) : Option (Int64) :=
  if q0 < 0 ∨ 16 ≤ q0.toNatClampNeg then none else
  if (bI (zip q0.toNatClampNeg)) = 0 then
    some (-1)
  else
    some ((2 * (zpx q0.toNatClampNeg)) + ((zpy q0.toNatClampNeg) &&& 1))
abbrev rmX4_written : Room := { frames := 0, cells := 0, slots := 0, locals := 0 }
theorem lkX4_written_0 : (.fieldLink RX4 16 "PairingDeskModel" "isPoint" "[Z" : Cond) ∈ wsX4_written := by decide +kernel
theorem lkX4_written_1 : (.constantLong RX4 42 (-1) : Cond) ∈ wsX4_written := by decide +kernel
theorem lkX4_written_2 : (.constantLong RX4 26 (2) : Cond) ∈ wsX4_written := by decide +kernel
theorem lkX4_written_3 : (.fieldLink RX4 7 "PairingDeskModel" "px" "[J" : Cond) ∈ wsX4_written := by decide +kernel
theorem lkX4_written_4 : (.fieldLink RX4 13 "PairingDeskModel" "py" "[J" : Cond) ∈ wsX4_written := by decide +kernel
theorem iwX4_written_4 : ∀ w ∈ wsX40, w ∈ wsX4_written := by decide +kernel
theorem hdX4_written : KN yX4_written 1 := by decide +kernel
set_option maxHeartbeats 4000000 in
set_option maxRecDepth 100000 in
theorem kX4_written (l : Launch) (D : va_G) (cJ cZ : ClassId) (mo a1 a2 a3 a4 a5 : Nat) (zp : Int64) (zr : Int64) (zh : Int64) (zx : Int64) (zy : Int64) (zi : Bool) (zu : Int64) (zv : Int64) (zl : Int32) (zpx : Nat → Int64) (zpy : Nat → Int64) (zip : Nat → Bool) (zvu : Nat → Int64) (zvv : Nat → Int64) (q0 : Int32) (rr : Int64) (h : fX4_written zpx zpy zip q0 = some rr) : Met l yX4_written wsX4_written rmX4_written (PP D cJ cZ [.ref mo, .int q0] [(mo, .inr (4, [.long zp, .long zr, .long zh, .ref a1, .ref a2, .ref a3, .ref a4, .ref a5, .long zx, .long zy, .int (bI zi), .long zu, .long zv, .int zl])), (a1, .inl (cJ, 16, .inr (.inl zpx))), (a2, .inl (cJ, 16, .inr (.inl zpy))), (a3, .inl (cZ, 16, .inl (fun i => bI (zip i)))), (a4, .inl (cJ, 8, .inr (.inl zvu))), (a5, .inl (cJ, 8, .inr (.inl zvv)))]) (SL rr) 0 0 (fun _ => False) := by
  refine Met.ofW (cc := cX4_written) (maxL := 2) (ret := some .long) (by decide) rfl ?_
  intro pg e s m args below meth c s₁ B hml hv
  obtain ⟨rfl, hP, hE⟩ := hv
  have hx := B.exec
  have hb := B.bytes
  have hr := B.returns
  have hlocks := B.notSynchronized
  have C0 : CallFix pg m c cX4_written 2 s ([.ref mo, .int q0] : List Value).toArray wsX4_written RX4 := ⟨hx, hb, hml, findClass_of_methodNamed B.named, atoms_spec (ws := wsX4_written) B.pre⟩
  have hown := C0.2.2.2.1
  have hts := C0.2.2.2.2
  have hl := lv_entry ([.ref mo, .int q0]) (n := 2) (Nat.le_of_ble_eq_true rfl)
  rw [lg_entry_eq]
  generalize (lg_sl ([.ref mo, .int q0]) ++ List.replicate (2 - (lg_sl ([.ref mo, .int q0])).length) Slot.unset).toArray = ls at hl ⊢
  have hl : lv_has ls 2 [(0, .ref mo), (1, .int q0)] := hl
  unfold fX4_written at h
  refine lv_aload_n hx hb dX4_written_0 rfl (lv_at hl 0 rfl) ?_
  refine va_get (D := D) (ci := 4) (v := .ref a3) (C := RX4) (T := TX4) (N := 14) hx hb hts iwX4_written_4 hown hE.1 hP 0 rfl rfl 5 (by decide) (hts _ lkX4_written_0) (fun _ h9 => h9) rfl dX4_written_1 ?_
  refine lv_iload_n hx hb dX4_written_4 rfl (lv_at hl 1 rfl) ?_
  obtain ⟨c1, h⟩ := ite_n h
  refine va_zald hx hb hE.1 hP 3 1 rfl rfl c1 dX4_written_5 ?_
  refine lv_if_eq (tgt := 31) hx hb dX4_written_6 (by decide) (fun c2 => ?_) (fun c2 => ?_)
  · have h := ite_t c2 h
    refine lv_ldc2 (v := (-1)) hx hb hown (hts _ lkX4_written_1) dX4_written_31 ?_
    exact reL hx hb hr hlocks h dX4_written_34
  · have h := ite_f c2 h
    refine lv_ldc2 (v := 2) hx hb hown (hts _ lkX4_written_2) dX4_written_9 ?_
    refine lv_aload_n hx hb dX4_written_12 rfl (lv_at hl 0 rfl) ?_
    refine va_get (D := D) (ci := 4) (v := .ref a1) (C := RX4) (T := TX4) (N := 14) hx hb hts iwX4_written_4 hown hE.1 hP 0 rfl rfl 3 (by decide) (hts _ lkX4_written_3) (fun _ h9 => h9) rfl dX4_written_13 ?_
    refine lv_iload_n hx hb dX4_written_16 rfl (lv_at hl 1 rfl) ?_
    refine va_lald hx hb hE.1 hP 1 0 rfl rfl c1 dX4_written_17 ?_
    refine lv_lmul hx hb dX4_written_18 ?_
    refine lv_aload_n hx hb dX4_written_19 rfl (lv_at hl 0 rfl) ?_
    refine va_get (D := D) (ci := 4) (v := .ref a2) (C := RX4) (T := TX4) (N := 14) hx hb hts iwX4_written_4 hown hE.1 hP 0 rfl rfl 4 (by decide) (hts _ lkX4_written_4) (fun _ h9 => h9) rfl dX4_written_20 ?_
    refine lv_iload_n hx hb dX4_written_23 rfl (lv_at hl 1 rfl) ?_
    refine va_lald hx hb hE.1 hP 2 0 rfl rfl c1 dX4_written_24 ?_
    refine lv_lconst (v := 1) hx hb dX4_written_25 (by decide) ?_
    refine lv_land hx hb dX4_written_26 ?_
    refine lv_ladd hx hb dX4_written_27 ?_
    refine lv_goto (tgt := 34) hx hb dX4_written_28 (by decide) ?_
    exact reL hx hb hr hlocks h dX4_written_34
def fX4_write  (zp : Int64) (zpx : Nat → Int64) (zpy : Nat → Int64) (zip : Nat → Bool) (q0 : Int32) : Option (Int64) :=
  if zp = 0 then
    some (-3)
  else
    (fX4_isSlot q0).bind fun r2 =>
    if (bI r2) = 0 then
      some (-2)
    else
      (fX4_written zpx zpy zip q0).bind fun r5 =>
      some r5
abbrev rmX4_write : Room := { frames := 2, cells := 0, slots := 0, locals := 45 }
theorem lkX4_write_0 : (.fieldLink RX4 28 "PairingDeskModel" "p" "J" : Cond) ∈ wsX4_write := by decide +kernel
theorem lkX4_write_1 : (.constantLong RX4 114 (-2) : Cond) ∈ wsX4_write := by decide +kernel
theorem lkX4_write_2 : (.constantLong RX4 108 (-3) : Cond) ∈ wsX4_write := by decide +kernel
theorem iwX4_write_4 : ∀ w ∈ wsX40, w ∈ wsX4_write := by decide +kernel
theorem hdX4_write : KN yX4_write 1 := by decide +kernel
set_option maxHeartbeats 4000000 in
set_option maxRecDepth 100000 in
theorem kX4_write (l : Launch) (D : va_G) (cJ cZ : ClassId) (mo a1 a2 a3 a4 a5 : Nat) (zp : Int64) (zr : Int64) (zh : Int64) (zx : Int64) (zy : Int64) (zi : Bool) (zu : Int64) (zv : Int64) (zl : Int32) (zpx : Nat → Int64) (zpy : Nat → Int64) (zip : Nat → Bool) (zvu : Nat → Int64) (zvv : Nat → Int64) (q0 : Int32) (rr : Int64) (h : fX4_write zp zpx zpy zip q0 = some rr) : Met l yX4_write wsX4_write rmX4_write (PP D cJ cZ [.ref mo, .int q0] [(mo, .inr (4, [.long zp, .long zr, .long zh, .ref a1, .ref a2, .ref a3, .ref a4, .ref a5, .long zx, .long zy, .int (bI zi), .long zu, .long zv, .int zl])), (a1, .inl (cJ, 16, .inr (.inl zpx))), (a2, .inl (cJ, 16, .inr (.inl zpy))), (a3, .inl (cZ, 16, .inl (fun i => bI (zip i)))), (a4, .inl (cJ, 8, .inr (.inl zvu))), (a5, .inl (cJ, 8, .inr (.inl zvv)))]) (SL rr) 0 0 (fun _ => False) := by
  refine Met.ofW (cc := cX4_write) (maxL := 2) (ret := some .long) (by decide) rfl ?_
  intro pg e s m args below meth c s₁ B hml hv
  obtain ⟨rfl, hP, hE⟩ := hv
  have hx := B.exec
  have hb := B.bytes
  have hr := B.returns
  have hlocks := B.notSynchronized
  have C0 : CallFix pg m c cX4_write 2 s ([.ref mo, .int q0] : List Value).toArray wsX4_write RX4 := ⟨hx, hb, hml, findClass_of_methodNamed B.named, atoms_spec (ws := wsX4_write) B.pre⟩
  have hown := C0.2.2.2.1
  have hts := C0.2.2.2.2
  have hl := lv_entry ([.ref mo, .int q0]) (n := 2) (Nat.le_of_ble_eq_true rfl)
  rw [lg_entry_eq]
  generalize (lg_sl ([.ref mo, .int q0]) ++ List.replicate (2 - (lg_sl ([.ref mo, .int q0])).length) Slot.unset).toArray = ls at hl ⊢
  have hl : lv_has ls 2 [(0, .ref mo), (1, .int q0)] := hl
  unfold fX4_write at h
  refine lv_aload_n hx hb dX4_write_0 rfl (lv_at hl 0 rfl) ?_
  refine va_get (D := D) (ci := 4) (v := .long zp) (C := RX4) (T := TX4) (N := 14) hx hb hts iwX4_write_4 hown hE.1 hP 0 rfl rfl 0 (by decide) (hts _ lkX4_write_0) (fun _ h9 => h9) rfl dX4_write_1 ?_
  refine lv_lconst (v := 0) hx hb dX4_write_4 (by decide) ?_
  refine lc_ne (tgt := 13) hx hb dX4_write_5 dX4_write_6 (by decide) (fun c1 => ?_) (fun c1 => ?_)
  · have h := ite_f c1 h
    refine lv_iload_n hx hb dX4_write_13 rfl (lv_at hl 1 rfl) ?_
    obtain ⟨r2, h3, h⟩ := bind_s h
    refine ki (kS (As := [.int q0]) (rest := []) C0 (kX4_isSlot l D cJ cZ q0 r2 h3) gX4_write_X4_isSlot rfl ⟨rfl, rfl⟩ hdX4_isSlot ⟨Nat.le_of_ble_eq_true rfl, Nat.le_of_ble_eq_true rfl⟩ (hP.sub [] rfl) hE hl rfl rfl (Nat.le_of_ble_eq_true rfl) dX4_write_14 (Nat.zero_le _) (Nat.zero_le _)) ?_
    refine lv_if_eq (tgt := 28) hx hb dX4_write_17 (by decide) (fun c4 => ?_) (fun c4 => ?_)
    · have h := ite_t c4 h
      refine lv_ldc2 (v := (-2)) hx hb hown (hts _ lkX4_write_1) dX4_write_28 ?_
      exact reL hx hb hr hlocks h dX4_write_31
    · have h := ite_f c4 h
      refine lv_aload_n hx hb dX4_write_20 rfl (lv_at hl 0 rfl) ?_
      refine lv_iload_n hx hb dX4_write_21 rfl (lv_at hl 1 rfl) ?_
      obtain ⟨r5, h6, h⟩ := bind_s h
      refine kl (kV (As := [.int q0]) (rest := []) C0 (kX4_written l D cJ cZ mo a1 a2 a3 a4 a5 zp zr zh zx zy zi zu zv zl zpx zpy zip zvu zvv q0 r5 h6) gX4_write_X4_written rfl ⟨rfl, rfl⟩ hdX4_written ⟨Nat.le_of_ble_eq_true rfl, Nat.le_of_ble_eq_true rfl⟩ 4 0 rfl rfl rfl hP hE hl rfl rfl (Nat.le_of_ble_eq_true rfl) dX4_write_22 (Nat.zero_le _) (Nat.zero_le _)) ?_
      refine lv_goto (tgt := 31) hx hb dX4_write_25 (by decide) ?_
      exact reL hx hb hr hlocks h dX4_write_31
  · have h := ite_t c1 h
    refine lv_ldc2 (v := (-3)) hx hb hown (hts _ lkX4_write_2) dX4_write_9 ?_
    exact reL hx hb hr hlocks h dX4_write_12
def fX4_read (N : Nat) (zp : Int64) (zpx : Nat → Int64) (zpy : Nat → Int64) (zip : Nat → Bool) (q0 : Int32) (q1 : Int64) : Option (Int32 × (Nat → Int64) × (Nat → Int64) × (Nat → Bool)) :=
  if zp = 0 then
    some ((-3), zpx, zpy, zip)
  else
    (fX4_isSlot q0).bind fun r2 =>
    if (bI r2) = 0 then
      some ((-2), zpx, zpy, zip)
    else
      if q1 = (-1) then
        if q0 < 0 ∨ 16 ≤ q0.toNatClampNeg then none else
        bnd (uB zip q0.toNatClampNeg false) fun w30 =>
        some (1, zpx, zpy, w30)
      else
        if q1 < 0 then
          some ((-1), zpx, zpy, zip)
        else
          if (q1 / 2) < zp then
            (fX4_curve zp (q1 / 2)).bind fun r8 =>
            (fX4_rootOf N zp r8).bind fun r10 =>
            if (q1 &&& 1) = 1 then
              if r10 < 0 then
                some ((-1), zpx, zpy, zip)
              else
                if r10 = 0 then
                  some ((-1), zpx, zpy, zip)
                else
                  if q0 < 0 ∨ 16 ≤ q0.toNatClampNeg then none else
                  bnd (vp_updL zpx q0.toNatClampNeg (q1 / 2)) fun w26 =>
                  bnd (vp_updL zpy q0.toNatClampNeg (zp - r10)) fun w27 =>
                  bnd (uB zip q0.toNatClampNeg true) fun w28 =>
                  some (1, w26, w27, w28)
            else
              if r10 < 0 then
                some ((-1), zpx, zpy, zip)
              else
                if r10 = 0 then
                  if q0 < 0 ∨ 16 ≤ q0.toNatClampNeg then none else
                  bnd (vp_updL zpx q0.toNatClampNeg (q1 / 2)) fun w20 =>
                  bnd (vp_updL zpy q0.toNatClampNeg r10) fun w21 =>
                  bnd (uB zip q0.toNatClampNeg true) fun w22 =>
                  some (1, w20, w21, w22)
                else
                  if q0 < 0 ∨ 16 ≤ q0.toNatClampNeg then none else
                  bnd (vp_updL zpx q0.toNatClampNeg (q1 / 2)) fun w16 =>
                  bnd (vp_updL zpy q0.toNatClampNeg r10) fun w17 =>
                  bnd (uB zip q0.toNatClampNeg true) fun w18 =>
                  some (1, w16, w17, w18)
          else
            some ((-1), zpx, zpy, zip)
abbrev rmX4_read : Room := { frames := 3, cells := 0, slots := 0, locals := 78 }
theorem lkX4_read_0 : (.fieldLink RX4 28 "PairingDeskModel" "p" "J" : Cond) ∈ wsX4_read := by decide +kernel
theorem lkX4_read_1 : (.constantLong RX4 42 (-1) : Cond) ∈ wsX4_read := by decide +kernel
theorem lkX4_read_2 : (.constantLong RX4 26 (2) : Cond) ∈ wsX4_read := by decide +kernel
theorem lkX4_read_3 : (.fieldLink RX4 7 "PairingDeskModel" "px" "[J" : Cond) ∈ wsX4_read := by decide +kernel
theorem lkX4_read_4 : (.fieldLink RX4 13 "PairingDeskModel" "py" "[J" : Cond) ∈ wsX4_read := by decide +kernel
theorem lkX4_read_5 : (.fieldLink RX4 16 "PairingDeskModel" "isPoint" "[Z" : Cond) ∈ wsX4_read := by decide +kernel
theorem iwX4_read_4 : ∀ w ∈ wsX40, w ∈ wsX4_read := by decide +kernel
theorem hdX4_read : KN yX4_read 2 := by decide +kernel
set_option maxHeartbeats 4000000 in
set_option maxRecDepth 100000 in
theorem kX4_read (l : Launch) (D : va_G) (cJ cZ : ClassId) (mo a1 a2 a3 a4 a5 : Nat) (N : Nat) (zp : Int64) (zr : Int64) (zh : Int64) (zx : Int64) (zy : Int64) (zi : Bool) (zu : Int64) (zv : Int64) (zl : Int32) (zpx : Nat → Int64) (zpy : Nat → Int64) (zip : Nat → Bool) (zvu : Nat → Int64) (zvv : Nat → Int64) (q0 : Int32) (q1 : Int64) (sz : Nat) (rr : Int32) (ozpx : Nat → Int64) (ozpy : Nat → Int64) (ozip : Nat → Bool) (h : fX4_read N zp zpx zpy zip q0 q1 = some (rr, ozpx, ozpy, ozip)) : Met l yX4_read wsX4_read rmX4_read (PE D cJ cZ [.ref mo, .int q0, .long q1] [(mo, .inr (4, [.long zp, .long zr, .long zh, .ref a1, .ref a2, .ref a3, .ref a4, .ref a5, .long zx, .long zy, .int (bI zi), .long zu, .long zv, .int zl])), (a1, .inl (cJ, 16, .inr (.inl zpx))), (a2, .inl (cJ, 16, .inr (.inl zpy))), (a3, .inl (cZ, 16, .inl (fun i => bI (zip i)))), (a4, .inl (cJ, 8, .inr (.inl zvu))), (a5, .inl (cJ, 8, .inr (.inl zvv)))] sz) (QE D (some (.int rr)) [(mo, .inr (4, [.long zp, .long zr, .long zh, .ref a1, .ref a2, .ref a3, .ref a4, .ref a5, .long zx, .long zy, .int (bI zi), .long zu, .long zv, .int zl])), (a1, .inl (cJ, 16, .inr (.inl ozpx))), (a2, .inl (cJ, 16, .inr (.inl ozpy))), (a3, .inl (cZ, 16, .inl (fun i => bI (ozip i)))), (a4, .inl (cJ, 8, .inr (.inl zvu))), (a5, .inl (cJ, 8, .inr (.inl zvv)))] (va_A [(mo, .inr (4, [.long zp, .long zr, .long zh, .ref a1, .ref a2, .ref a3, .ref a4, .ref a5, .long zx, .long zy, .int (bI zi), .long zu, .long zv, .int zl])), (a1, .inl (cJ, 16, .inr (.inl zpx))), (a2, .inl (cJ, 16, .inr (.inl zpy))), (a3, .inl (cZ, 16, .inl (fun i => bI (zip i)))), (a4, .inl (cJ, 8, .inr (.inl zvu))), (a5, .inl (cJ, 8, .inr (.inl zvv)))] sz)) 0 0 (va_A [(mo, .inr (4, [.long zp, .long zr, .long zh, .ref a1, .ref a2, .ref a3, .ref a4, .ref a5, .long zx, .long zy, .int (bI zi), .long zu, .long zv, .int zl])), (a1, .inl (cJ, 16, .inr (.inl zpx))), (a2, .inl (cJ, 16, .inr (.inl zpy))), (a3, .inl (cZ, 16, .inl (fun i => bI (zip i)))), (a4, .inl (cJ, 8, .inr (.inl zvu))), (a5, .inl (cJ, 8, .inr (.inl zvv)))] sz) := by
  refine Met.ofW (cc := cX4_read) (maxL := 7) (ret := some .int) (by decide) rfl ?_
  intro pg e s m args below meth c s₁ B hml hv
  obtain ⟨rfl, hsz, hP, hE, hD0⟩ := hv
  have hx := B.exec
  have hb := B.bytes
  have hr := B.returns
  have hlocks := B.notSynchronized
  have C0 : CallFix pg m c cX4_read 7 s ([.ref mo, .int q0, .long q1] : List Value).toArray wsX4_read RX4 := ⟨hx, hb, hml, findClass_of_methodNamed B.named, atoms_spec (ws := wsX4_read) B.pre⟩
  have hown := C0.2.2.2.1
  have hts := C0.2.2.2.2
  subst hsz
  have hD := hD0.self (sz := s.heap.size)
  generalize hAe : va_A [(mo, .inr (4, [.long zp, .long zr, .long zh, .ref a1, .ref a2, .ref a3, .ref a4, .ref a5, .long zx, .long zy, .int (bI zi), .long zu, .long zv, .int zl])), (a1, .inl (cJ, 16, .inr (.inl zpx))), (a2, .inl (cJ, 16, .inr (.inl zpy))), (a3, .inl (cZ, 16, .inl (fun i => bI (zip i)))), (a4, .inl (cJ, 8, .inr (.inl zvu))), (a5, .inl (cJ, 8, .inr (.inl zvv)))] s.heap.size = A at hD ⊢
  have hA : ∀ q : Nat, s.heap.size ≤ q → A q := fun q h => by rw [← hAe]; exact Or.inr h
  have hS : va_S A s.heap s.heap [] := va_S.rf
  have hP : va_P D vwCl [(mo, .inr (4, [.long zp, .long zr, .long zh, .ref a1, .ref a2, .ref a3, .ref a4, .ref a5, .long zx, .long zy, .int (bI zi), .long zu, .long zv, .int zl])), (a1, .inl (cJ, 16, .inr (.inl zpx))), (a2, .inl (cJ, 16, .inr (.inl zpy))), (a3, .inl (cZ, 16, .inl (fun i => bI (zip i)))), (a4, .inl (cJ, 8, .inr (.inl zvu))), (a5, .inl (cJ, 8, .inr (.inl zvv)))] s.heap := hP
  have hl := lv_entry ([.ref mo, .int q0, .long q1]) (n := 7) (Nat.le_of_ble_eq_true rfl)
  rw [lg_entry_eq]
  generalize (lg_sl ([.ref mo, .int q0, .long q1]) ++ List.replicate (7 - (lg_sl ([.ref mo, .int q0, .long q1])).length) Slot.unset).toArray = ls at hl ⊢
  have hl : lv_has ls 7 [(0, .ref mo), (1, .int q0), (2, .long q1)] := hl
  suffices key : ∀ (H : Heap) (locs : List Loc), va_P D vwCl [(mo, .inr (4, [.long zp, .long zr, .long zh, .ref a1, .ref a2, .ref a3, .ref a4, .ref a5, .long zx, .long zy, .int (bI zi), .long zu, .long zv, .int zl])), (a1, .inl (cJ, 16, .inr (.inl zpx))), (a2, .inl (cJ, 16, .inr (.inl zpy))), (a3, .inl (cZ, 16, .inl (fun i => bI (zip i)))), (a4, .inl (cJ, 8, .inr (.inl zvu))), (a5, .inl (cJ, 8, .inr (.inl zvv)))] H → va_D A [(mo, .inr (4, [.long zp, .long zr, .long zh, .ref a1, .ref a2, .ref a3, .ref a4, .ref a5, .long zx, .long zy, .int (bI zi), .long zu, .long zv, .int zl])), (a1, .inl (cJ, 16, .inr (.inl zpx))), (a2, .inl (cJ, 16, .inr (.inl zpy))), (a3, .inl (cZ, 16, .inl (fun i => bI (zip i)))), (a4, .inl (cJ, 8, .inr (.inl zvu))), (a5, .inl (cJ, 8, .inr (.inl zvv)))] → va_S A s.heap H locs → W pg l e (headSpec wsX4_read rmX4_read).room s m ([.ref mo, .int q0, .long q1] : List Value).toArray below meth c H locs 0 0 (MQ below (QE D (some (.int rr)) [(mo, .inr (4, [.long zp, .long zr, .long zh, .ref a1, .ref a2, .ref a3, .ref a4, .ref a5, .long zx, .long zy, .int (bI zi), .long zu, .long zv, .int zl])), (a1, .inl (cJ, 16, .inr (.inl ozpx))), (a2, .inl (cJ, 16, .inr (.inl ozpy))), (a3, .inl (cZ, 16, .inl (fun i => bI (ozip i)))), (a4, .inl (cJ, 8, .inr (.inl zvu))), (a5, .inl (cJ, 8, .inr (.inl zvv)))] A) ([.ref mo, .int q0, .long q1] : List Value).toArray s 0 0 A) (F0 m 0 ls []) from key s.heap [] hP hD hS
  intro H locs hP hD hS
  unfold fX4_read at h
  refine lv_aload_n hx hb dX4_read_0 rfl (lv_at hl 0 rfl) ?_
  refine va_get (D := D) (ci := 4) (v := .long zp) (C := RX4) (T := TX4) (N := 14) hx hb hts iwX4_read_4 hown hE.1 hP 0 rfl rfl 0 (by decide) (hts _ lkX4_read_0) (fun _ h9 => h9) rfl dX4_read_1 ?_
  refine lv_lconst (v := 0) hx hb dX4_read_4 (by decide) ?_
  refine lc_ne (tgt := 12) hx hb dX4_read_5 dX4_read_6 (by decide) (fun c1 => ?_) (fun c1 => ?_)
  · have h := ite_f c1 h
    refine lv_iload_n hx hb dX4_read_12 rfl (lv_at hl 1 rfl) ?_
    obtain ⟨r2, h3, h⟩ := bind_s h
    refine ki (kS (As := [.int q0]) (rest := []) C0 (kX4_isSlot l D cJ cZ q0 r2 h3) gX4_read_X4_isSlot rfl ⟨rfl, rfl⟩ hdX4_isSlot ⟨Nat.le_of_ble_eq_true rfl, Nat.le_of_ble_eq_true rfl⟩ (hP.sub [] rfl) hE hl rfl rfl (Nat.le_of_ble_eq_true rfl) dX4_read_13 (Nat.zero_le _) (Nat.zero_le _)) ?_
    refine lv_if_ne (tgt := 22) hx hb dX4_read_16 (by decide) (fun c4 => ?_) (fun c4 => ?_)
    · have h := ite_f c4 h
      refine lv_lload_n hx hb dX4_read_22 rfl (lv_at hl 2 rfl) ?_
      refine lv_ldc2 (v := (-1)) hx hb hown (hts _ lkX4_read_1) dX4_read_23 ?_
      refine lc_ne (tgt := 39) hx hb dX4_read_26 dX4_read_27 (by decide) (fun c5 => ?_) (fun c5 => ?_)
      · have h := ite_f c5 h
        refine lv_lload_n hx hb dX4_read_39 rfl (lv_at hl 2 rfl) ?_
        refine lv_lconst (v := 0) hx hb dX4_read_40 (by decide) ?_
        refine lc_lt (tgt := 58) hx hb dX4_read_41 dX4_read_42 (by decide) (fun c6 => ?_) (fun c6 => ?_)
        · have h := ite_t c6 h
          refine lv_iconst (v := (-1)) hx hb dX4_read_58 (by decide) ?_
          cases h
          exact rfI hx hb hr hlocks hP hD hS dX4_read_59
        · have h := ite_f c6 h
          refine lv_lload_n hx hb dX4_read_45 rfl (lv_at hl 2 rfl) ?_
          refine lv_ldc2 (v := 2) hx hb hown (hts _ lkX4_read_2) dX4_read_46 ?_
          refine lv_ldiv hx hb dX4_read_49 (by decide) ?_
          refine lv_aload_n hx hb dX4_read_50 rfl (lv_at hl 0 rfl) ?_
          refine va_get (D := D) (ci := 4) (v := .long zp) (C := RX4) (T := TX4) (N := 14) hx hb hts iwX4_read_4 hown hE.1 hP 0 rfl rfl 0 (by decide) (hts _ lkX4_read_0) (fun _ h9 => h9) rfl dX4_read_51 ?_
          refine lc_lt (tgt := 60) hx hb dX4_read_54 dX4_read_55 (by decide) (fun c7 => ?_) (fun c7 => ?_)
          · have h := ite_t c7 h
            refine lv_aload_n hx hb dX4_read_60 rfl (lv_at hl 0 rfl) ?_
            refine lv_aload_n hx hb dX4_read_61 rfl (lv_at hl 0 rfl) ?_
            refine lv_lload_n hx hb dX4_read_62 rfl (lv_at hl 2 rfl) ?_
            refine lv_ldc2 (v := 2) hx hb hown (hts _ lkX4_read_2) dX4_read_63 ?_
            refine lv_ldiv hx hb dX4_read_66 (by decide) ?_
            obtain ⟨r8, h9, h⟩ := bind_s h
            refine kl (kV (As := [.long (q1 / 2)]) (rest := [.ref mo]) C0 (kX4_curve l D cJ cZ mo a1 a2 a3 a4 a5 zp zr zh zx zy zi zu zv zl zpx zpy zip zvu zvv (q1 / 2) r8 h9) gX4_read_X4_curve rfl ⟨rfl, rfl⟩ hdX4_curve ⟨Nat.le_of_ble_eq_true rfl, Nat.le_of_ble_eq_true rfl⟩ 4 0 rfl rfl rfl hP hE hl rfl rfl (Nat.le_of_ble_eq_true rfl) dX4_read_67 (Nat.zero_le _) (Nat.zero_le _)) ?_
            obtain ⟨r10, h11, h⟩ := bind_s h
            refine kl (kV (As := [.long r8]) (rest := []) C0 (kX4_rootOf l D cJ cZ mo a1 a2 a3 a4 a5 N zp zr zh zx zy zi zu zv zl zpx zpy zip zvu zvv r8 r10 h11) gX4_read_X4_rootOf rfl ⟨rfl, rfl⟩ hdX4_rootOf ⟨Nat.le_of_ble_eq_true rfl, Nat.le_of_ble_eq_true rfl⟩ 4 0 rfl rfl rfl hP hE hl rfl rfl (Nat.le_of_ble_eq_true rfl) dX4_read_70 (Nat.zero_le _) (Nat.zero_le _)) ?_
            refine lv_lstore (lv' := [(4, .long r10), (0, .ref mo), (1, .int q0), (2, .long q1)]) hx hb dX4_read_73 hl (by decide) rfl (fun ls hl => ?_)
            refine lv_lload_n hx hb dX4_read_75 rfl (lv_at hl 3 rfl) ?_
            refine lv_lconst (v := 1) hx hb dX4_read_76 (by decide) ?_
            refine lv_land hx hb dX4_read_77 ?_
            refine lv_lconst (v := 1) hx hb dX4_read_78 (by decide) ?_
            refine lc_ne (tgt := 87) hx hb dX4_read_79 dX4_read_80 (by decide) (fun c12 => ?_) (fun c12 => ?_)
            · have h := ite_f c12 h
              refine lv_iconst (v := 0) hx hb dX4_read_87 (by decide) ?_
              refine lv_istore (lv' := [(6, .int 0), (4, .long r10), (0, .ref mo), (1, .int q0), (2, .long q1)]) hx hb dX4_read_88 hl (by decide) rfl (fun ls hl => ?_)
              refine lv_lload hx hb dX4_read_90 (lv_at hl 1 rfl) ?_
              refine lv_lconst (v := 0) hx hb dX4_read_92 (by decide) ?_
              refine lc_lt (tgt := 109) hx hb dX4_read_93 dX4_read_94 (by decide) (fun c13 => ?_) (fun c13 => ?_)
              · have h := ite_t c13 h
                refine lv_iconst (v := (-1)) hx hb dX4_read_109 (by decide) ?_
                cases h
                exact rfI hx hb hr hlocks hP hD hS dX4_read_110
              · have h := ite_f c13 h
                refine lv_lload hx hb dX4_read_97 (lv_at hl 1 rfl) ?_
                refine lv_lconst (v := 0) hx hb dX4_read_99 (by decide) ?_
                refine lc_ne (tgt := 111) hx hb dX4_read_100 dX4_read_101 (by decide) (fun c14 => ?_) (fun c14 => ?_)
                · have h := ite_f c14 h
                  refine lv_aload_n hx hb dX4_read_111 rfl (lv_at hl 2 rfl) ?_
                  refine va_get (D := D) (ci := 4) (v := .ref a1) (C := RX4) (T := TX4) (N := 14) hx hb hts iwX4_read_4 hown hE.1 hP 0 rfl rfl 3 (by decide) (hts _ lkX4_read_3) (fun _ h9 => h9) rfl dX4_read_112 ?_
                  refine lv_iload_n hx hb dX4_read_115 rfl (lv_at hl 3 rfl) ?_
                  refine lv_lload_n hx hb dX4_read_116 rfl (lv_at hl 4 rfl) ?_
                  refine lv_ldc2 (v := 2) hx hb hown (hts _ lkX4_read_2) dX4_read_117 ?_
                  refine lv_ldiv hx hb dX4_read_120 (by decide) ?_
                  obtain ⟨c15, h⟩ := ite_n h
                  refine va_last hx hb hE.1 hP hD hS 1 0 rfl rfl c15 dX4_read_121 (fun H locs hP hD hS => ?_)
                  have hP : va_P D vwCl [(mo, .inr (4, [.long zp, .long zr, .long zh, .ref a1, .ref a2, .ref a3, .ref a4, .ref a5, .long zx, .long zy, .int (bI zi), .long zu, .long zv, .int zl])), (a1, .inl (cJ, 16, .inr (.inl (vp_updL zpx q0.toNatClampNeg (q1 / 2))))), (a2, .inl (cJ, 16, .inr (.inl zpy))), (a3, .inl (cZ, 16, .inl (fun i => bI (zip i)))), (a4, .inl (cJ, 8, .inr (.inl zvu))), (a5, .inl (cJ, 8, .inr (.inl zvv)))] H := hP
                  have hD : va_D A [(mo, .inr (4, [.long zp, .long zr, .long zh, .ref a1, .ref a2, .ref a3, .ref a4, .ref a5, .long zx, .long zy, .int (bI zi), .long zu, .long zv, .int zl])), (a1, .inl (cJ, 16, .inr (.inl (vp_updL zpx q0.toNatClampNeg (q1 / 2))))), (a2, .inl (cJ, 16, .inr (.inl zpy))), (a3, .inl (cZ, 16, .inl (fun i => bI (zip i)))), (a4, .inl (cJ, 8, .inr (.inl zvu))), (a5, .inl (cJ, 8, .inr (.inl zvv)))] := hD
                  obtain ⟨w16, ew16, h⟩ := bnd_s h
                  rw [← ew16] at hP hD
                  refine lv_aload_n hx hb dX4_read_122 rfl (lv_at hl 2 rfl) ?_
                  refine va_get (D := D) (ci := 4) (v := .ref a2) (C := RX4) (T := TX4) (N := 14) hx hb hts iwX4_read_4 hown hE.1 hP 0 rfl rfl 4 (by decide) (hts _ lkX4_read_4) (fun _ h9 => h9) rfl dX4_read_123 ?_
                  refine lv_iload_n hx hb dX4_read_126 rfl (lv_at hl 3 rfl) ?_
                  refine lv_iload hx hb dX4_read_127 (lv_at hl 0 rfl) ?_
                  refine lv_if_eq (tgt := 142) hx hb dX4_read_129 (by decide) (fun _ => ?_) (fun cc => absurd (by decide) cc)
                  refine lv_lload hx hb dX4_read_142 (lv_at hl 1 rfl) ?_
                  refine va_last hx hb hE.1 hP hD hS 2 0 rfl rfl c15 dX4_read_144 (fun H locs hP hD hS => ?_)
                  have hP : va_P D vwCl [(mo, .inr (4, [.long zp, .long zr, .long zh, .ref a1, .ref a2, .ref a3, .ref a4, .ref a5, .long zx, .long zy, .int (bI zi), .long zu, .long zv, .int zl])), (a1, .inl (cJ, 16, .inr (.inl w16))), (a2, .inl (cJ, 16, .inr (.inl (vp_updL zpy q0.toNatClampNeg r10)))), (a3, .inl (cZ, 16, .inl (fun i => bI (zip i)))), (a4, .inl (cJ, 8, .inr (.inl zvu))), (a5, .inl (cJ, 8, .inr (.inl zvv)))] H := hP
                  have hD : va_D A [(mo, .inr (4, [.long zp, .long zr, .long zh, .ref a1, .ref a2, .ref a3, .ref a4, .ref a5, .long zx, .long zy, .int (bI zi), .long zu, .long zv, .int zl])), (a1, .inl (cJ, 16, .inr (.inl w16))), (a2, .inl (cJ, 16, .inr (.inl (vp_updL zpy q0.toNatClampNeg r10)))), (a3, .inl (cZ, 16, .inl (fun i => bI (zip i)))), (a4, .inl (cJ, 8, .inr (.inl zvu))), (a5, .inl (cJ, 8, .inr (.inl zvv)))] := hD
                  obtain ⟨w17, ew17, h⟩ := bnd_s h
                  rw [← ew17] at hP hD
                  refine lv_aload_n hx hb dX4_read_145 rfl (lv_at hl 2 rfl) ?_
                  refine va_get (D := D) (ci := 4) (v := .ref a3) (C := RX4) (T := TX4) (N := 14) hx hb hts iwX4_read_4 hown hE.1 hP 0 rfl rfl 5 (by decide) (hts _ lkX4_read_5) (fun _ h9 => h9) rfl dX4_read_146 ?_
                  refine lv_iload_n hx hb dX4_read_149 rfl (lv_at hl 3 rfl) ?_
                  refine lv_iconst (v := 1) hx hb dX4_read_150 (by decide) ?_
                  refine va_zast (x := bI true) hx hb hE.1 hP hD hS 3 1 rfl rfl c15 dX4_read_151 (fun H locs hP hD hS => ?_)
                  rw [upd_bI] at hP hD
                  have hP : va_P D vwCl [(mo, .inr (4, [.long zp, .long zr, .long zh, .ref a1, .ref a2, .ref a3, .ref a4, .ref a5, .long zx, .long zy, .int (bI zi), .long zu, .long zv, .int zl])), (a1, .inl (cJ, 16, .inr (.inl w16))), (a2, .inl (cJ, 16, .inr (.inl w17))), (a3, .inl (cZ, 16, .inl (fun i => bI ((uB zip q0.toNatClampNeg true) i)))), (a4, .inl (cJ, 8, .inr (.inl zvu))), (a5, .inl (cJ, 8, .inr (.inl zvv)))] H := hP
                  have hD : va_D A [(mo, .inr (4, [.long zp, .long zr, .long zh, .ref a1, .ref a2, .ref a3, .ref a4, .ref a5, .long zx, .long zy, .int (bI zi), .long zu, .long zv, .int zl])), (a1, .inl (cJ, 16, .inr (.inl w16))), (a2, .inl (cJ, 16, .inr (.inl w17))), (a3, .inl (cZ, 16, .inl (fun i => bI ((uB zip q0.toNatClampNeg true) i)))), (a4, .inl (cJ, 8, .inr (.inl zvu))), (a5, .inl (cJ, 8, .inr (.inl zvv)))] := hD
                  obtain ⟨w18, ew18, h⟩ := bnd_s h
                  rw [← ew18] at hP hD
                  refine lv_iconst (v := 1) hx hb dX4_read_152 (by decide) ?_
                  cases h
                  exact rfI hx hb hr hlocks hP hD hS dX4_read_153
                · have h := ite_t c14 h
                  refine lv_iload hx hb dX4_read_104 (lv_at hl 0 rfl) ?_
                  refine lv_if_eq (tgt := 111) hx hb dX4_read_106 (by decide) (fun _ => ?_) (fun cc => absurd (by decide) cc)
                  refine lv_aload_n hx hb dX4_read_111 rfl (lv_at hl 2 rfl) ?_
                  refine va_get (D := D) (ci := 4) (v := .ref a1) (C := RX4) (T := TX4) (N := 14) hx hb hts iwX4_read_4 hown hE.1 hP 0 rfl rfl 3 (by decide) (hts _ lkX4_read_3) (fun _ h9 => h9) rfl dX4_read_112 ?_
                  refine lv_iload_n hx hb dX4_read_115 rfl (lv_at hl 3 rfl) ?_
                  refine lv_lload_n hx hb dX4_read_116 rfl (lv_at hl 4 rfl) ?_
                  refine lv_ldc2 (v := 2) hx hb hown (hts _ lkX4_read_2) dX4_read_117 ?_
                  refine lv_ldiv hx hb dX4_read_120 (by decide) ?_
                  obtain ⟨c19, h⟩ := ite_n h
                  refine va_last hx hb hE.1 hP hD hS 1 0 rfl rfl c19 dX4_read_121 (fun H locs hP hD hS => ?_)
                  have hP : va_P D vwCl [(mo, .inr (4, [.long zp, .long zr, .long zh, .ref a1, .ref a2, .ref a3, .ref a4, .ref a5, .long zx, .long zy, .int (bI zi), .long zu, .long zv, .int zl])), (a1, .inl (cJ, 16, .inr (.inl (vp_updL zpx q0.toNatClampNeg (q1 / 2))))), (a2, .inl (cJ, 16, .inr (.inl zpy))), (a3, .inl (cZ, 16, .inl (fun i => bI (zip i)))), (a4, .inl (cJ, 8, .inr (.inl zvu))), (a5, .inl (cJ, 8, .inr (.inl zvv)))] H := hP
                  have hD : va_D A [(mo, .inr (4, [.long zp, .long zr, .long zh, .ref a1, .ref a2, .ref a3, .ref a4, .ref a5, .long zx, .long zy, .int (bI zi), .long zu, .long zv, .int zl])), (a1, .inl (cJ, 16, .inr (.inl (vp_updL zpx q0.toNatClampNeg (q1 / 2))))), (a2, .inl (cJ, 16, .inr (.inl zpy))), (a3, .inl (cZ, 16, .inl (fun i => bI (zip i)))), (a4, .inl (cJ, 8, .inr (.inl zvu))), (a5, .inl (cJ, 8, .inr (.inl zvv)))] := hD
                  obtain ⟨w20, ew20, h⟩ := bnd_s h
                  rw [← ew20] at hP hD
                  refine lv_aload_n hx hb dX4_read_122 rfl (lv_at hl 2 rfl) ?_
                  refine va_get (D := D) (ci := 4) (v := .ref a2) (C := RX4) (T := TX4) (N := 14) hx hb hts iwX4_read_4 hown hE.1 hP 0 rfl rfl 4 (by decide) (hts _ lkX4_read_4) (fun _ h9 => h9) rfl dX4_read_123 ?_
                  refine lv_iload_n hx hb dX4_read_126 rfl (lv_at hl 3 rfl) ?_
                  refine lv_iload hx hb dX4_read_127 (lv_at hl 0 rfl) ?_
                  refine lv_if_eq (tgt := 142) hx hb dX4_read_129 (by decide) (fun _ => ?_) (fun cc => absurd (by decide) cc)
                  refine lv_lload hx hb dX4_read_142 (lv_at hl 1 rfl) ?_
                  refine va_last hx hb hE.1 hP hD hS 2 0 rfl rfl c19 dX4_read_144 (fun H locs hP hD hS => ?_)
                  have hP : va_P D vwCl [(mo, .inr (4, [.long zp, .long zr, .long zh, .ref a1, .ref a2, .ref a3, .ref a4, .ref a5, .long zx, .long zy, .int (bI zi), .long zu, .long zv, .int zl])), (a1, .inl (cJ, 16, .inr (.inl w20))), (a2, .inl (cJ, 16, .inr (.inl (vp_updL zpy q0.toNatClampNeg r10)))), (a3, .inl (cZ, 16, .inl (fun i => bI (zip i)))), (a4, .inl (cJ, 8, .inr (.inl zvu))), (a5, .inl (cJ, 8, .inr (.inl zvv)))] H := hP
                  have hD : va_D A [(mo, .inr (4, [.long zp, .long zr, .long zh, .ref a1, .ref a2, .ref a3, .ref a4, .ref a5, .long zx, .long zy, .int (bI zi), .long zu, .long zv, .int zl])), (a1, .inl (cJ, 16, .inr (.inl w20))), (a2, .inl (cJ, 16, .inr (.inl (vp_updL zpy q0.toNatClampNeg r10)))), (a3, .inl (cZ, 16, .inl (fun i => bI (zip i)))), (a4, .inl (cJ, 8, .inr (.inl zvu))), (a5, .inl (cJ, 8, .inr (.inl zvv)))] := hD
                  obtain ⟨w21, ew21, h⟩ := bnd_s h
                  rw [← ew21] at hP hD
                  refine lv_aload_n hx hb dX4_read_145 rfl (lv_at hl 2 rfl) ?_
                  refine va_get (D := D) (ci := 4) (v := .ref a3) (C := RX4) (T := TX4) (N := 14) hx hb hts iwX4_read_4 hown hE.1 hP 0 rfl rfl 5 (by decide) (hts _ lkX4_read_5) (fun _ h9 => h9) rfl dX4_read_146 ?_
                  refine lv_iload_n hx hb dX4_read_149 rfl (lv_at hl 3 rfl) ?_
                  refine lv_iconst (v := 1) hx hb dX4_read_150 (by decide) ?_
                  refine va_zast (x := bI true) hx hb hE.1 hP hD hS 3 1 rfl rfl c19 dX4_read_151 (fun H locs hP hD hS => ?_)
                  rw [upd_bI] at hP hD
                  have hP : va_P D vwCl [(mo, .inr (4, [.long zp, .long zr, .long zh, .ref a1, .ref a2, .ref a3, .ref a4, .ref a5, .long zx, .long zy, .int (bI zi), .long zu, .long zv, .int zl])), (a1, .inl (cJ, 16, .inr (.inl w20))), (a2, .inl (cJ, 16, .inr (.inl w21))), (a3, .inl (cZ, 16, .inl (fun i => bI ((uB zip q0.toNatClampNeg true) i)))), (a4, .inl (cJ, 8, .inr (.inl zvu))), (a5, .inl (cJ, 8, .inr (.inl zvv)))] H := hP
                  have hD : va_D A [(mo, .inr (4, [.long zp, .long zr, .long zh, .ref a1, .ref a2, .ref a3, .ref a4, .ref a5, .long zx, .long zy, .int (bI zi), .long zu, .long zv, .int zl])), (a1, .inl (cJ, 16, .inr (.inl w20))), (a2, .inl (cJ, 16, .inr (.inl w21))), (a3, .inl (cZ, 16, .inl (fun i => bI ((uB zip q0.toNatClampNeg true) i)))), (a4, .inl (cJ, 8, .inr (.inl zvu))), (a5, .inl (cJ, 8, .inr (.inl zvv)))] := hD
                  obtain ⟨w22, ew22, h⟩ := bnd_s h
                  rw [← ew22] at hP hD
                  refine lv_iconst (v := 1) hx hb dX4_read_152 (by decide) ?_
                  cases h
                  exact rfI hx hb hr hlocks hP hD hS dX4_read_153
            · have h := ite_t c12 h
              refine lv_iconst (v := 1) hx hb dX4_read_83 (by decide) ?_
              refine lv_goto (tgt := 88) hx hb dX4_read_84 (by decide) ?_
              refine lv_istore (lv' := [(6, .int 1), (4, .long r10), (0, .ref mo), (1, .int q0), (2, .long q1)]) hx hb dX4_read_88 hl (by decide) rfl (fun ls hl => ?_)
              refine lv_lload hx hb dX4_read_90 (lv_at hl 1 rfl) ?_
              refine lv_lconst (v := 0) hx hb dX4_read_92 (by decide) ?_
              refine lc_lt (tgt := 109) hx hb dX4_read_93 dX4_read_94 (by decide) (fun c23 => ?_) (fun c23 => ?_)
              · have h := ite_t c23 h
                refine lv_iconst (v := (-1)) hx hb dX4_read_109 (by decide) ?_
                cases h
                exact rfI hx hb hr hlocks hP hD hS dX4_read_110
              · have h := ite_f c23 h
                refine lv_lload hx hb dX4_read_97 (lv_at hl 1 rfl) ?_
                refine lv_lconst (v := 0) hx hb dX4_read_99 (by decide) ?_
                refine lc_ne (tgt := 111) hx hb dX4_read_100 dX4_read_101 (by decide) (fun c24 => ?_) (fun c24 => ?_)
                · have h := ite_f c24 h
                  refine lv_aload_n hx hb dX4_read_111 rfl (lv_at hl 2 rfl) ?_
                  refine va_get (D := D) (ci := 4) (v := .ref a1) (C := RX4) (T := TX4) (N := 14) hx hb hts iwX4_read_4 hown hE.1 hP 0 rfl rfl 3 (by decide) (hts _ lkX4_read_3) (fun _ h9 => h9) rfl dX4_read_112 ?_
                  refine lv_iload_n hx hb dX4_read_115 rfl (lv_at hl 3 rfl) ?_
                  refine lv_lload_n hx hb dX4_read_116 rfl (lv_at hl 4 rfl) ?_
                  refine lv_ldc2 (v := 2) hx hb hown (hts _ lkX4_read_2) dX4_read_117 ?_
                  refine lv_ldiv hx hb dX4_read_120 (by decide) ?_
                  obtain ⟨c25, h⟩ := ite_n h
                  refine va_last hx hb hE.1 hP hD hS 1 0 rfl rfl c25 dX4_read_121 (fun H locs hP hD hS => ?_)
                  have hP : va_P D vwCl [(mo, .inr (4, [.long zp, .long zr, .long zh, .ref a1, .ref a2, .ref a3, .ref a4, .ref a5, .long zx, .long zy, .int (bI zi), .long zu, .long zv, .int zl])), (a1, .inl (cJ, 16, .inr (.inl (vp_updL zpx q0.toNatClampNeg (q1 / 2))))), (a2, .inl (cJ, 16, .inr (.inl zpy))), (a3, .inl (cZ, 16, .inl (fun i => bI (zip i)))), (a4, .inl (cJ, 8, .inr (.inl zvu))), (a5, .inl (cJ, 8, .inr (.inl zvv)))] H := hP
                  have hD : va_D A [(mo, .inr (4, [.long zp, .long zr, .long zh, .ref a1, .ref a2, .ref a3, .ref a4, .ref a5, .long zx, .long zy, .int (bI zi), .long zu, .long zv, .int zl])), (a1, .inl (cJ, 16, .inr (.inl (vp_updL zpx q0.toNatClampNeg (q1 / 2))))), (a2, .inl (cJ, 16, .inr (.inl zpy))), (a3, .inl (cZ, 16, .inl (fun i => bI (zip i)))), (a4, .inl (cJ, 8, .inr (.inl zvu))), (a5, .inl (cJ, 8, .inr (.inl zvv)))] := hD
                  obtain ⟨w26, ew26, h⟩ := bnd_s h
                  rw [← ew26] at hP hD
                  refine lv_aload_n hx hb dX4_read_122 rfl (lv_at hl 2 rfl) ?_
                  refine va_get (D := D) (ci := 4) (v := .ref a2) (C := RX4) (T := TX4) (N := 14) hx hb hts iwX4_read_4 hown hE.1 hP 0 rfl rfl 4 (by decide) (hts _ lkX4_read_4) (fun _ h9 => h9) rfl dX4_read_123 ?_
                  refine lv_iload_n hx hb dX4_read_126 rfl (lv_at hl 3 rfl) ?_
                  refine lv_iload hx hb dX4_read_127 (lv_at hl 0 rfl) ?_
                  refine lv_if_eq (tgt := 142) hx hb dX4_read_129 (by decide) (fun cc => absurd cc (by decide)) (fun _ => ?_)
                  refine lv_aload_n hx hb dX4_read_132 rfl (lv_at hl 2 rfl) ?_
                  refine va_get (D := D) (ci := 4) (v := .long zp) (C := RX4) (T := TX4) (N := 14) hx hb hts iwX4_read_4 hown hE.1 hP 0 rfl rfl 0 (by decide) (hts _ lkX4_read_0) (fun _ h9 => h9) rfl dX4_read_133 ?_
                  refine lv_lload hx hb dX4_read_136 (lv_at hl 1 rfl) ?_
                  refine lv_lsub hx hb dX4_read_138 ?_
                  refine lv_goto (tgt := 144) hx hb dX4_read_139 (by decide) ?_
                  refine va_last hx hb hE.1 hP hD hS 2 0 rfl rfl c25 dX4_read_144 (fun H locs hP hD hS => ?_)
                  have hP : va_P D vwCl [(mo, .inr (4, [.long zp, .long zr, .long zh, .ref a1, .ref a2, .ref a3, .ref a4, .ref a5, .long zx, .long zy, .int (bI zi), .long zu, .long zv, .int zl])), (a1, .inl (cJ, 16, .inr (.inl w26))), (a2, .inl (cJ, 16, .inr (.inl (vp_updL zpy q0.toNatClampNeg (zp - r10))))), (a3, .inl (cZ, 16, .inl (fun i => bI (zip i)))), (a4, .inl (cJ, 8, .inr (.inl zvu))), (a5, .inl (cJ, 8, .inr (.inl zvv)))] H := hP
                  have hD : va_D A [(mo, .inr (4, [.long zp, .long zr, .long zh, .ref a1, .ref a2, .ref a3, .ref a4, .ref a5, .long zx, .long zy, .int (bI zi), .long zu, .long zv, .int zl])), (a1, .inl (cJ, 16, .inr (.inl w26))), (a2, .inl (cJ, 16, .inr (.inl (vp_updL zpy q0.toNatClampNeg (zp - r10))))), (a3, .inl (cZ, 16, .inl (fun i => bI (zip i)))), (a4, .inl (cJ, 8, .inr (.inl zvu))), (a5, .inl (cJ, 8, .inr (.inl zvv)))] := hD
                  obtain ⟨w27, ew27, h⟩ := bnd_s h
                  rw [← ew27] at hP hD
                  refine lv_aload_n hx hb dX4_read_145 rfl (lv_at hl 2 rfl) ?_
                  refine va_get (D := D) (ci := 4) (v := .ref a3) (C := RX4) (T := TX4) (N := 14) hx hb hts iwX4_read_4 hown hE.1 hP 0 rfl rfl 5 (by decide) (hts _ lkX4_read_5) (fun _ h9 => h9) rfl dX4_read_146 ?_
                  refine lv_iload_n hx hb dX4_read_149 rfl (lv_at hl 3 rfl) ?_
                  refine lv_iconst (v := 1) hx hb dX4_read_150 (by decide) ?_
                  refine va_zast (x := bI true) hx hb hE.1 hP hD hS 3 1 rfl rfl c25 dX4_read_151 (fun H locs hP hD hS => ?_)
                  rw [upd_bI] at hP hD
                  have hP : va_P D vwCl [(mo, .inr (4, [.long zp, .long zr, .long zh, .ref a1, .ref a2, .ref a3, .ref a4, .ref a5, .long zx, .long zy, .int (bI zi), .long zu, .long zv, .int zl])), (a1, .inl (cJ, 16, .inr (.inl w26))), (a2, .inl (cJ, 16, .inr (.inl w27))), (a3, .inl (cZ, 16, .inl (fun i => bI ((uB zip q0.toNatClampNeg true) i)))), (a4, .inl (cJ, 8, .inr (.inl zvu))), (a5, .inl (cJ, 8, .inr (.inl zvv)))] H := hP
                  have hD : va_D A [(mo, .inr (4, [.long zp, .long zr, .long zh, .ref a1, .ref a2, .ref a3, .ref a4, .ref a5, .long zx, .long zy, .int (bI zi), .long zu, .long zv, .int zl])), (a1, .inl (cJ, 16, .inr (.inl w26))), (a2, .inl (cJ, 16, .inr (.inl w27))), (a3, .inl (cZ, 16, .inl (fun i => bI ((uB zip q0.toNatClampNeg true) i)))), (a4, .inl (cJ, 8, .inr (.inl zvu))), (a5, .inl (cJ, 8, .inr (.inl zvv)))] := hD
                  obtain ⟨w28, ew28, h⟩ := bnd_s h
                  rw [← ew28] at hP hD
                  refine lv_iconst (v := 1) hx hb dX4_read_152 (by decide) ?_
                  cases h
                  exact rfI hx hb hr hlocks hP hD hS dX4_read_153
                · have h := ite_t c24 h
                  refine lv_iload hx hb dX4_read_104 (lv_at hl 0 rfl) ?_
                  refine lv_if_eq (tgt := 111) hx hb dX4_read_106 (by decide) (fun cc => absurd cc (by decide)) (fun _ => ?_)
                  refine lv_iconst (v := (-1)) hx hb dX4_read_109 (by decide) ?_
                  cases h
                  exact rfI hx hb hr hlocks hP hD hS dX4_read_110
          · have h := ite_f c7 h
            refine lv_iconst (v := (-1)) hx hb dX4_read_58 (by decide) ?_
            cases h
            exact rfI hx hb hr hlocks hP hD hS dX4_read_59
      · have h := ite_t c5 h
        refine lv_aload_n hx hb dX4_read_30 rfl (lv_at hl 0 rfl) ?_
        refine va_get (D := D) (ci := 4) (v := .ref a3) (C := RX4) (T := TX4) (N := 14) hx hb hts iwX4_read_4 hown hE.1 hP 0 rfl rfl 5 (by decide) (hts _ lkX4_read_5) (fun _ h9 => h9) rfl dX4_read_31 ?_
        refine lv_iload_n hx hb dX4_read_34 rfl (lv_at hl 1 rfl) ?_
        refine lv_iconst (v := 0) hx hb dX4_read_35 (by decide) ?_
        obtain ⟨c29, h⟩ := ite_n h
        refine va_zast (x := bI false) hx hb hE.1 hP hD hS 3 1 rfl rfl c29 dX4_read_36 (fun H locs hP hD hS => ?_)
        rw [upd_bI] at hP hD
        have hP : va_P D vwCl [(mo, .inr (4, [.long zp, .long zr, .long zh, .ref a1, .ref a2, .ref a3, .ref a4, .ref a5, .long zx, .long zy, .int (bI zi), .long zu, .long zv, .int zl])), (a1, .inl (cJ, 16, .inr (.inl zpx))), (a2, .inl (cJ, 16, .inr (.inl zpy))), (a3, .inl (cZ, 16, .inl (fun i => bI ((uB zip q0.toNatClampNeg false) i)))), (a4, .inl (cJ, 8, .inr (.inl zvu))), (a5, .inl (cJ, 8, .inr (.inl zvv)))] H := hP
        have hD : va_D A [(mo, .inr (4, [.long zp, .long zr, .long zh, .ref a1, .ref a2, .ref a3, .ref a4, .ref a5, .long zx, .long zy, .int (bI zi), .long zu, .long zv, .int zl])), (a1, .inl (cJ, 16, .inr (.inl zpx))), (a2, .inl (cJ, 16, .inr (.inl zpy))), (a3, .inl (cZ, 16, .inl (fun i => bI ((uB zip q0.toNatClampNeg false) i)))), (a4, .inl (cJ, 8, .inr (.inl zvu))), (a5, .inl (cJ, 8, .inr (.inl zvv)))] := hD
        obtain ⟨w30, ew30, h⟩ := bnd_s h
        rw [← ew30] at hP hD
        refine lv_iconst (v := 1) hx hb dX4_read_37 (by decide) ?_
        cases h
        exact rfI hx hb hr hlocks hP hD hS dX4_read_38
    · have h := ite_t c4 h
      refine lv_bipush (v := (-2)) hx hb dX4_read_19 (by decide) ?_
      cases h
      exact rfI hx hb hr hlocks hP hD hS dX4_read_21
  · have h := ite_t c1 h
    refine lv_bipush (v := (-3)) hx hb dX4_read_9 (by decide) ?_
    cases h
    exact rfI hx hb hr hlocks hP hD hS dX4_read_11
