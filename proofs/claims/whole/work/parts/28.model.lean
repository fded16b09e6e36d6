def fX4_multiply2  (zp : Int64) (zu : Int64) (zv : Int64) (q0 : Int64) (q1 : Int64) : Option (Int64 × Int64) :=
  if zp = 0 then none else
  bnd (jrem (((jrem (zu * q0) zp) + zp) - (jrem (zv * q1) zp)) zp) fun w2 =>
  bnd (jrem ((jrem (zu * q1) zp) + (jrem (zv * q0) zp)) zp) fun w3 =>
  some (w2, w3)
abbrev rmX4_multiply2 : Room := { frames := 0, cells := 0, slots := 0, locals := 0 }
theorem lkX4_multiply2_0 : (.fieldLink RX4 116 "PairingDeskModel" "u" "J" : Cond) ∈ wsX4_multiply2 := by decide +kernel
theorem lkX4_multiply2_1 : (.fieldLink RX4 28 "PairingDeskModel" "p" "J" : Cond) ∈ wsX4_multiply2 := by decide +kernel
theorem lkX4_multiply2_2 : (.fieldLink RX4 119 "PairingDeskModel" "v" "J" : Cond) ∈ wsX4_multiply2 := by decide +kernel
theorem iwX4_multiply2_4 : ∀ w ∈ wsX40, w ∈ wsX4_multiply2 := by decide +kernel
theorem hdX4_multiply2 : KN yX4_multiply2 2 := by decide +kernel
set_option maxHeartbeats 4000000 in
set_option maxRecDepth 100000 in
theorem kX4_multiply2 (l : Launch) (D : va_G) (cJ cZ : ClassId) (mo a1 a2 a3 a4 a5 : Nat) (zp : Int64) (zr : Int64) (zh : Int64) (zx : Int64) (zy : Int64) (zi : Bool) (zu : Int64) (zv : Int64) (zl : Int32) (zpx : Nat → Int64) (zpy : Nat → Int64) (zip : Nat → Bool) (zvu : Nat → Int64) (zvv : Nat → Int64) (q0 : Int64) (q1 : Int64) (sz : Nat) (ozu : Int64) (ozv : Int64) (h : fX4_multiply2 zp zu zv q0 q1 = some (ozu, ozv)) : Met l yX4_multiply2 wsX4_multiply2 rmX4_multiply2 (PE D cJ cZ [.ref mo, .long q0, .long q1] [(mo, .inr (4, [.long zp, .long zr, .long zh, .ref a1, .ref a2, .ref a3, .ref a4, .ref a5, .long zx, .long zy, .int (bI zi), .long zu, .long zv, .int zl])), (a1, .inl (cJ, 16, .inr (.inl zpx))), (a2, .inl (cJ, 16, .inr (.inl zpy))), (a3, .inl (cZ, 16, .inl (fun i => bI (zip i)))), (a4, .inl (cJ, 8, .inr (.inl zvu))), (a5, .inl (cJ, 8, .inr (.inl zvv)))] sz) (QE D (none) [(mo, .inr (4, [.long zp, .long zr, .long zh, .ref a1, .ref a2, .ref a3, .ref a4, .ref a5, .long zx, .long zy, .int (bI zi), .long ozu, .long ozv, .int zl])), (a1, .inl (cJ, 16, .inr (.inl zpx))), (a2, .inl (cJ, 16, .inr (.inl zpy))), (a3, .inl (cZ, 16, .inl (fun i => bI (zip i)))), (a4, .inl (cJ, 8, .inr (.inl zvu))), (a5, .inl (cJ, 8, .inr (.inl zvv)))] (va_A [(mo, .inr (4, [.long zp, .long zr, .long zh, .ref a1, .ref a2, .ref a3, .ref a4, .ref a5, .long zx, .long zy, .int (bI zi), .long zu, .long zv, .int zl])), (a1, .inl (cJ, 16, .inr (.inl zpx))), (a2, .inl (cJ, 16, .inr (.inl zpy))), (a3, .inl (cZ, 16, .inl (fun i => bI (zip i)))), (a4, .inl (cJ, 8, .inr (.inl zvu))), (a5, .inl (cJ, 8, .inr (.inl zvv)))] sz)) 0 0 (va_A [(mo, .inr (4, [.long zp, .long zr, .long zh, .ref a1, .ref a2, .ref a3, .ref a4, .ref a5, .long zx, .long zy, .int (bI zi), .long zu, .long zv, .int zl])), (a1, .inl (cJ, 16, .inr (.inl zpx))), (a2, .inl (cJ, 16, .inr (.inl zpy))), (a3, .inl (cZ, 16, .inl (fun i => bI (zip i)))), (a4, .inl (cJ, 8, .inr (.inl zvu))), (a5, .inl (cJ, 8, .inr (.inl zvv)))] sz) := by
  refine Met.ofW (cc := cX4_multiply2) (maxL := 7) (ret := none) (by decide) rfl ?_
  intro pg e s m args below meth c s₁ B hml hv
  obtain ⟨rfl, hsz, hP, hE, hD0⟩ := hv
  have hx := B.exec
  have hb := B.bytes
  have hr := B.returns
  have hlocks := B.notSynchronized
  have C0 : CallFix pg m c cX4_multiply2 7 s ([.ref mo, .long q0, .long q1] : List Value).toArray wsX4_multiply2 RX4 := ⟨hx, hb, hml, findClass_of_methodNamed B.named, atoms_spec (ws := wsX4_multiply2) B.pre⟩
  have hown := C0.2.2.2.1
  have hts := C0.2.2.2.2
  subst hsz
  have hD := hD0.self (sz := s.heap.size)
  generalize hAe : va_A [(mo, .inr (4, [.long zp, .long zr, .long zh, .ref a1, .ref a2, .ref a3, .ref a4, .ref a5, .long zx, .long zy, .int (bI zi), .long zu, .long zv, .int zl])), (a1, .inl (cJ, 16, .inr (.inl zpx))), (a2, .inl (cJ, 16, .inr (.inl zpy))), (a3, .inl (cZ, 16, .inl (fun i => bI (zip i)))), (a4, .inl (cJ, 8, .inr (.inl zvu))), (a5, .inl (cJ, 8, .inr (.inl zvv)))] s.heap.size = A at hD ⊢
  have hA : ∀ q : Nat, s.heap.size ≤ q → A q := fun q h => by rw [← hAe]; exact Or.inr h
  have hS : va_S A s.heap s.heap [] := va_S.rf
  have hP : va_P D vwCl [(mo, .inr (4, [.long zp, .long zr, .long zh, .ref a1, .ref a2, .ref a3, .ref a4, .ref a5, .long zx, .long zy, .int (bI zi), .long zu, .long zv, .int zl])), (a1, .inl (cJ, 16, .inr (.inl zpx))), (a2, .inl (cJ, 16, .inr (.inl zpy))), (a3, .inl (cZ, 16, .inl (fun i => bI (zip i)))), (a4, .inl (cJ, 8, .inr (.inl zvu))), (a5, .inl (cJ, 8, .inr (.inl zvv)))] s.heap := hP
  have hl := lv_entry ([.ref mo, .long q0, .long q1]) (n := 7) (Nat.le_of_ble_eq_true rfl)
  rw [lg_entry_eq]
  generalize (lg_sl ([.ref mo, .long q0, .long q1]) ++ List.replicate (7 - (lg_sl ([.ref mo, .long q0, .long q1])).length) Slot.unset).toArray = ls at hl ⊢
  have hl : lv_has ls 7 [(0, .ref mo), (1, .long q0), (3, .long q1)] := hl
  suffices key : ∀ (H : Heap) (locs : List Loc), va_P D vwCl [(mo, .inr (4, [.long zp, .long zr, .long zh, .ref a1, .ref a2, .ref a3, .ref a4, .ref a5, .long zx, .long zy, .int (bI zi), .long zu, .long zv, .int zl])), (a1, .inl (cJ, 16, .inr (.inl zpx))), (a2, .inl (cJ, 16, .inr (.inl zpy))), (a3, .inl (cZ, 16, .inl (fun i => bI (zip i)))), (a4, .inl (cJ, 8, .inr (.inl zvu))), (a5, .inl (cJ, 8, .inr (.inl zvv)))] H → va_D A [(mo, .inr (4, [.long zp, .long zr, .long zh, .ref a1, .ref a2, .ref a3, .ref a4, .ref a5, .long zx, .long zy, .int (bI zi), .long zu, .long zv, .int zl])), (a1, .inl (cJ, 16, .inr (.inl zpx))), (a2, .inl (cJ, 16, .inr (.inl zpy))), (a3, .inl (cZ, 16, .inl (fun i => bI (zip i)))), (a4, .inl (cJ, 8, .inr (.inl zvu))), (a5, .inl (cJ, 8, .inr (.inl zvv)))] → va_S A s.heap H locs → W pg l e (headSpec wsX4_multiply2 rmX4_multiply2).room s m ([.ref mo, .long q0, .long q1] : List Value).toArray below meth c H locs 0 0 (MQ below (QE D (none) [(mo, .inr (4, [.long zp, .long zr, .long zh, .ref a1, .ref a2, .ref a3, .ref a4, .ref a5, .long zx, .long zy, .int (bI zi), .long ozu, .long ozv, .int zl])), (a1, .inl (cJ, 16, .inr (.inl zpx))), (a2, .inl (cJ, 16, .inr (.inl zpy))), (a3, .inl (cZ, 16, .inl (fun i => bI (zip i)))), (a4, .inl (cJ, 8, .inr (.inl zvu))), (a5, .inl (cJ, 8, .inr (.inl zvv)))] A) ([.ref mo, .long q0, .long q1] : List Value).toArray s 0 0 A) (F0 m 0 ls []) from key s.heap [] hP hD hS
  intro H locs hP hD hS
  unfold fX4_multiply2 at h
  refine lv_aload_n hx hb dX4_multiply2_0 rfl (lv_at hl 0 rfl) ?_
  refine va_get (D := D) (ci := 4) (v := .long zu) (C := RX4) (T := TX4) (N := 14) hx hb hts iwX4_multiply2_4 hown hE.1 hP 0 rfl rfl 11 (by decide) (hts _ lkX4_multiply2_0) (fun _ h9 => h9) rfl dX4_multiply2_1 ?_
  refine lv_lload_n hx hb dX4_multiply2_4 rfl (lv_at hl 1 rfl) ?_
  refine lv_lmul hx hb dX4_multiply2_5 ?_
  refine lv_aload_n hx hb dX4_multiply2_6 rfl (lv_at hl 0 rfl) ?_
  refine va_get (D := D) (ci := 4) (v := .long zp) (C := RX4) (T := TX4) (N := 14) hx hb hts iwX4_multiply2_4 hown hE.1 hP 0 rfl rfl 0 (by decide) (hts _ lkX4_multiply2_1) (fun _ h9 => h9) rfl dX4_multiply2_7 ?_
  obtain ⟨c1, h⟩ := ite_n h
  refine lv_lremJ hx hb dX4_multiply2_10 c1 ?_
  refine lv_aload_n hx hb dX4_multiply2_11 rfl (lv_at hl 0 rfl) ?_
  refine va_get (D := D) (ci := 4) (v := .long zp) (C := RX4) (T := TX4) (N := 14) hx hb hts iwX4_multiply2_4 hown hE.1 hP 0 rfl rfl 0 (by decide) (hts _ lkX4_multiply2_1) (fun _ h9 => h9) rfl dX4_multiply2_12 ?_
  refine lv_ladd hx hb dX4_multiply2_15 ?_
  refine lv_aload_n hx hb dX4_multiply2_16 rfl (lv_at hl 0 rfl) ?_
  refine va_get (D := D) (ci := 4) (v := .long zv) (C := RX4) (T := TX4) (N := 14) hx hb hts iwX4_multiply2_4 hown hE.1 hP 0 rfl rfl 12 (by decide) (hts _ lkX4_multiply2_2) (fun _ h9 => h9) rfl dX4_multiply2_17 ?_
  refine lv_lload_n hx hb dX4_multiply2_20 rfl (lv_at hl 2 rfl) ?_
  refine lv_lmul hx hb dX4_multiply2_21 ?_
  refine lv_aload_n hx hb dX4_multiply2_22 rfl (lv_at hl 0 rfl) ?_
  refine va_get (D := D) (ci := 4) (v := .long zp) (C := RX4) (T := TX4) (N := 14) hx hb hts iwX4_multiply2_4 hown hE.1 hP 0 rfl rfl 0 (by decide) (hts _ lkX4_multiply2_1) (fun _ h9 => h9) rfl dX4_multiply2_23 ?_
  refine lv_lremJ hx hb dX4_multiply2_26 c1 ?_
  refine lv_lsub hx hb dX4_multiply2_27 ?_
  refine lv_aload_n hx hb dX4_multiply2_28 rfl (lv_at hl 0 rfl) ?_
  refine va_get (D := D) (ci := 4) (v := .long zp) (C := RX4) (T := TX4) (N := 14) hx hb hts iwX4_multiply2_4 hown hE.1 hP 0 rfl rfl 0 (by decide) (hts _ lkX4_multiply2_1) (fun _ h9 => h9) rfl dX4_multiply2_29 ?_
  refine lv_lremJ hx hb dX4_multiply2_32 c1 ?_
  obtain ⟨w2, ew2, h⟩ := bnd_s h
  refine tl ew2.symm ?_
  refine lv_lstore (lv' := [(5, .long w2), (0, .ref mo), (1, .long q0), (3, .long q1)]) hx hb dX4_multiply2_33 hl (by decide) rfl (fun ls hl => ?_)
  refine lv_aload_n hx hb dX4_multiply2_35 rfl (lv_at hl 1 rfl) ?_
  refine lv_aload_n hx hb dX4_multiply2_36 rfl (lv_at hl 1 rfl) ?_
  refine va_get (D := D) (ci := 4) (v := .long zu) (C := RX4) (T := TX4) (N := 14) hx hb hts iwX4_multiply2_4 hown hE.1 hP 0 rfl rfl 11 (by decide) (hts _ lkX4_multiply2_0) (fun _ h9 => h9) rfl dX4_multiply2_37 ?_
  refine lv_lload_n hx hb dX4_multiply2_40 rfl (lv_at hl 3 rfl) ?_
  refine lv_lmul hx hb dX4_multiply2_41 ?_
  refine lv_aload_n hx hb dX4_multiply2_42 rfl (lv_at hl 1 rfl) ?_
  refine va_get (D := D) (ci := 4) (v := .long zp) (C := RX4) (T := TX4) (N := 14) hx hb hts iwX4_multiply2_4 hown hE.1 hP 0 rfl rfl 0 (by decide) (hts _ lkX4_multiply2_1) (fun _ h9 => h9) rfl dX4_multiply2_43 ?_
  refine lv_lremJ hx hb dX4_multiply2_46 c1 ?_
  refine lv_aload_n hx hb dX4_multiply2_47 rfl (lv_at hl 1 rfl) ?_
  refine va_get (D := D) (ci := 4) (v := .long zv) (C := RX4) (T := TX4) (N := 14) hx hb hts iwX4_multiply2_4 hown hE.1 hP 0 rfl rfl 12 (by decide) (hts _ lkX4_multiply2_2) (fun _ h9 => h9) rfl dX4_multiply2_48 ?_
  refine lv_lload_n hx hb dX4_multiply2_51 rfl (lv_at hl 2 rfl) ?_
  refine lv_lmul hx hb dX4_multiply2_52 ?_
  refine lv_aload_n hx hb dX4_multiply2_53 rfl (lv_at hl 1 rfl) ?_
  refine va_get (D := D) (ci := 4) (v := .long zp) (C := RX4) (T := TX4) (N := 14) hx hb hts iwX4_multiply2_4 hown hE.1 hP 0 rfl rfl 0 (by decide) (hts _ lkX4_multiply2_1) (fun _ h9 => h9) rfl dX4_multiply2_54 ?_
  refine lv_lremJ hx hb dX4_multiply2_57 c1 ?_
  refine lv_ladd hx hb dX4_multiply2_58 ?_
  refine lv_aload_n hx hb dX4_multiply2_59 rfl (lv_at hl 1 rfl) ?_
  refine va_get (D := D) (ci := 4) (v := .long zp) (C := RX4) (T := TX4) (N := 14) hx hb hts iwX4_multiply2_4 hown hE.1 hP 0 rfl rfl 0 (by decide) (hts _ lkX4_multiply2_1) (fun _ h9 => h9) rfl dX4_multiply2_60 ?_
  refine lv_lremJ hx hb dX4_multiply2_63 c1 ?_
  obtain ⟨w3, ew3, h⟩ := bnd_s h
  refine tl ew3.symm ?_
  refine va_put (D := D) (ci := 4) (v := .long w3) (ty := .long) (C := RX4) (T := TX4) (N := 14) hx hb hts iwX4_multiply2_4 tyX4 tyX4_ok nmX4 hown hE.1 hP hD hS 0 rfl rfl 12 (by decide) (hts _ lkX4_multiply2_2) (fun _ h9 => h9) rfl (by decide +kernel) rfl rfl (Nat.le_of_ble_eq_true rfl) dX4_multiply2_64 (fun H locs hP hD hS => ?_)
  have hP : va_P D vwCl [(mo, .inr (4, [.long zp, .long zr, .long zh, .ref a1, .ref a2, .ref a3, .ref a4, .ref a5, .long zx, .long zy, .int (bI zi), .long zu, .long w3, .int zl])), (a1, .inl (cJ, 16, .inr (.inl zpx))), (a2, .inl (cJ, 16, .inr (.inl zpy))), (a3, .inl (cZ, 16, .inl (fun i => bI (zip i)))), (a4, .inl (cJ, 8, .inr (.inl zvu))), (a5, .inl (cJ, 8, .inr (.inl zvv)))] H := hP
  have hD : va_D A [(mo, .inr (4, [.long zp, .long zr, .long zh, .ref a1, .ref a2, .ref a3, .ref a4, .ref a5, .long zx, .long zy, .int (bI zi), .long zu, .long w3, .int zl])), (a1, .inl (cJ, 16, .inr (.inl zpx))), (a2, .inl (cJ, 16, .inr (.inl zpy))), (a3, .inl (cZ, 16, .inl (fun i => bI (zip i)))), (a4, .inl (cJ, 8, .inr (.inl zvu))), (a5, .inl (cJ, 8, .inr (.inl zvv)))] := hD
  refine lv_aload_n hx hb dX4_multiply2_67 rfl (lv_at hl 1 rfl) ?_
  refine lv_lload hx hb dX4_multiply2_68 (lv_at hl 0 rfl) ?_
  refine va_put (D := D) (ci := 4) (v := .long w2) (ty := .long) (C := RX4) (T := TX4) (N := 14) hx hb hts iwX4_multiply2_4 tyX4 tyX4_ok nmX4 hown hE.1 hP hD hS 0 rfl rfl 11 (by decide) (hts _ lkX4_multiply2_0) (fun _ h9 => h9) rfl (by decide +kernel) rfl rfl (Nat.le_of_ble_eq_true rfl) dX4_multiply2_70 (fun H locs hP hD hS => ?_)
  have hP : va_P D vwCl [(mo, .inr (4, [.long zp, .long zr, .long zh, .ref a1, .ref a2, .ref a3, .ref a4, .ref a5, .long zx, .long zy, .int (bI zi), .long w2, .long w3, .int zl])), (a1, .inl (cJ, 16, .inr (.inl zpx))), (a2, .inl (cJ, 16, .inr (.inl zpy))), (a3, .inl (cZ, 16, .inl (fun i => bI (zip i)))), (a4, .inl (cJ, 8, .inr (.inl zvu))), (a5, .inl (cJ, 8, .inr (.inl zvv)))] H := hP
  have hD : va_D A [(mo, .inr (4, [.long zp, .long zr, .long zh, .ref a1, .ref a2, .ref a3, .ref a4, .ref a5, .long zx, .long zy, .int (bI zi), .long w2, .long w3, .int zl])), (a1, .inl (cJ, 16, .inr (.inl zpx))), (a2, .inl (cJ, 16, .inr (.inl zpy))), (a3, .inl (cZ, 16, .inl (fun i => bI (zip i)))), (a4, .inl (cJ, 8, .inr (.inl zvu))), (a5, .inl (cJ, 8, .inr (.inl zvv)))] := hD
  cases h
  exact rfV hx hb hr hlocks hP hD hS dX4_multiply2_73
def fX4_power2_25 (N : Nat) (zp : Int64) (l1 : Int64) (l3 : Int64) (l5 : Int64) : Nat → Int32 → Int64 → Int64 → Option (Int64 × Int64)
  | 0, _, _, _ => none
  | n + 1, l7, zu, zv =>
    if l7 < 0 then
      some (zu, zv)
    else
      (fX4_multiply2 zp zu zv zu zv).bind fun (o2, o3) =>
      if ((jushr l1 l7) &&& 1) = 1 then
        (fX4_multiply2 zp o2 o3 l3 l5).bind fun (o7, o8) =>
        bnd (l7 + (-1)) fun w10 =>
        fX4_power2_25 N zp l1 l3 l5 n w10 o7 o8
      else
        bnd (l7 + (-1)) fun w6 =>
        fX4_power2_25 N zp l1 l3 l5 n w6 o2 o3
def fX4_power2 (N : Nat) (zp : Int64) (zu : Int64) (zv : Int64) (q0 : Int64) : Option (Int64 × Int64) :=
  fX4_power2_25 N zp q0 zu zv N 63 1 0
abbrev rmX4_power2 : Room := { frames := 1, cells := 0, slots := 0, locals := 26 }
theorem lkX4_power2_0 : (.fieldLink RX4 116 "PairingDeskModel" "u" "J" : Cond) ∈ wsX4_power2 := by decide +kernel
theorem lkX4_power2_1 : (.fieldLink RX4 119 "PairingDeskModel" "v" "J" : Cond) ∈ wsX4_power2 := by decide +kernel
theorem iwX4_power2_4 : ∀ w ∈ wsX40, w ∈ wsX4_power2 := by decide +kernel
theorem hdX4_power2 : KN yX4_power2 1 := by decide +kernel
set_option maxHeartbeats 4000000 in
set_option maxRecDepth 100000 in
theorem kX4_power2 (l : Launch) (D : va_G) (cJ cZ : ClassId) (mo a1 a2 a3 a4 a5 : Nat) (N : Nat) (zp : Int64) (zr : Int64) (zh : Int64) (zx : Int64) (zy : Int64) (zi : Bool) (zu : Int64) (zv : Int64) (zl : Int32) (zpx : Nat → Int64) (zpy : Nat → Int64) (zip : Nat → Bool) (zvu : Nat → Int64) (zvv : Nat → Int64) (q0 : Int64) (sz : Nat) (ozu : Int64) (ozv : Int64) (h : fX4_power2 N zp zu zv q0 = some (ozu, ozv)) : Met l yX4_power2 wsX4_power2 rmX4_power2 (PE D cJ cZ [.ref mo, .long q0] [(mo, .inr (4, [.long zp, .long zr, .long zh, .ref a1, .ref a2, .ref a3, .ref a4, .ref a5, .long zx, .long zy, .int (bI zi), .long zu, .long zv, .int zl])), (a1, .inl (cJ, 16, .inr (.inl zpx))), (a2, .inl (cJ, 16, .inr (.inl zpy))), (a3, .inl (cZ, 16, .inl (fun i => bI (zip i)))), (a4, .inl (cJ, 8, .inr (.inl zvu))), (a5, .inl (cJ, 8, .inr (.inl zvv)))] sz) (QE D (none) [(mo, .inr (4, [.long zp, .long zr, .long zh, .ref a1, .ref a2, .ref a3, .ref a4, .ref a5, .long zx, .long zy, .int (bI zi), .long ozu, .long ozv, .int zl])), (a1, .inl (cJ, 16, .inr (.inl zpx))), (a2, .inl (cJ, 16, .inr (.inl zpy))), (a3, .inl (cZ, 16, .inl (fun i => bI (zip i)))), (a4, .inl (cJ, 8, .inr (.inl zvu))), (a5, .inl (cJ, 8, .inr (.inl zvv)))] (va_A [(mo, .inr (4, [.long zp, .long zr, .long zh, .ref a1, .ref a2, .ref a3, .ref a4, .ref a5, .long zx, .long zy, .int (bI zi), .long zu, .long zv, .int zl])), (a1, .inl (cJ, 16, .inr (.inl zpx))), (a2, .inl (cJ, 16, .inr (.inl zpy))), (a3, .inl (cZ, 16, .inl (fun i => bI (zip i)))), (a4, .inl (cJ, 8, .inr (.inl zvu))), (a5, .inl (cJ, 8, .inr (.inl zvv)))] sz)) 0 0 (va_A [(mo, .inr (4, [.long zp, .long zr, .long zh, .ref a1, .ref a2, .ref a3, .ref a4, .ref a5, .long zx, .long zy, .int (bI zi), .long zu, .long zv, .int zl])), (a1, .inl (cJ, 16, .inr (.inl zpx))), (a2, .inl (cJ, 16, .inr (.inl zpy))), (a3, .inl (cZ, 16, .inl (fun i => bI (zip i)))), (a4, .inl (cJ, 8, .inr (.inl zvu))), (a5, .inl (cJ, 8, .inr (.inl zvv)))] sz) := by
  refine Met.ofW (cc := cX4_power2) (maxL := 8) (ret := none) (by decide) rfl ?_
  intro pg e s m args below meth c s₁ B hml hv
  obtain ⟨rfl, hsz, hP, hE, hD0⟩ := hv
  have hx := B.exec
  have hb := B.bytes
  have hr := B.returns
  have hlocks := B.notSynchronized
  have C0 : CallFix pg m c cX4_power2 8 s ([.ref mo, .long q0] : List Value).toArray wsX4_power2 RX4 := ⟨hx, hb, hml, findClass_of_methodNamed B.named, atoms_spec (ws := wsX4_power2) B.pre⟩
  have hown := C0.2.2.2.1
  have hts := C0.2.2.2.2
  subst hsz
  have hD := hD0.self (sz := s.heap.size)
  generalize hAe : va_A [(mo, .inr (4, [.long zp, .long zr, .long zh, .ref a1, .ref a2, .ref a3, .ref a4, .ref a5, .long zx, .long zy, .int (bI zi), .long zu, .long zv, .int zl])), (a1, .inl (cJ, 16, .inr (.inl zpx))), (a2, .inl (cJ, 16, .inr (.inl zpy))), (a3, .inl (cZ, 16, .inl (fun i => bI (zip i)))), (a4, .inl (cJ, 8, .inr (.inl zvu))), (a5, .inl (cJ, 8, .inr (.inl zvv)))] s.heap.size = A at hD ⊢
  have hA : ∀ q : Nat, s.heap.size ≤ q → A q := fun q h => by rw [← hAe]; exact Or.inr h
  have hS : va_S A s.heap s.heap [] := va_S.rf
  have hP : va_P D vwCl [(mo, .inr (4, [.long zp, .long zr, .long zh, .ref a1, .ref a2, .ref a3, .ref a4, .ref a5, .long zx, .long zy, .int (bI zi), .long zu, .long zv, .int zl])), (a1, .inl (cJ, 16, .inr (.inl zpx))), (a2, .inl (cJ, 16, .inr (.inl zpy))), (a3, .inl (cZ, 16, .inl (fun i => bI (zip i)))), (a4, .inl (cJ, 8, .inr (.inl zvu))), (a5, .inl (cJ, 8, .inr (.inl zvv)))] s.heap := hP
  have hl := lv_entry ([.ref mo, .long q0]) (n := 8) (Nat.le_of_ble_eq_true rfl)
  rw [lg_entry_eq]
  generalize (lg_sl ([.ref mo, .long q0]) ++ List.replicate (8 - (lg_sl ([.ref mo, .long q0])).length) Slot.unset).toArray = ls at hl ⊢
  have hl : lv_has ls 8 [(0, .ref mo), (1, .long q0)] := hl
  have loop25 : ∀ (l1 : Int64) (l3 : Int64) (l5 : Int64), ∀ (n : Nat) (l7 : Int32) (zu : Int64) (zv : Int64), fX4_power2_25 N zp l1 l3 l5 n l7 zu zv = some (ozu, ozv) → ∀ (H : Heap) (locs : List Loc), va_P D vwCl [(mo, .inr (4, [.long zp, .long zr, .long zh, .ref a1, .ref a2, .ref a3, .ref a4, .ref a5, .long zx, .long zy, .int (bI zi), .long zu, .long zv, .int zl])), (a1, .inl (cJ, 16, .inr (.inl zpx))), (a2, .inl (cJ, 16, .inr (.inl zpy))), (a3, .inl (cZ, 16, .inl (fun i => bI (zip i)))), (a4, .inl (cJ, 8, .inr (.inl zvu))), (a5, .inl (cJ, 8, .inr (.inl zvv)))] H → va_D A [(mo, .inr (4, [.long zp, .long zr, .long zh, .ref a1, .ref a2, .ref a3, .ref a4, .ref a5, .long zx, .long zy, .int (bI zi), .long zu, .long zv, .int zl])), (a1, .inl (cJ, 16, .inr (.inl zpx))), (a2, .inl (cJ, 16, .inr (.inl zpy))), (a3, .inl (cZ, 16, .inl (fun i => bI (zip i)))), (a4, .inl (cJ, 8, .inr (.inl zvu))), (a5, .inl (cJ, 8, .inr (.inl zvv)))] → va_S A s.heap H locs → ∀ ls : Array Slot, lv_has ls 8 [(0, .ref mo), (1, .long l1), (3, .long l3), (5, .long l5), (7, .int l7)] → W pg l e (headSpec wsX4_power2 rmX4_power2).room s m ([.ref mo, .long q0] : List Value).toArray below meth c H locs 0 0 (MQ below (QE D (none) [(mo, .inr (4, [.long zp, .long zr, .long zh, .ref a1, .ref a2, .ref a3, .ref a4, .ref a5, .long zx, .long zy, .int (bI zi), .long ozu, .long ozv, .int zl])), (a1, .inl (cJ, 16, .inr (.inl zpx))), (a2, .inl (cJ, 16, .inr (.inl zpy))), (a3, .inl (cZ, 16, .inl (fun i => bI (zip i)))), (a4, .inl (cJ, 8, .inr (.inl zvu))), (a5, .inl (cJ, 8, .inr (.inl zvv)))] A) ([.ref mo, .long q0] : List Value).toArray s 0 0 A) (F0 m 25 ls []) := by
    intro l1 l3 l5
    intro n
    induction n with
    | zero =>
      intro l7 zu zv h
      cases h
    | succ n ih =>
      intro l7 zu zv h H locs hP hD hS ls hl
      rw [fX4_power2_25] at h
      refine lv_iload hx hb dX4_power2_25 (lv_at hl 4 rfl) ?_
      refine lv_if_lt (tgt := 66) hx hb dX4_power2_27 (by decide) (fun c1 => ?_) (fun c1 => ?_)
      · have h := ite_t c1 h
        cases h
        exact rfV hx hb hr hlocks hP hD hS dX4_power2_66
      · have h := ite_f c1 h
        refine lv_aload_n hx hb dX4_power2_30 rfl (lv_at hl 0 rfl) ?_
        refine lv_aload_n hx hb dX4_power2_31 rfl (lv_at hl 0 rfl) ?_
        refine va_get (D := D) (ci := 4) (v := .long zu) (C := RX4) (T := TX4) (N := 14) hx hb hts iwX4_power2_4 hown hE.1 hP 0 rfl rfl 11 (by decide) (hts _ lkX4_power2_0) (fun _ h9 => h9) rfl dX4_power2_32 ?_
        refine lv_aload_n hx hb dX4_power2_35 rfl (lv_at hl 0 rfl) ?_
        refine va_get (D := D) (ci := 4) (v := .long zv) (C := RX4) (T := TX4) (N := 14) hx hb hts iwX4_power2_4 hown hE.1 hP 0 rfl rfl 12 (by decide) (hts _ lkX4_power2_1) (fun _ h9 => h9) rfl dX4_power2_36 ?_
        obtain ⟨⟨o2, o3⟩, h4, h⟩ := bind_s h
        try dsimp only at h
        refine kE (wc := [(mo, .inr (4, [.long zp, .long zr, .long zh, .ref a1, .ref a2, .ref a3, .ref a4, .ref a5, .long zx, .long zy, .int (bI zi), .long zu, .long zv, .int zl])), (a1, .inl (cJ, 16, .inr (.inl zpx))), (a2, .inl (cJ, 16, .inr (.inl zpy))), (a3, .inl (cZ, 16, .inl (fun i => bI (zip i)))), (a4, .inl (cJ, 8, .inr (.inl zvu))), (a5, .inl (cJ, 8, .inr (.inl zvv)))]) (wr := []) [0, 1, 2, 3, 4, 5] [] hP hD hS hA rfl rfl rfl (by decide) rfl (eV (As := [.long zu, .long zv]) (rest := []) C0 (kX4_multiply2 l D cJ cZ mo a1 a2 a3 a4 a5 zp zr zh zx zy zi zu zv zl zpx zpy zip zvu zvv zu zv H.size o2 o3 h4) gX4_power2_X4_multiply2 rfl ⟨rfl, rfl⟩ hdX4_multiply2 ⟨Nat.le_of_ble_eq_true rfl, Nat.le_of_ble_eq_true rfl⟩ 4 0 rfl rfl rfl hP hD hE hl rfl rfl (Nat.le_of_ble_eq_true rfl) dX4_power2_39 ⟨Nat.zero_le _, Nat.zero_le _⟩) (fun H locs hP hD hS => ?_)
        have hP : va_P D vwCl [(mo, .inr (4, [.long zp, .long zr, .long zh, .ref a1, .ref a2, .ref a3, .ref a4, .ref a5, .long zx, .long zy, .int (bI zi), .long o2, .long o3, .int zl])), (a1, .inl (cJ, 16, .inr (.inl zpx))), (a2, .inl (cJ, 16, .inr (.inl zpy))), (a3, .inl (cZ, 16, .inl (fun i => bI (zip i)))), (a4, .inl (cJ, 8, .inr (.inl zvu))), (a5, .inl (cJ, 8, .inr (.inl zvv)))] H := hP
        have hD : va_D A [(mo, .inr (4, [.long zp, .long zr, .long zh, .ref a1, .ref a2, .ref a3, .ref a4, .ref a5, .long zx, .long zy, .int (bI zi), .long o2, .long o3, .int zl])), (a1, .inl (cJ, 16, .inr (.inl zpx))), (a2, .inl (cJ, 16, .inr (.inl zpy))), (a3, .inl (cZ, 16, .inl (fun i => bI (zip i)))), (a4, .inl (cJ, 8, .inr (.inl zvu))), (a5, .inl (cJ, 8, .inr (.inl zvv)))] := hD
        refine lv_lload_n hx hb dX4_power2_42 rfl (lv_at hl 1 rfl) ?_
        refine lv_iload hx hb dX4_power2_43 (lv_at hl 4 rfl) ?_
        refine lv_lushr (v := jushr l1 l7) hx hb dX4_power2_45 rfl ?_
        refine lv_lconst (v := 1) hx hb dX4_power2_46 (by decide) ?_
        refine lv_land hx hb dX4_power2_47 ?_
        refine lv_lconst (v := 1) hx hb dX4_power2_48 (by decide) ?_
        refine lc_ne (tgt := 60) hx hb dX4_power2_49 dX4_power2_50 (by decide) (fun c5 => ?_) (fun c5 => ?_)
        · have h := ite_f c5 h
          obtain ⟨w6, ew6, h⟩ := bnd_s h
          refine lv_iinc (v := w6) (lv' := [(7, .int w6), (0, .ref mo), (1, .long l1), (3, .long l3), (5, .long l5)]) hx hb dX4_power2_60 hl (k := 4) rfl (by rw [ew6]; rfl) (by decide) rfl (fun ls hl => ?_)
          refine lv_goto (tgt := 25) hx hb dX4_power2_63 (by decide) ?_
          exact ih w6 o2 o3 h H locs hP hD hS ls (lv_sub hl [1, 2, 3, 4, 0] rfl)
        · have h := ite_t c5 h
          refine lv_aload_n hx hb dX4_power2_53 rfl (lv_at hl 0 rfl) ?_
          refine lv_lload_n hx hb dX4_power2_54 rfl (lv_at hl 2 rfl) ?_
          refine lv_lload hx hb dX4_power2_55 (lv_at hl 3 rfl) ?_
          obtain ⟨⟨o7, o8⟩, h9, h⟩ := bind_s h
          try dsimp only at h
          refine kE (wc := [(mo, .inr (4, [.long zp, .long zr, .long zh, .ref a1, .ref a2, .ref a3, .ref a4, .ref a5, .long zx, .long zy, .int (bI zi), .long o2, .long o3, .int zl])), (a1, .inl (cJ, 16, .inr (.inl zpx))), (a2, .inl (cJ, 16, .inr (.inl zpy))), (a3, .inl (cZ, 16, .inl (fun i => bI (zip i)))), (a4, .inl (cJ, 8, .inr (.inl zvu))), (a5, .inl (cJ, 8, .inr (.inl zvv)))]) (wr := []) [0, 1, 2, 3, 4, 5] [] hP hD hS hA rfl rfl rfl (by decide) rfl (eV (As := [.long l3, .long l5]) (rest := []) C0 (kX4_multiply2 l D cJ cZ mo a1 a2 a3 a4 a5 zp zr zh zx zy zi o2 o3 zl zpx zpy zip zvu zvv l3 l5 H.size o7 o8 h9) gX4_power2_X4_multiply2 rfl ⟨rfl, rfl⟩ hdX4_multiply2 ⟨Nat.le_of_ble_eq_true rfl, Nat.le_of_ble_eq_true rfl⟩ 4 0 rfl rfl rfl hP hD hE hl rfl rfl (Nat.le_of_ble_eq_true rfl) dX4_power2_57 ⟨Nat.zero_le _, Nat.zero_le _⟩) (fun H locs hP hD hS => ?_)
          have hP : va_P D vwCl [(mo, .inr (4, [.long zp, .long zr, .long zh, .ref a1, .ref a2, .ref a3, .ref a4, .ref a5, .long zx, .long zy, .int (bI zi), .long o7, .long o8, .int zl])), (a1, .inl (cJ, 16, .inr (.inl zpx))), (a2, .inl (cJ, 16, .inr (.inl zpy))), (a3, .inl (cZ, 16, .inl (fun i => bI (zip i)))), (a4, .inl (cJ, 8, .inr (.inl zvu))), (a5, .inl (cJ, 8, .inr (.inl zvv)))] H := hP
          have hD : va_D A [(mo, .inr (4, [.long zp, .long zr, .long zh, .ref a1, .ref a2, .ref a3, .ref a4, .ref a5, .long zx, .long zy, .int (bI zi), .long o7, .long o8, .int zl])), (a1, .inl (cJ, 16, .inr (.inl zpx))), (a2, .inl (cJ, 16, .inr (.inl zpy))), (a3, .inl (cZ, 16, .inl (fun i => bI (zip i)))), (a4, .inl (cJ, 8, .inr (.inl zvu))), (a5, .inl (cJ, 8, .inr (.inl zvv)))] := hD
          obtain ⟨w10, ew10, h⟩ := bnd_s h
          refine lv_iinc (v := w10) (lv' := [(7, .int w10), (0, .ref mo), (1, .long l1), (3, .long l3), (5, .long l5)]) hx hb dX4_power2_60 hl (k := 4) rfl (by rw [ew10]; rfl) (by decide) rfl (fun ls hl => ?_)
          refine lv_goto (tgt := 25) hx hb dX4_power2_63 (by decide) ?_
          exact ih w10 o7 o8 h H locs hP hD hS ls (lv_sub hl [1, 2, 3, 4, 0] rfl)
  suffices key : ∀ (H : Heap) (locs : List Loc), va_P D vwCl [(mo, .inr (4, [.long zp, .long zr, .long zh, .ref a1, .ref a2, .ref a3, .ref a4, .ref a5, .long zx, .long zy, .int (bI zi), .long zu, .long zv, .int zl])), (a1, .inl (cJ, 16, .inr (.inl zpx))), (a2, .inl (cJ, 16, .inr (.inl zpy))), (a3, .inl (cZ, 16, .inl (fun i => bI (zip i)))), (a4, .inl (cJ, 8, .inr (.inl zvu))), (a5, .inl (cJ, 8, .inr (.inl zvv)))] H → va_D A [(mo, .inr (4, [.long zp, .long zr, .long zh, .ref a1, .ref a2, .ref a3, .ref a4, .ref a5, .long zx, .long zy, .int (bI zi), .long zu, .long zv, .int zl])), (a1, .inl (cJ, 16, .inr (.inl zpx))), (a2, .inl (cJ, 16, .inr (.inl zpy))), (a3, .inl (cZ, 16, .inl (fun i => bI (zip i)))), (a4, .inl (cJ, 8, .inr (.inl zvu))), (a5, .inl (cJ, 8, .inr (.inl zvv)))] → va_S A s.heap H locs → W pg l e (headSpec wsX4_power2 rmX4_power2).room s m ([.ref mo, .long q0] : List Value).toArray below meth c H locs 0 0 (MQ below (QE D (none) [(mo, .inr (4, [.long zp, .long zr, .long zh, .ref a1, .ref a2, .ref a3, .ref a4, .ref a5, .long zx, .long zy, .int (bI zi), .long ozu, .long ozv, .int zl])), (a1, .inl (cJ, 16, .inr (.inl zpx))), (a2, .inl (cJ, 16, .inr (.inl zpy))), (a3, .inl (cZ, 16, .inl (fun i => bI (zip i)))), (a4, .inl (cJ, 8, .inr (.inl zvu))), (a5, .inl (cJ, 8, .inr (.inl zvv)))] A) ([.ref mo, .long q0] : List Value).toArray s 0 0 A) (F0 m 0 ls []) from key s.heap [] hP hD hS
  intro H locs hP hD hS
  unfold fX4_power2 at h
  refine lv_aload_n hx hb dX4_power2_0 rfl (lv_at hl 0 rfl) ?_
  refine va_get (D := D) (ci := 4) (v := .long zu) (C := RX4) (T := TX4) (N := 14) hx hb hts iwX4_power2_4 hown hE.1 hP 0 rfl rfl 11 (by decide) (hts _ lkX4_power2_0) (fun _ h9 => h9) rfl dX4_power2_1 ?_
  refine lv_lstore_n (lv' := [(3, .long zu), (0, .ref mo), (1, .long q0)]) hx hb dX4_power2_4 rfl hl (by decide) rfl (fun ls hl => ?_)
  refine lv_aload_n hx hb dX4_power2_5 rfl (lv_at hl 1 rfl) ?_
  refine va_get (D := D) (ci := 4) (v := .long zv) (C := RX4) (T := TX4) (N := 14) hx hb hts iwX4_power2_4 hown hE.1 hP 0 rfl rfl 12 (by decide) (hts _ lkX4_power2_1) (fun _ h9 => h9) rfl dX4_power2_6 ?_
  refine lv_lstore (lv' := [(5, .long zv), (3, .long zu), (0, .ref mo), (1, .long q0)]) hx hb dX4_power2_9 hl (by decide) rfl (fun ls hl => ?_)
  refine lv_aload_n hx hb dX4_power2_11 rfl (lv_at hl 2 rfl) ?_
  refine lv_lconst (v := 1) hx hb dX4_power2_12 (by decide) ?_
  refine va_put (D := D) (ci := 4) (v := .long 1) (ty := .long) (C := RX4) (T := TX4) (N := 14) hx hb hts iwX4_power2_4 tyX4 tyX4_ok nmX4 hown hE.1 hP hD hS 0 rfl rfl 11 (by decide) (hts _ lkX4_power2_0) (fun _ h9 => h9) rfl (by decide +kernel) rfl rfl (Nat.le_of_ble_eq_true rfl) dX4_power2_13 (fun H locs hP hD hS => ?_)
  have hP : va_P D vwCl [(mo, .inr (4, [.long zp, .long zr, .long zh, .ref a1, .ref a2, .ref a3, .ref a4, .ref a5, .long zx, .long zy, .int (bI zi), .long 1, .long zv, .int zl])), (a1, .inl (cJ, 16, .inr (.inl zpx))), (a2, .inl (cJ, 16, .inr (.inl zpy))), (a3, .inl (cZ, 16, .inl (fun i => bI (zip i)))), (a4, .inl (cJ, 8, .inr (.inl zvu))), (a5, .inl (cJ, 8, .inr (.inl zvv)))] H := hP
  have hD : va_D A [(mo, .inr (4, [.long zp, .long zr, .long zh, .ref a1, .ref a2, .ref a3, .ref a4, .ref a5, .long zx, .long zy, .int (bI zi), .long 1, .long zv, .int zl])), (a1, .inl (cJ, 16, .inr (.inl zpx))), (a2, .inl (cJ, 16, .inr (.inl zpy))), (a3, .inl (cZ, 16, .inl (fun i => bI (zip i)))), (a4, .inl (cJ, 8, .inr (.inl zvu))), (a5, .inl (cJ, 8, .inr (.inl zvv)))] := hD
  refine lv_aload_n hx hb dX4_power2_16 rfl (lv_at hl 2 rfl) ?_
  refine lv_lconst (v := 0) hx hb dX4_power2_17 (by decide) ?_
  refine va_put (D := D) (ci := 4) (v := .long 0) (ty := .long) (C := RX4) (T := TX4) (N := 14) hx hb hts iwX4_power2_4 tyX4 tyX4_ok nmX4 hown hE.1 hP hD hS 0 rfl rfl 12 (by decide) (hts _ lkX4_power2_1) (fun _ h9 => h9) rfl (by decide +kernel) rfl rfl (Nat.le_of_ble_eq_true rfl) dX4_power2_18 (fun H locs hP hD hS => ?_)
  have hP : va_P D vwCl [(mo, .inr (4, [.long zp, .long zr, .long zh, .ref a1, .ref a2, .ref a3, .ref a4, .ref a5, .long zx, .long zy, .int (bI zi), .long 1, .long 0, .int zl])), (a1, .inl (cJ, 16, .inr (.inl zpx))), (a2, .inl (cJ, 16, .inr (.inl zpy))), (a3, .inl (cZ, 16, .inl (fun i => bI (zip i)))), (a4, .inl (cJ, 8, .inr (.inl zvu))), (a5, .inl (cJ, 8, .inr (.inl zvv)))] H := hP
  have hD : va_D A [(mo, .inr (4, [.long zp, .long zr, .long zh, .ref a1, .ref a2, .ref a3, .ref a4, .ref a5, .long zx, .long zy, .int (bI zi), .long 1, .long 0, .int zl])), (a1, .inl (cJ, 16, .inr (.inl zpx))), (a2, .inl (cJ, 16, .inr (.inl zpy))), (a3, .inl (cZ, 16, .inl (fun i => bI (zip i)))), (a4, .inl (cJ, 8, .inr (.inl zvu))), (a5, .inl (cJ, 8, .inr (.inl zvv)))] := hD
  refine lv_bipush (v := 63) hx hb dX4_power2_21 (by decide) ?_
  refine lv_istore (lv' := [(7, .int 63), (5, .long zv), (3, .long zu), (0, .ref mo), (1, .long q0)]) hx hb dX4_power2_23 hl (by decide) rfl (fun ls hl => ?_)
  exact loop25 q0 zu zv N 63 1 0 h H locs hP hD hS ls (lv_sub hl [3, 4, 2, 1, 0] rfl)
def fX4_line (N : Nat) (zp : Int64) (zx : Int64) (zy : Int64) (zi : Bool) (zu : Int64) (zv : Int64) (zl : Int32) (q0 : Int64) (q1 : Int64) (q2 : Bool) (q3 : Int64) (q4 : Int64) : Option (Int64 × Int64 × Bool × Int64 × Int64 × Int32) :=
  bnd (zl + 1) fun w1 =>
  if (bI zi) = 0 then
    (fX4_plus N zp zx zy zi q0 q1 q2).bind fun (o3, o4, o5) =>
    some (o3, o4, o5, zu, zv, w1)
  else
    if (bI q2) = 0 then
      (fX4_plus N zp zx zy zi q0 q1 q2).bind fun (o8, o9, o10) =>
      some (o8, o9, o10, zu, zv, w1)
    else
      if zx = q0 then
        if zp = 0 then none else
        if (jrem (zy + q1) zp) = 0 then
          (fX4_fit zp ((-q3) - zx)).bind fun r38 =>
          (fX4_multiply2 zp zu zv r38 0).bind fun (o40, o41) =>
          (fX4_plus N zp zx zy zi q0 q1 q2).bind fun (o43, o44, o45) =>
          some (o43, o44, o45, o40, o41, w1)
        else
          (fX4_slope N zp zx zy q0 q1).bind fun r27 =>
          (fX4_fit zp ((jrem (r27 * (jrem (zx + q3) zp)) zp) - zy)).bind fun r29 =>
          (fX4_multiply2 zp zu zv r29 q4).bind fun (o31, o32) =>
          (fX4_plus N zp zx zy zi q0 q1 q2).bind fun (o34, o35, o36) =>
          some (o34, o35, o36, o31, o32, w1)
      else
        (fX4_slope N zp zx zy q0 q1).bind fun r13 =>
        if zp = 0 then none else
        (fX4_fit zp ((jrem (r13 * (jrem (zx + q3) zp)) zp) - zy)).bind fun r16 =>
        (fX4_multiply2 zp zu zv r16 q4).bind fun (o18, o19) =>
        (fX4_plus N zp zx zy zi q0 q1 q2).bind fun (o21, o22, o23) =>
        some (o21, o22, o23, o18, o19, w1)
abbrev rmX4_line : Room := { frames := 5, cells := 0, slots := 0, locals := 133 }
theorem lkX4_line_0 : (.fieldLink RX4 126 "PairingDeskModel" "lines" "I" : Cond) ∈ wsX4_line := by decide +kernel
theorem lkX4_line_1 : (.fieldLink RX4 67 "PairingDeskModel" "is" "Z" : Cond) ∈ wsX4_line := by decide +kernel
theorem lkX4_line_2 : (.fieldLink RX4 61 "PairingDeskModel" "x" "J" : Cond) ∈ wsX4_line := by decide +kernel
theorem lkX4_line_3 : (.fieldLink RX4 64 "PairingDeskModel" "y" "J" : Cond) ∈ wsX4_line := by decide +kernel
theorem lkX4_line_4 : (.fieldLink RX4 28 "PairingDeskModel" "p" "J" : Cond) ∈ wsX4_line := by decide +kernel
theorem iwX4_line_4 : ∀ w ∈ wsX40, w ∈ wsX4_line := by decide +kernel
theorem hdX4_line : KN yX4_line 5 := by decide +kernel
set_option maxHeartbeats 4000000 in
set_option maxRecDepth 100000 in
theorem kX4_line (l : Launch) (D : va_G) (cJ cZ : ClassId) (mo a1 a2 a3 a4 a5 : Nat) (N : Nat) (zp : Int64) (zr : Int64) (zh : Int64) (zx : Int64) (zy : Int64) (zi : Bool) (zu : Int64) (zv : Int64) (zl : Int32) (zpx : Nat → Int64) (zpy : Nat → Int64) (zip : Nat → Bool) (zvu : Nat → Int64) (zvv : Nat → Int64) (q0 : Int64) (q1 : Int64) (q2 : Bool) (q3 : Int64) (q4 : Int64) (sz : Nat) (ozx : Int64) (ozy : Int64) (ozi : Bool) (ozu : Int64) (ozv : Int64) (ozl : Int32) (h : fX4_line N zp zx zy zi zu zv zl q0 q1 q2 q3 q4 = some (ozx, ozy, ozi, ozu, ozv, ozl)) : Met l yX4_line wsX4_line rmX4_line (PE D cJ cZ [.ref mo, .long q0, .long q1, .int (bI q2), .long q3, .long q4] [(mo, .inr (4, [.long zp, .long zr, .long zh, .ref a1, .ref a2, .ref a3, .ref a4, .ref a5, .long zx, .long zy, .int (bI zi), .long zu, .long zv, .int zl])), (a1, .inl (cJ, 16, .inr (.inl zpx))), (a2, .inl (cJ, 16, .inr (.inl zpy))), (a3, .inl (cZ, 16, .inl (fun i => bI (zip i)))), (a4, .inl (cJ, 8, .inr (.inl zvu))), (a5, .inl (cJ, 8, .inr (.inl zvv)))] sz) (QE D (none) [(mo, .inr (4, [.long zp, .long zr, .long zh, .ref a1, .ref a2, .ref a3, .ref a4, .ref a5, .long ozx, .long ozy, .int (bI ozi), .long ozu, .long ozv, .int ozl])), (a1, .inl (cJ, 16, .inr (.inl zpx))), (a2, .inl (cJ, 16, .inr (.inl zpy))), (a3, .inl (cZ, 16, .inl (fun i => bI (zip i)))), (a4, .inl (cJ, 8, .inr (.inl zvu))), (a5, .inl (cJ, 8, .inr (.inl zvv)))] (va_A [(mo, .inr (4, [.long zp, .long zr, .long zh, .ref a1, .ref a2, .ref a3, .ref a4, .ref a5, .long zx, .long zy, .int (bI zi), .long zu, .long zv, .int zl])), (a1, .inl (cJ, 16, .inr (.inl zpx))), (a2, .inl (cJ, 16, .inr (.inl zpy))), (a3, .inl (cZ, 16, .inl (fun i => bI (zip i)))), (a4, .inl (cJ, 8, .inr (.inl zvu))), (a5, .inl (cJ, 8, .inr (.inl zvv)))] sz)) 0 0 (va_A [(mo, .inr (4, [.long zp, .long zr, .long zh, .ref a1, .ref a2, .ref a3, .ref a4, .ref a5, .long zx, .long zy, .int (bI zi), .long zu, .long zv, .int zl])), (a1, .inl (cJ, 16, .inr (.inl zpx))), (a2, .inl (cJ, 16, .inr (.inl zpy))), (a3, .inl (cZ, 16, .inl (fun i => bI (zip i)))), (a4, .inl (cJ, 8, .inr (.inl zvu))), (a5, .inl (cJ, 8, .inr (.inl zvv)))] sz) := by
  refine Met.ofW (cc := cX4_line) (maxL := 13) (ret := none) (by decide) rfl ?_
  intro pg e s m args below meth c s₁ B hml hv
  obtain ⟨rfl, hsz, hP, hE, hD0⟩ := hv
  have hx := B.exec
  have hb := B.bytes
  have hr := B.returns
  have hlocks := B.notSynchronized
  have C0 : CallFix pg m c cX4_line 13 s ([.ref mo, .long q0, .long q1, .int (bI q2), .long q3, .long q4] : List Value).toArray wsX4_line RX4 := ⟨hx, hb, hml, findClass_of_methodNamed B.named, atoms_spec (ws := wsX4_line) B.pre⟩
  have hown := C0.2.2.2.1
  have hts := C0.2.2.2.2
  subst hsz
  have hD := hD0.self (sz := s.heap.size)
  generalize hAe : va_A [(mo, .inr (4, [.long zp, .long zr, .long zh, .ref a1, .ref a2, .ref a3, .ref a4, .ref a5, .long zx, .long zy, .int (bI zi), .long zu, .long zv, .int zl])), (a1, .inl (cJ, 16, .inr (.inl zpx))), (a2, .inl (cJ, 16, .inr (.inl zpy))), (a3, .inl (cZ, 16, .inl (fun i => bI (zip i)))), (a4, .inl (cJ, 8, .inr (.inl zvu))), (a5, .inl (cJ, 8, .inr (.inl zvv)))] s.heap.size = A at hD ⊢
  have hA : ∀ q : Nat, s.heap.size ≤ q → A q := fun q h => by rw [← hAe]; exact Or.inr h
  have hS : va_S A s.heap s.heap [] := va_S.rf
  have hP : va_P D vwCl [(mo, .inr (4, [.long zp, .long zr, .long zh, .ref a1, .ref a2, .ref a3, .ref a4, .ref a5, .long zx, .long zy, .int (bI zi), .long zu, .long zv, .int zl])), (a1, .inl (cJ, 16, .inr (.inl zpx))), (a2, .inl (cJ, 16, .inr (.inl zpy))), (a3, .inl (cZ, 16, .inl (fun i => bI (zip i)))), (a4, .inl (cJ, 8, .inr (.inl zvu))), (a5, .inl (cJ, 8, .inr (.inl zvv)))] s.heap := hP
  have hl := lv_entry ([.ref mo, .long q0, .long q1, .int (bI q2), .long q3, .long q4]) (n := 13) (Nat.le_of_ble_eq_true rfl)
  rw [lg_entry_eq]
  generalize (lg_sl ([.ref mo, .long q0, .long q1, .int (bI q2), .long q3, .long q4]) ++ List.replicate (13 - (lg_sl ([.ref mo, .long q0, .long q1, .int (bI q2), .long q3, .long q4])).length) Slot.unset).toArray = ls at hl ⊢
  have hl : lv_has ls 13 [(0, .ref mo), (1, .long q0), (3, .long q1), (5, .int (bI q2)), (6, .long q3), (8, .long q4)] := hl
  suffices key : ∀ (H : Heap) (locs : List Loc), va_P D vwCl [(mo, .inr (4, [.long zp, .long zr, .long zh, .ref a1, .ref a2, .ref a3, .ref a4, .ref a5, .long zx, .long zy, .int (bI zi), .long zu, .long zv, .int zl])), (a1, .inl (cJ, 16, .inr (.inl zpx))), (a2, .inl (cJ, 16, .inr (.inl zpy))), (a3, .inl (cZ, 16, .inl (fun i => bI (zip i)))), (a4, .inl (cJ, 8, .inr (.inl zvu))), (a5, .inl (cJ, 8, .inr (.inl zvv)))] H → va_D A [(mo, .inr (4, [.long zp, .long zr, .long zh, .ref a1, .ref a2, .ref a3, .ref a4, .ref a5, .long zx, .long zy, .int (bI zi), .long zu, .long zv, .int zl])), (a1, .inl (cJ, 16, .inr (.inl zpx))), (a2, .inl (cJ, 16, .inr (.inl zpy))), (a3, .inl (cZ, 16, .inl (fun i => bI (zip i)))), (a4, .inl (cJ, 8, .inr (.inl zvu))), (a5, .inl (cJ, 8, .inr (.inl zvv)))] → va_S A s.heap H locs → W pg l e (headSpec wsX4_line rmX4_line).room s m ([.ref mo, .long q0, .long q1, .int (bI q2), .long q3, .long q4] : List Value).toArray below meth c H locs 0 0 (MQ below (QE D (none) [(mo, .inr (4, [.long zp, .long zr, .long zh, .ref a1, .ref a2, .ref a3, .ref a4, .ref a5, .long ozx, .long ozy, .int (bI ozi), .long ozu, .long ozv, .int ozl])), (a1, .inl (cJ, 16, .inr (.inl zpx))), (a2, .inl (cJ, 16, .inr (.inl zpy))), (a3, .inl (cZ, 16, .inl (fun i => bI (zip i)))), (a4, .inl (cJ, 8, .inr (.inl zvu))), (a5, .inl (cJ, 8, .inr (.inl zvv)))] A) ([.ref mo, .long q0, .long q1, .int (bI q2), .long q3, .long q4] : List Value).toArray s 0 0 A) (F0 m 0 ls []) from key s.heap [] hP hD hS
  intro H locs hP hD hS
  unfold fX4_line at h
  refine lv_aload_n hx hb dX4_line_0 rfl (lv_at hl 0 rfl) ?_
  refine lv_dup hx hb dX4_line_1 rfl ?_
  refine va_get (D := D) (ci := 4) (v := .int zl) (C := RX4) (T := TX4) (N := 14) hx hb hts iwX4_line_4 hown hE.1 hP 0 rfl rfl 13 (by decide) (hts _ lkX4_line_0) (fun _ h9 => h9) rfl dX4_line_2 ?_
  refine lv_iconst (v := 1) hx hb dX4_line_5 (by decide) ?_
  refine lv_iadd hx hb dX4_line_6 ?_
  obtain ⟨w1, ew1, h⟩ := bnd_s h
  refine ti ew1.symm ?_
  refine va_put (D := D) (ci := 4) (v := .int w1) (ty := .int) (C := RX4) (T := TX4) (N := 14) hx hb hts iwX4_line_4 tyX4 tyX4_ok nmX4 hown hE.1 hP hD hS 0 rfl rfl 13 (by decide) (hts _ lkX4_line_0) (fun _ h9 => h9) rfl (by decide +kernel) rfl rfl (Nat.le_of_ble_eq_true rfl) dX4_line_7 (fun H locs hP hD hS => ?_)
  have hP : va_P D vwCl [(mo, .inr (4, [.long zp, .long zr, .long zh, .ref a1, .ref a2, .ref a3, .ref a4, .ref a5, .long zx, .long zy, .int (bI zi), .long zu, .long zv, .int w1])), (a1, .inl (cJ, 16, .inr (.inl zpx))), (a2, .inl (cJ, 16, .inr (.inl zpy))), (a3, .inl (cZ, 16, .inl (fun i => bI (zip i)))), (a4, .inl (cJ, 8, .inr (.inl zvu))), (a5, .inl (cJ, 8, .inr (.inl zvv)))] H := hP
  have hD : va_D A [(mo, .inr (4, [.long zp, .long zr, .long zh, .ref a1, .ref a2, .ref a3, .ref a4, .ref a5, .long zx, .long zy, .int (bI zi), .long zu, .long zv, .int w1])), (a1, .inl (cJ, 16, .inr (.inl zpx))), (a2, .inl (cJ, 16, .inr (.inl zpy))), (a3, .inl (cZ, 16, .inl (fun i => bI (zip i)))), (a4, .inl (cJ, 8, .inr (.inl zvu))), (a5, .inl (cJ, 8, .inr (.inl zvv)))] := hD
  refine lv_aload_n hx hb dX4_line_10 rfl (lv_at hl 0 rfl) ?_
  refine va_get (D := D) (ci := 4) (v := .int (bI zi)) (C := RX4) (T := TX4) (N := 14) hx hb hts iwX4_line_4 hown hE.1 hP 0 rfl rfl 10 (by decide) (hts _ lkX4_line_1) (fun _ h9 => h9) rfl dX4_line_11 ?_
  refine lv_if_eq (tgt := 51) hx hb dX4_line_14 (by decide) (fun c2 => ?_) (fun c2 => ?_)
  · have h := ite_t c2 h
    refine lv_iconst (v := 0) hx hb dX4_line_51 (by decide) ?_
    refine lv_istore (lv' := [(10, .int 0), (0, .ref mo), (1, .long q0), (3, .long q1), (5, .int (bI q2)), (6, .long q3), (8, .long q4)]) hx hb dX4_line_52 hl (by decide) rfl (fun ls hl => ?_)
    refine lv_iload hx hb dX4_line_54 (lv_at hl 0 rfl) ?_
    refine lv_if_eq (tgt := 79) hx hb dX4_line_56 (by decide) (fun _ => ?_) (fun cc => absurd (by decide) cc)
    refine lv_aload_n hx hb dX4_line_79 rfl (lv_at hl 1 rfl) ?_
    refine va_get (D := D) (ci := 4) (v := .int (bI zi)) (C := RX4) (T := TX4) (N := 14) hx hb hts iwX4_line_4 hown hE.1 hP 0 rfl rfl 10 (by decide) (hts _ lkX4_line_1) (fun _ h9 => h9) rfl dX4_line_80 ?_
    refine lv_if_eq (tgt := 142) hx hb dX4_line_83 (by decide) (fun _ => ?_) (fun cc => absurd c2 cc)
    refine lv_aload_n hx hb dX4_line_142 rfl (lv_at hl 1 rfl) ?_
    refine lv_lload_n hx hb dX4_line_143 rfl (lv_at hl 2 rfl) ?_
    refine lv_lload_n hx hb dX4_line_144 rfl (lv_at hl 3 rfl) ?_
    refine lv_iload hx hb dX4_line_145 (lv_at hl 4 rfl) ?_
    obtain ⟨⟨o3, o4, o5⟩, h6, h⟩ := bind_s h
    try dsimp only at h
    refine kE (wc := [(mo, .inr (4, [.long zp, .long zr, .long zh, .ref a1, .ref a2, .ref a3, .ref a4, .ref a5, .long zx, .long zy, .int (bI zi), .long zu, .long zv, .int w1])), (a1, .inl (cJ, 16, .inr (.inl zpx))), (a2, .inl (cJ, 16, .inr (.inl zpy))), (a3, .inl (cZ, 16, .inl (fun i => bI (zip i)))), (a4, .inl (cJ, 8, .inr (.inl zvu))), (a5, .inl (cJ, 8, .inr (.inl zvv)))]) (wr := []) [0, 1, 2, 3, 4, 5] [] hP hD hS hA rfl rfl rfl (by decide) rfl (eV (As := [.long q0, .long q1, .int (bI q2)]) (rest := []) C0 (kX4_plus l D cJ cZ mo a1 a2 a3 a4 a5 N zp zr zh zx zy zi zu zv w1 zpx zpy zip zvu zvv q0 q1 q2 H.size o3 o4 o5 h6) gX4_line_X4_plus rfl ⟨rfl, rfl⟩ hdX4_plus ⟨Nat.le_of_ble_eq_true rfl, Nat.le_of_ble_eq_true rfl⟩ 4 0 rfl rfl rfl hP hD hE hl rfl rfl (Nat.le_of_ble_eq_true rfl) dX4_line_147 ⟨Nat.zero_le _, Nat.zero_le _⟩) (fun H locs hP hD hS => ?_)
    have hP : va_P D vwCl [(mo, .inr (4, [.long zp, .long zr, .long zh, .ref a1, .ref a2, .ref a3, .ref a4, .ref a5, .long o3, .long o4, .int (bI o5), .long zu, .long zv, .int w1])), (a1, .inl (cJ, 16, .inr (.inl zpx))), (a2, .inl (cJ, 16, .inr (.inl zpy))), (a3, .inl (cZ, 16, .inl (fun i => bI (zip i)))), (a4, .inl (cJ, 8, .inr (.inl zvu))), (a5, .inl (cJ, 8, .inr (.inl zvv)))] H := hP
    have hD : va_D A [(mo, .inr (4, [.long zp, .long zr, .long zh, .ref a1, .ref a2, .ref a3, .ref a4, .ref a5, .long o3, .long o4, .int (bI o5), .long zu, .long zv, .int w1])), (a1, .inl (cJ, 16, .inr (.inl zpx))), (a2, .inl (cJ, 16, .inr (.inl zpy))), (a3, .inl (cZ, 16, .inl (fun i => bI (zip i)))), (a4, .inl (cJ, 8, .inr (.inl zvu))), (a5, .inl (cJ, 8, .inr (.inl zvv)))] := hD
    cases h
    exact rfV hx hb hr hlocks hP hD hS dX4_line_150
  · have h := ite_f c2 h
    refine lv_iload hx hb dX4_line_17 (lv_at hl 3 rfl) ?_
    refine lv_if_eq (tgt := 51) hx hb dX4_line_19 (by decide) (fun c7 => ?_) (fun c7 => ?_)
    · have h := ite_t c7 h
      refine lv_iconst (v := 0) hx hb dX4_line_51 (by decide) ?_
      refine lv_istore (lv' := [(10, .int 0), (0, .ref mo), (1, .long q0), (3, .long q1), (5, .int (bI q2)), (6, .long q3), (8, .long q4)]) hx hb dX4_line_52 hl (by decide) rfl (fun ls hl => ?_)
      refine lv_iload hx hb dX4_line_54 (lv_at hl 0 rfl) ?_
      refine lv_if_eq (tgt := 79) hx hb dX4_line_56 (by decide) (fun _ => ?_) (fun cc => absurd (by decide) cc)
      refine lv_aload_n hx hb dX4_line_79 rfl (lv_at hl 1 rfl) ?_
      refine va_get (D := D) (ci := 4) (v := .int (bI zi)) (C := RX4) (T := TX4) (N := 14) hx hb hts iwX4_line_4 hown hE.1 hP 0 rfl rfl 10 (by decide) (hts _ lkX4_line_1) (fun _ h9 => h9) rfl dX4_line_80 ?_
      refine lv_if_eq (tgt := 142) hx hb dX4_line_83 (by decide) (fun cc => absurd cc c2) (fun _ => ?_)
      refine lv_iload hx hb dX4_line_86 (lv_at hl 4 rfl) ?_
      refine lv_if_eq (tgt := 142) hx hb dX4_line_88 (by decide) (fun _ => ?_) (fun cc => absurd c7 cc)
      refine lv_aload_n hx hb dX4_line_142 rfl (lv_at hl 1 rfl) ?_
      refine lv_lload_n hx hb dX4_line_143 rfl (lv_at hl 2 rfl) ?_
      refine lv_lload_n hx hb dX4_line_144 rfl (lv_at hl 3 rfl) ?_
      refine lv_iload hx hb dX4_line_145 (lv_at hl 4 rfl) ?_
      obtain ⟨⟨o8, o9, o10⟩, h11, h⟩ := bind_s h
      try dsimp only at h
      refine kE (wc := [(mo, .inr (4, [.long zp, .long zr, .long zh, .ref a1, .ref a2, .ref a3, .ref a4, .ref a5, .long zx, .long zy, .int (bI zi), .long zu, .long zv, .int w1])), (a1, .inl (cJ, 16, .inr (.inl zpx))), (a2, .inl (cJ, 16, .inr (.inl zpy))), (a3, .inl (cZ, 16, .inl (fun i => bI (zip i)))), (a4, .inl (cJ, 8, .inr (.inl zvu))), (a5, .inl (cJ, 8, .inr (.inl zvv)))]) (wr := []) [0, 1, 2, 3, 4, 5] [] hP hD hS hA rfl rfl rfl (by decide) rfl (eV (As := [.long q0, .long q1, .int (bI q2)]) (rest := []) C0 (kX4_plus l D cJ cZ mo a1 a2 a3 a4 a5 N zp zr zh zx zy zi zu zv w1 zpx zpy zip zvu zvv q0 q1 q2 H.size o8 o9 o10 h11) gX4_line_X4_plus rfl ⟨rfl, rfl⟩ hdX4_plus ⟨Nat.le_of_ble_eq_true rfl, Nat.le_of_ble_eq_true rfl⟩ 4 0 rfl rfl rfl hP hD hE hl rfl rfl (Nat.le_of_ble_eq_true rfl) dX4_line_147 ⟨Nat.zero_le _, Nat.zero_le _⟩) (fun H locs hP hD hS => ?_)
      have hP : va_P D vwCl [(mo, .inr (4, [.long zp, .long zr, .long zh, .ref a1, .ref a2, .ref a3, .ref a4, .ref a5, .long o8, .long o9, .int (bI o10), .long zu, .long zv, .int w1])), (a1, .inl (cJ, 16, .inr (.inl zpx))), (a2, .inl (cJ, 16, .inr (.inl zpy))), (a3, .inl (cZ, 16, .inl (fun i => bI (zip i)))), (a4, .inl (cJ, 8, .inr (.inl zvu))), (a5, .inl (cJ, 8, .inr (.inl zvv)))] H := hP
      have hD : va_D A [(mo, .inr (4, [.long zp, .long zr, .long zh, .ref a1, .ref a2, .ref a3, .ref a4, .ref a5, .long o8, .long o9, .int (bI o10), .long zu, .long zv, .int w1])), (a1, .inl (cJ, 16, .inr (.inl zpx))), (a2, .inl (cJ, 16, .inr (.inl zpy))), (a3, .inl (cZ, 16, .inl (fun i => bI (zip i)))), (a4, .inl (cJ, 8, .inr (.inl zvu))), (a5, .inl (cJ, 8, .inr (.inl zvv)))] := hD
      cases h
      exact rfV hx hb hr hlocks hP hD hS dX4_line_150
    · have h := ite_f c7 h
      refine lv_aload_n hx hb dX4_line_22 rfl (lv_at hl 0 rfl) ?_
      refine va_get (D := D) (ci := 4) (v := .long zx) (C := RX4) (T := TX4) (N := 14) hx hb hts iwX4_line_4 hown hE.1 hP 0 rfl rfl 8 (by decide) (hts _ lkX4_line_2) (fun _ h9 => h9) rfl dX4_line_23 ?_
      refine lv_lload_n hx hb dX4_line_26 rfl (lv_at hl 1 rfl) ?_
      refine lc_ne (tgt := 51) hx hb dX4_line_27 dX4_line_28 (by decide) (fun c12 => ?_) (fun c12 => ?_)
      · have h := ite_f c12 h
        refine lv_iconst (v := 0) hx hb dX4_line_51 (by decide) ?_
        refine lv_istore (lv' := [(10, .int 0), (0, .ref mo), (1, .long q0), (3, .long q1), (5, .int (bI q2)), (6, .long q3), (8, .long q4)]) hx hb dX4_line_52 hl (by decide) rfl (fun ls hl => ?_)
        refine lv_iload hx hb dX4_line_54 (lv_at hl 0 rfl) ?_
        refine lv_if_eq (tgt := 79) hx hb dX4_line_56 (by decide) (fun _ => ?_) (fun cc => absurd (by decide) cc)
        refine lv_aload_n hx hb dX4_line_79 rfl (lv_at hl 1 rfl) ?_
        refine va_get (D := D) (ci := 4) (v := .int (bI zi)) (C := RX4) (T := TX4) (N := 14) hx hb hts iwX4_line_4 hown hE.1 hP 0 rfl rfl 10 (by decide) (hts _ lkX4_line_1) (fun _ h9 => h9) rfl dX4_line_80 ?_
        refine lv_if_eq (tgt := 142) hx hb dX4_line_83 (by decide) (fun cc => absurd cc c2) (fun _ => ?_)
        refine lv_iload hx hb dX4_line_86 (lv_at hl 4 rfl) ?_
        refine lv_if_eq (tgt := 142) hx hb dX4_line_88 (by decide) (fun cc => absurd cc c7) (fun _ => ?_)
        refine lv_aload_n hx hb dX4_line_91 rfl (lv_at hl 1 rfl) ?_
        refine lv_aload_n hx hb dX4_line_92 rfl (lv_at hl 1 rfl) ?_
        refine va_get (D := D) (ci := 4) (v := .long zx) (C := RX4) (T := TX4) (N := 14) hx hb hts iwX4_line_4 hown hE.1 hP 0 rfl rfl 8 (by decide) (hts _ lkX4_line_2) (fun _ h9 => h9) rfl dX4_line_93 ?_
        refine lv_aload_n hx hb dX4_line_96 rfl (lv_at hl 1 rfl) ?_
        refine va_get (D := D) (ci := 4) (v := .long zy) (C := RX4) (T := TX4) (N := 14) hx hb hts iwX4_line_4 hown hE.1 hP 0 rfl rfl 9 (by decide) (hts _ lkX4_line_3) (fun _ h9 => h9) rfl dX4_line_97 ?_
        refine lv_lload_n hx hb dX4_line_100 rfl (lv_at hl 2 rfl) ?_
        refine lv_lload_n hx hb dX4_line_101 rfl (lv_at hl 3 rfl) ?_
        obtain ⟨r13, h14, h⟩ := bind_s h
        refine kl (kV (As := [.long zx, .long zy, .long q0, .long q1]) (rest := []) C0 (kX4_slope l D cJ cZ mo a1 a2 a3 a4 a5 N zp zr zh zx zy zi zu zv w1 zpx zpy zip zvu zvv zx zy q0 q1 r13 h14) gX4_line_X4_slope rfl ⟨rfl, rfl⟩ hdX4_slope ⟨Nat.le_of_ble_eq_true rfl, Nat.le_of_ble_eq_true rfl⟩ 4 0 rfl rfl rfl hP hE hl rfl rfl (Nat.le_of_ble_eq_true rfl) dX4_line_102 (Nat.zero_le _) (Nat.zero_le _)) ?_
        refine lv_lstore (lv' := [(11, .long r13), (10, .int 0), (0, .ref mo), (1, .long q0), (3, .long q1), (5, .int (bI q2)), (6, .long q3), (8, .long q4)]) hx hb dX4_line_105 hl (by decide) rfl (fun ls hl => ?_)
        refine lv_aload_n hx hb dX4_line_107 rfl (lv_at hl 2 rfl) ?_
        refine lv_aload_n hx hb dX4_line_108 rfl (lv_at hl 2 rfl) ?_
        refine lv_lload hx hb dX4_line_109 (lv_at hl 0 rfl) ?_
        refine lv_aload_n hx hb dX4_line_111 rfl (lv_at hl 2 rfl) ?_
        refine va_get (D := D) (ci := 4) (v := .long zx) (C := RX4) (T := TX4) (N := 14) hx hb hts iwX4_line_4 hown hE.1 hP 0 rfl rfl 8 (by decide) (hts _ lkX4_line_2) (fun _ h9 => h9) rfl dX4_line_112 ?_
        refine lv_lload hx hb dX4_line_115 (lv_at hl 6 rfl) ?_
        refine lv_ladd hx hb dX4_line_117 ?_
        refine lv_aload_n hx hb dX4_line_118 rfl (lv_at hl 2 rfl) ?_
        refine va_get (D := D) (ci := 4) (v := .long zp) (C := RX4) (T := TX4) (N := 14) hx hb hts iwX4_line_4 hown hE.1 hP 0 rfl rfl 0 (by decide) (hts _ lkX4_line_4) (fun _ h9 => h9) rfl dX4_line_119 ?_
        obtain ⟨c15, h⟩ := ite_n h
        refine lv_lremJ hx hb dX4_line_122 c15 ?_
        refine lv_lmul hx hb dX4_line_123 ?_
        refine lv_aload_n hx hb dX4_line_124 rfl (lv_at hl 2 rfl) ?_
        refine va_get (D := D) (ci := 4) (v := .long zp) (C := RX4) (T := TX4) (N := 14) hx hb hts iwX4_line_4 hown hE.1 hP 0 rfl rfl 0 (by decide) (hts _ lkX4_line_4) (fun _ h9 => h9) rfl dX4_line_125 ?_
        refine lv_lremJ hx hb dX4_line_128 c15 ?_
        refine lv_aload_n hx hb dX4_line_129 rfl (lv_at hl 2 rfl) ?_
        refine va_get (D := D) (ci := 4) (v := .long zy) (C := RX4) (T := TX4) (N := 14) hx hb hts iwX4_line_4 hown hE.1 hP 0 rfl rfl 9 (by decide) (hts _ lkX4_line_3) (fun _ h9 => h9) rfl dX4_line_130 ?_
        refine lv_lsub hx hb dX4_line_133 ?_
        obtain ⟨r16, h17, h⟩ := bind_s h
        refine kl (kV (As := [.long ((jrem (r13 * (jrem (zx + q3) zp)) zp) - zy)]) (rest := [.ref mo]) C0 (kX4_fit l D cJ cZ mo a1 a2 a3 a4 a5 zp zr zh zx zy zi zu zv w1 zpx zpy zip zvu zvv ((jrem (r13 * (jrem (zx + q3) zp)) zp) - zy) r16 h17) gX4_line_X4_fit rfl ⟨rfl, rfl⟩ hdX4_fit ⟨Nat.le_of_ble_eq_true rfl, Nat.le_of_ble_eq_true rfl⟩ 4 0 rfl rfl rfl hP hE hl rfl rfl (Nat.le_of_ble_eq_true rfl) dX4_line_134 (Nat.zero_le _) (Nat.zero_le _)) ?_
        refine lv_lload hx hb dX4_line_137 (lv_at hl 7 rfl) ?_
        obtain ⟨⟨o18, o19⟩, h20, h⟩ := bind_s h
        try dsimp only at h
        refine kE (wc := [(mo, .inr (4, [.long zp, .long zr, .long zh, .ref a1, .ref a2, .ref a3, .ref a4, .ref a5, .long zx, .long zy, .int (bI zi), .long zu, .long zv, .int w1])), (a1, .inl (cJ, 16, .inr (.inl zpx))), (a2, .inl (cJ, 16, .inr (.inl zpy))), (a3, .inl (cZ, 16, .inl (fun i => bI (zip i)))), (a4, .inl (cJ, 8, .inr (.inl zvu))), (a5, .inl (cJ, 8, .inr (.inl zvv)))]) (wr := []) [0, 1, 2, 3, 4, 5] [] hP hD hS hA rfl rfl rfl (by decide) rfl (eV (As := [.long r16, .long q4]) (rest := []) C0 (kX4_multiply2 l D cJ cZ mo a1 a2 a3 a4 a5 zp zr zh zx zy zi zu zv w1 zpx zpy zip zvu zvv r16 q4 H.size o18 o19 h20) gX4_line_X4_multiply2 rfl ⟨rfl, rfl⟩ hdX4_multiply2 ⟨Nat.le_of_ble_eq_true rfl, Nat.le_of_ble_eq_true rfl⟩ 4 0 rfl rfl rfl hP hD hE hl rfl rfl (Nat.le_of_ble_eq_true rfl) dX4_line_139 ⟨Nat.zero_le _, Nat.zero_le _⟩) (fun H locs hP hD hS => ?_)
        have hP : va_P D vwCl [(mo, .inr (4, [.long zp, .long zr, .long zh, .ref a1, .ref a2, .ref a3, .ref a4, .ref a5, .long zx, .long zy, .int (bI zi), .long o18, .long o19, .int w1])), (a1, .inl (cJ, 16, .inr (.inl zpx))), (a2, .inl (cJ, 16, .inr (.inl zpy))), (a3, .inl (cZ, 16, .inl (fun i => bI (zip i)))), (a4, .inl (cJ, 8, .inr (.inl zvu))), (a5, .inl (cJ, 8, .inr (.inl zvv)))] H := hP
        have hD : va_D A [(mo, .inr (4, [.long zp, .long zr, .long zh, .ref a1, .ref a2, .ref a3, .ref a4, .ref a5, .long zx, .long zy, .int (bI zi), .long o18, .long o19, .int w1])), (a1, .inl (cJ, 16, .inr (.inl zpx))), (a2, .inl (cJ, 16, .inr (.inl zpy))), (a3, .inl (cZ, 16, .inl (fun i => bI (zip i)))), (a4, .inl (cJ, 8, .inr (.inl zvu))), (a5, .inl (cJ, 8, .inr (.inl zvv)))] := hD
        refine lv_aload_n hx hb dX4_line_142 rfl (lv_at hl 2 rfl) ?_
        refine lv_lload_n hx hb dX4_line_143 rfl (lv_at hl 3 rfl) ?_
        refine lv_lload_n hx hb dX4_line_144 rfl (lv_at hl 4 rfl) ?_
        refine lv_iload hx hb dX4_line_145 (lv_at hl 5 rfl) ?_
        obtain ⟨⟨o21, o22, o23⟩, h24, h⟩ := bind_s h
        try dsimp only at h
        refine kE (wc := [(mo, .inr (4, [.long zp, .long zr, .long zh, .ref a1, .ref a2, .ref a3, .ref a4, .ref a5, .long zx, .long zy, .int (bI zi), .long o18, .long o19, .int w1])), (a1, .inl (cJ, 16, .inr (.inl zpx))), (a2, .inl (cJ, 16, .inr (.inl zpy))), (a3, .inl (cZ, 16, .inl (fun i => bI (zip i)))), (a4, .inl (cJ, 8, .inr (.inl zvu))), (a5, .inl (cJ, 8, .inr (.inl zvv)))]) (wr := []) [0, 1, 2, 3, 4, 5] [] hP hD hS hA rfl rfl rfl (by decide) rfl (eV (As := [.long q0, .long q1, .int (bI q2)]) (rest := []) C0 (kX4_plus l D cJ cZ mo a1 a2 a3 a4 a5 N zp zr zh zx zy zi o18 o19 w1 zpx zpy zip zvu zvv q0 q1 q2 H.size o21 o22 o23 h24) gX4_line_X4_plus rfl ⟨rfl, rfl⟩ hdX4_plus ⟨Nat.le_of_ble_eq_true rfl, Nat.le_of_ble_eq_true rfl⟩ 4 0 rfl rfl rfl hP hD hE hl rfl rfl (Nat.le_of_ble_eq_true rfl) dX4_line_147 ⟨Nat.zero_le _, Nat.zero_le _⟩) (fun H locs hP hD hS => ?_)
        have hP : va_P D vwCl [(mo, .inr (4, [.long zp, .long zr, .long zh, .ref a1, .ref a2, .ref a3, .ref a4, .ref a5, .long o21, .long o22, .int (bI o23), .long o18, .long o19, .int w1])), (a1, .inl (cJ, 16, .inr (.inl zpx))), (a2, .inl (cJ, 16, .inr (.inl zpy))), (a3, .inl (cZ, 16, .inl (fun i => bI (zip i)))), (a4, .inl (cJ, 8, .inr (.inl zvu))), (a5, .inl (cJ, 8, .inr (.inl zvv)))] H := hP
        have hD : va_D A [(mo, .inr (4, [.long zp, .long zr, .long zh, .ref a1, .ref a2, .ref a3, .ref a4, .ref a5, .long o21, .long o22, .int (bI o23), .long o18, .long o19, .int w1])), (a1, .inl (cJ, 16, .inr (.inl zpx))), (a2, .inl (cJ, 16, .inr (.inl zpy))), (a3, .inl (cZ, 16, .inl (fun i => bI (zip i)))), (a4, .inl (cJ, 8, .inr (.inl zvu))), (a5, .inl (cJ, 8, .inr (.inl zvv)))] := hD
        cases h
        exact rfV hx hb hr hlocks hP hD hS dX4_line_150
      · have h := ite_t c12 h
        refine lv_aload_n hx hb dX4_line_31 rfl (lv_at hl 0 rfl) ?_
        refine va_get (D := D) (ci := 4) (v := .long zy) (C := RX4) (T := TX4) (N := 14) hx hb hts iwX4_line_4 hown hE.1 hP 0 rfl rfl 9 (by decide) (hts _ lkX4_line_3) (fun _ h9 => h9) rfl dX4_line_32 ?_
        refine lv_lload_n hx hb dX4_line_35 rfl (lv_at hl 2 rfl) ?_
        refine lv_ladd hx hb dX4_line_36 ?_
        refine lv_aload_n hx hb dX4_line_37 rfl (lv_at hl 0 rfl) ?_
        refine va_get (D := D) (ci := 4) (v := .long zp) (C := RX4) (T := TX4) (N := 14) hx hb hts iwX4_line_4 hown hE.1 hP 0 rfl rfl 0 (by decide) (hts _ lkX4_line_4) (fun _ h9 => h9) rfl dX4_line_38 ?_
        obtain ⟨c25, h⟩ := ite_n h
        refine lv_lremJ hx hb dX4_line_41 c25 ?_
        refine lv_lconst (v := 0) hx hb dX4_line_42 (by decide) ?_
        refine lc_ne (tgt := 51) hx hb dX4_line_43 dX4_line_44 (by decide) (fun c26 => ?_) (fun c26 => ?_)
        · have h := ite_f c26 h
          refine lv_iconst (v := 0) hx hb dX4_line_51 (by decide) ?_
          refine lv_istore (lv' := [(10, .int 0), (0, .ref mo), (1, .long q0), (3, .long q1), (5, .int (bI q2)), (6, .long q3), (8, .long q4)]) hx hb dX4_line_52 hl (by decide) rfl (fun ls hl => ?_)
          refine lv_iload hx hb dX4_line_54 (lv_at hl 0 rfl) ?_
          refine lv_if_eq (tgt := 79) hx hb dX4_line_56 (by decide) (fun _ => ?_) (fun cc => absurd (by decide) cc)
          refine lv_aload_n hx hb dX4_line_79 rfl (lv_at hl 1 rfl) ?_
          refine va_get (D := D) (ci := 4) (v := .int (bI zi)) (C := RX4) (T := TX4) (N := 14) hx hb hts iwX4_line_4 hown hE.1 hP 0 rfl rfl 10 (by decide) (hts _ lkX4_line_1) (fun _ h9 => h9) rfl dX4_line_80 ?_
          refine lv_if_eq (tgt := 142) hx hb dX4_line_83 (by decide) (fun cc => absurd cc c2) (fun _ => ?_)
          refine lv_iload hx hb dX4_line_86 (lv_at hl 4 rfl) ?_
          refine lv_if_eq (tgt := 142) hx hb dX4_line_88 (by decide) (fun cc => absurd cc c7) (fun _ => ?_)
          refine lv_aload_n hx hb dX4_line_91 rfl (lv_at hl 1 rfl) ?_
          refine lv_aload_n hx hb dX4_line_92 rfl (lv_at hl 1 rfl) ?_
          refine va_get (D := D) (ci := 4) (v := .long zx) (C := RX4) (T := TX4) (N := 14) hx hb hts iwX4_line_4 hown hE.1 hP 0 rfl rfl 8 (by decide) (hts _ lkX4_line_2) (fun _ h9 => h9) rfl dX4_line_93 ?_
          refine lv_aload_n hx hb dX4_line_96 rfl (lv_at hl 1 rfl) ?_
          refine va_get (D := D) (ci := 4) (v := .long zy) (C := RX4) (T := TX4) (N := 14) hx hb hts iwX4_line_4 hown hE.1 hP 0 rfl rfl 9 (by decide) (hts _ lkX4_line_3) (fun _ h9 => h9) rfl dX4_line_97 ?_
          refine lv_lload_n hx hb dX4_line_100 rfl (lv_at hl 2 rfl) ?_
          refine lv_lload_n hx hb dX4_line_101 rfl (lv_at hl 3 rfl) ?_
          obtain ⟨r27, h28, h⟩ := bind_s h
          refine kl (kV (As := [.long zx, .long zy, .long q0, .long q1]) (rest := []) C0 (kX4_slope l D cJ cZ mo a1 a2 a3 a4 a5 N zp zr zh zx zy zi zu zv w1 zpx zpy zip zvu zvv zx zy q0 q1 r27 h28) gX4_line_X4_slope rfl ⟨rfl, rfl⟩ hdX4_slope ⟨Nat.le_of_ble_eq_true rfl, Nat.le_of_ble_eq_true rfl⟩ 4 0 rfl rfl rfl hP hE hl rfl rfl (Nat.le_of_ble_eq_true rfl) dX4_line_102 (Nat.zero_le _) (Nat.zero_le _)) ?_
          refine lv_lstore (lv' := [(11, .long r27), (10, .int 0), (0, .ref mo), (1, .long q0), (3, .long q1), (5, .int (bI q2)), (6, .long q3), (8, .long q4)]) hx hb dX4_line_105 hl (by decide) rfl (fun ls hl => ?_)
          refine lv_aload_n hx hb dX4_line_107 rfl (lv_at hl 2 rfl) ?_
          refine lv_aload_n hx hb dX4_line_108 rfl (lv_at hl 2 rfl) ?_
          refine lv_lload hx hb dX4_line_109 (lv_at hl 0 rfl) ?_
          refine lv_aload_n hx hb dX4_line_111 rfl (lv_at hl 2 rfl) ?_
          refine va_get (D := D) (ci := 4) (v := .long zx) (C := RX4) (T := TX4) (N := 14) hx hb hts iwX4_line_4 hown hE.1 hP 0 rfl rfl 8 (by decide) (hts _ lkX4_line_2) (fun _ h9 => h9) rfl dX4_line_112 ?_
          refine lv_lload hx hb dX4_line_115 (lv_at hl 6 rfl) ?_
          refine lv_ladd hx hb dX4_line_117 ?_
          refine lv_aload_n hx hb dX4_line_118 rfl (lv_at hl 2 rfl) ?_
          refine va_get (D := D) (ci := 4) (v := .long zp) (C := RX4) (T := TX4) (N := 14) hx hb hts iwX4_line_4 hown hE.1 hP 0 rfl rfl 0 (by decide) (hts _ lkX4_line_4) (fun _ h9 => h9) rfl dX4_line_119 ?_
          refine lv_lremJ hx hb dX4_line_122 c25 ?_
          refine lv_lmul hx hb dX4_line_123 ?_
          refine lv_aload_n hx hb dX4_line_124 rfl (lv_at hl 2 rfl) ?_
          refine va_get (D := D) (ci := 4) (v := .long zp) (C := RX4) (T := TX4) (N := 14) hx hb hts iwX4_line_4 hown hE.1 hP 0 rfl rfl 0 (by decide) (hts _ lkX4_line_4) (fun _ h9 => h9) rfl dX4_line_125 ?_
          refine lv_lremJ hx hb dX4_line_128 c25 ?_
          refine lv_aload_n hx hb dX4_line_129 rfl (lv_at hl 2 rfl) ?_
          refine va_get (D := D) (ci := 4) (v := .long zy) (C := RX4) (T := TX4) (N := 14) hx hb hts iwX4_line_4 hown hE.1 hP 0 rfl rfl 9 (by decide) (hts _ lkX4_line_3) (fun _ h9 => h9) rfl dX4_line_130 ?_
          refine lv_lsub hx hb dX4_line_133 ?_
          obtain ⟨r29, h30, h⟩ := bind_s h
          refine kl (kV (As := [.long ((jrem (r27 * (jrem (zx + q3) zp)) zp) - zy)]) (rest := [.ref mo]) C0 (kX4_fit l D cJ cZ mo a1 a2 a3 a4 a5 zp zr zh zx zy zi zu zv w1 zpx zpy zip zvu zvv ((jrem (r27 * (jrem (zx + q3) zp)) zp) - zy) r29 h30) gX4_line_X4_fit rfl ⟨rfl, rfl⟩ hdX4_fit ⟨Nat.le_of_ble_eq_true rfl, Nat.le_of_ble_eq_true rfl⟩ 4 0 rfl rfl rfl hP hE hl rfl rfl (Nat.le_of_ble_eq_true rfl) dX4_line_134 (Nat.zero_le _) (Nat.zero_le _)) ?_
          refine lv_lload hx hb dX4_line_137 (lv_at hl 7 rfl) ?_
          obtain ⟨⟨o31, o32⟩, h33, h⟩ := bind_s h
          try dsimp only at h
          refine kE (wc := [(mo, .inr (4, [.long zp, .long zr, .long zh, .ref a1, .ref a2, .ref a3, .ref a4, .ref a5, .long zx, .long zy, .int (bI zi), .long zu, .long zv, .int w1])), (a1, .inl (cJ, 16, .inr (.inl zpx))), (a2, .inl (cJ, 16, .inr (.inl zpy))), (a3, .inl (cZ, 16, .inl (fun i => bI (zip i)))), (a4, .inl (cJ, 8, .inr (.inl zvu))), (a5, .inl (cJ, 8, .inr (.inl zvv)))]) (wr := []) [0, 1, 2, 3, 4, 5] [] hP hD hS hA rfl rfl rfl (by decide) rfl (eV (As := [.long r29, .long q4]) (rest := []) C0 (kX4_multiply2 l D cJ cZ mo a1 a2 a3 a4 a5 zp zr zh zx zy zi zu zv w1 zpx zpy zip zvu zvv r29 q4 H.size o31 o32 h33) gX4_line_X4_multiply2 rfl ⟨rfl, rfl⟩ hdX4_multiply2 ⟨Nat.le_of_ble_eq_true rfl, Nat.le_of_ble_eq_true rfl⟩ 4 0 rfl rfl rfl hP hD hE hl rfl rfl (Nat.le_of_ble_eq_true rfl) dX4_line_139 ⟨Nat.zero_le _, Nat.zero_le _⟩) (fun H locs hP hD hS => ?_)
          have hP : va_P D vwCl [(mo, .inr (4, [.long zp, .long zr, .long zh, .ref a1, .ref a2, .ref a3, .ref a4, .ref a5, .long zx, .long zy, .int (bI zi), .long o31, .long o32, .int w1])), (a1, .inl (cJ, 16, .inr (.inl zpx))), (a2, .inl (cJ, 16, .inr (.inl zpy))), (a3, .inl (cZ, 16, .inl (fun i => bI (zip i)))), (a4, .inl (cJ, 8, .inr (.inl zvu))), (a5, .inl (cJ, 8, .inr (.inl zvv)))] H := hP
          have hD : va_D A [(mo, .inr (4, [.long zp, .long zr, .long zh, .ref a1, .ref a2, .ref a3, .ref a4, .ref a5, .long zx, .long zy, .int (bI zi), .long o31, .long o32, .int w1])), (a1, .inl (cJ, 16, .inr (.inl zpx))), (a2, .inl (cJ, 16, .inr (.inl zpy))), (a3, .inl (cZ, 16, .inl (fun i => bI (zip i)))), (a4, .inl (cJ, 8, .inr (.inl zvu))), (a5, .inl (cJ, 8, .inr (.inl zvv)))] := hD
          refine lv_aload_n hx hb dX4_line_142 rfl (lv_at hl 2 rfl) ?_
          refine lv_lload_n hx hb dX4_line_143 rfl (lv_at hl 3 rfl) ?_
          refine lv_lload_n hx hb dX4_line_144 rfl (lv_at hl 4 rfl) ?_
          refine lv_iload hx hb dX4_line_145 (lv_at hl 5 rfl) ?_
          obtain ⟨⟨o34, o35, o36⟩, h37, h⟩ := bind_s h
          try dsimp only at h
          refine kE (wc := [(mo, .inr (4, [.long zp, .long zr, .long zh, .ref a1, .ref a2, .ref a3, .ref a4, .ref a5, .long zx, .long zy, .int (bI zi), .long o31, .long o32, .int w1])), (a1, .inl (cJ, 16, .inr (.inl zpx))), (a2, .inl (cJ, 16, .inr (.inl zpy))), (a3, .inl (cZ, 16, .inl (fun i => bI (zip i)))), (a4, .inl (cJ, 8, .inr (.inl zvu))), (a5, .inl (cJ, 8, .inr (.inl zvv)))]) (wr := []) [0, 1, 2, 3, 4, 5] [] hP hD hS hA rfl rfl rfl (by decide) rfl (eV (As := [.long q0, .long q1, .int (bI q2)]) (rest := []) C0 (kX4_plus l D cJ cZ mo a1 a2 a3 a4 a5 N zp zr zh zx zy zi o31 o32 w1 zpx zpy zip zvu zvv q0 q1 q2 H.size o34 o35 o36 h37) gX4_line_X4_plus rfl ⟨rfl, rfl⟩ hdX4_plus ⟨Nat.le_of_ble_eq_true rfl, Nat.le_of_ble_eq_true rfl⟩ 4 0 rfl rfl rfl hP hD hE hl rfl rfl (Nat.le_of_ble_eq_true rfl) dX4_line_147 ⟨Nat.zero_le _, Nat.zero_le _⟩) (fun H locs hP hD hS => ?_)
          have hP : va_P D vwCl [(mo, .inr (4, [.long zp, .long zr, .long zh, .ref a1, .ref a2, .ref a3, .ref a4, .ref a5, .long o34, .long o35, .int (bI o36), .long o31, .long o32, .int w1])), (a1, .inl (cJ, 16, .inr (.inl zpx))), (a2, .inl (cJ, 16, .inr (.inl zpy))), (a3, .inl (cZ, 16, .inl (fun i => bI (zip i)))), (a4, .inl (cJ, 8, .inr (.inl zvu))), (a5, .inl (cJ, 8, .inr (.inl zvv)))] H := hP
          have hD : va_D A [(mo, .inr (4, [.long zp, .long zr, .long zh, .ref a1, .ref a2, .ref a3, .ref a4, .ref a5, .long o34, .long o35, .int (bI o36), .long o31, .long o32, .int w1])), (a1, .inl (cJ, 16, .inr (.inl zpx))), (a2, .inl (cJ, 16, .inr (.inl zpy))), (a3, .inl (cZ, 16, .inl (fun i => bI (zip i)))), (a4, .inl (cJ, 8, .inr (.inl zvu))), (a5, .inl (cJ, 8, .inr (.inl zvv)))] := hD
          cases h
          exact rfV hx hb hr hlocks hP hD hS dX4_line_150
        · have h := ite_t c26 h
          refine lv_iconst (v := 1) hx hb dX4_line_47 (by decide) ?_
          refine lv_goto (tgt := 52) hx hb dX4_line_48 (by decide) ?_
          refine lv_istore (lv' := [(10, .int 1), (0, .ref mo), (1, .long q0), (3, .long q1), (5, .int (bI q2)), (6, .long q3), (8, .long q4)]) hx hb dX4_line_52 hl (by decide) rfl (fun ls hl => ?_)
          refine lv_iload hx hb dX4_line_54 (lv_at hl 0 rfl) ?_
          refine lv_if_eq (tgt := 79) hx hb dX4_line_56 (by decide) (fun cc => absurd cc (by decide)) (fun _ => ?_)
          refine lv_aload_n hx hb dX4_line_59 rfl (lv_at hl 1 rfl) ?_
          refine lv_aload_n hx hb dX4_line_60 rfl (lv_at hl 1 rfl) ?_
          refine lv_lload hx hb dX4_line_61 (lv_at hl 5 rfl) ?_
          refine lv_lneg hx hb dX4_line_63 ?_
          refine lv_aload_n hx hb dX4_line_64 rfl (lv_at hl 1 rfl) ?_
          refine va_get (D := D) (ci := 4) (v := .long zx) (C := RX4) (T := TX4) (N := 14) hx hb hts iwX4_line_4 hown hE.1 hP 0 rfl rfl 8 (by decide) (hts _ lkX4_line_2) (fun _ h9 => h9) rfl dX4_line_65 ?_
          refine lv_lsub hx hb dX4_line_68 ?_
          obtain ⟨r38, h39, h⟩ := bind_s h
          refine kl (kV (As := [.long ((-q3) - zx)]) (rest := [.ref mo]) C0 (kX4_fit l D cJ cZ mo a1 a2 a3 a4 a5 zp zr zh zx zy zi zu zv w1 zpx zpy zip zvu zvv ((-q3) - zx) r38 h39) gX4_line_X4_fit rfl ⟨rfl, rfl⟩ hdX4_fit ⟨Nat.le_of_ble_eq_true rfl, Nat.le_of_ble_eq_true rfl⟩ 4 0 rfl rfl rfl hP hE hl rfl rfl (Nat.le_of_ble_eq_true rfl) dX4_line_69 (Nat.zero_le _) (Nat.zero_le _)) ?_
          refine lv_lconst (v := 0) hx hb dX4_line_72 (by decide) ?_
          obtain ⟨⟨o40, o41⟩, h42, h⟩ := bind_s h
          try dsimp only at h
          refine kE (wc := [(mo, .inr (4, [.long zp, .long zr, .long zh, .ref a1, .ref a2, .ref a3, .ref a4, .ref a5, .long zx, .long zy, .int (bI zi), .long zu, .long zv, .int w1])), (a1, .inl (cJ, 16, .inr (.inl zpx))), (a2, .inl (cJ, 16, .inr (.inl zpy))), (a3, .inl (cZ, 16, .inl (fun i => bI (zip i)))), (a4, .inl (cJ, 8, .inr (.inl zvu))), (a5, .inl (cJ, 8, .inr (.inl zvv)))]) (wr := []) [0, 1, 2, 3, 4, 5] [] hP hD hS hA rfl rfl rfl (by decide) rfl (eV (As := [.long r38, .long 0]) (rest := []) C0 (kX4_multiply2 l D cJ cZ mo a1 a2 a3 a4 a5 zp zr zh zx zy zi zu zv w1 zpx zpy zip zvu zvv r38 0 H.size o40 o41 h42) gX4_line_X4_multiply2 rfl ⟨rfl, rfl⟩ hdX4_multiply2 ⟨Nat.le_of_ble_eq_true rfl, Nat.le_of_ble_eq_true rfl⟩ 4 0 rfl rfl rfl hP hD hE hl rfl rfl (Nat.le_of_ble_eq_true rfl) dX4_line_73 ⟨Nat.zero_le _, Nat.zero_le _⟩) (fun H locs hP hD hS => ?_)
          have hP : va_P D vwCl [(mo, .inr (4, [.long zp, .long zr, .long zh, .ref a1, .ref a2, .ref a3, .ref a4, .ref a5, .long zx, .long zy, .int (bI zi), .long o40, .long o41, .int w1])), (a1, .inl (cJ, 16, .inr (.inl zpx))), (a2, .inl (cJ, 16, .inr (.inl zpy))), (a3, .inl (cZ, 16, .inl (fun i => bI (zip i)))), (a4, .inl (cJ, 8, .inr (.inl zvu))), (a5, .inl (cJ, 8, .inr (.inl zvv)))] H := hP
          have hD : va_D A [(mo, .inr (4, [.long zp, .long zr, .long zh, .ref a1, .ref a2, .ref a3, .ref a4, .ref a5, .long zx, .long zy, .int (bI zi), .long o40, .long o41, .int w1])), (a1, .inl (cJ, 16, .inr (.inl zpx))), (a2, .inl (cJ, 16, .inr (.inl zpy))), (a3, .inl (cZ, 16, .inl (fun i => bI (zip i)))), (a4, .inl (cJ, 8, .inr (.inl zvu))), (a5, .inl (cJ, 8, .inr (.inl zvv)))] := hD
          refine lv_goto (tgt := 142) hx hb dX4_line_76 (by decide) ?_
          refine lv_aload_n hx hb dX4_line_142 rfl (lv_at hl 1 rfl) ?_
          refine lv_lload_n hx hb dX4_line_143 rfl (lv_at hl 2 rfl) ?_
          refine lv_lload_n hx hb dX4_line_144 rfl (lv_at hl 3 rfl) ?_
          refine lv_iload hx hb dX4_line_145 (lv_at hl 4 rfl) ?_
          obtain ⟨⟨o43, o44, o45⟩, h46, h⟩ := bind_s h
          try dsimp only at h
          refine kE (wc := [(mo, .inr (4, [.long zp, .long zr, .long zh, .ref a1, .ref a2, .ref a3, .ref a4, .ref a5, .long zx, .long zy, .int (bI zi), .long o40, .long o41, .int w1])), (a1, .inl (cJ, 16, .inr (.inl zpx))), (a2, .inl (cJ, 16, .inr (.inl zpy))), (a3, .inl (cZ, 16, .inl (fun i => bI (zip i)))), (a4, .inl (cJ, 8, .inr (.inl zvu))), (a5, .inl (cJ, 8, .inr (.inl zvv)))]) (wr := []) [0, 1, 2, 3, 4, 5] [] hP hD hS hA rfl rfl rfl (by decide) rfl (eV (As := [.long q0, .long q1, .int (bI q2)]) (rest := []) C0 (kX4_plus l D cJ cZ mo a1 a2 a3 a4 a5 N zp zr zh zx zy zi o40 o41 w1 zpx zpy zip zvu zvv q0 q1 q2 H.size o43 o44 o45 h46) gX4_line_X4_plus rfl ⟨rfl, rfl⟩ hdX4_plus ⟨Nat.le_of_ble_eq_true rfl, Nat.le_of_ble_eq_true rfl⟩ 4 0 rfl rfl rfl hP hD hE hl rfl rfl (Nat.le_of_ble_eq_true rfl) dX4_line_147 ⟨Nat.zero_le _, Nat.zero_le _⟩) (fun H locs hP hD hS => ?_)
          have hP : va_P D vwCl [(mo, .inr (4, [.long zp, .long zr, .long zh, .ref a1, .ref a2, .ref a3, .ref a4, .ref a5, .long o43, .long o44, .int (bI o45), .long o40, .long o41, .int w1])), (a1, .inl (cJ, 16, .inr (.inl zpx))), (a2, .inl (cJ, 16, .inr (.inl zpy))), (a3, .inl (cZ, 16, .inl (fun i => bI (zip i)))), (a4, .inl (cJ, 8, .inr (.inl zvu))), (a5, .inl (cJ, 8, .inr (.inl zvv)))] H := hP
          have hD : va_D A [(mo, .inr (4, [.long zp, .long zr, .long zh, .ref a1, .ref a2, .ref a3, .ref a4, .ref a5, .long o43, .long o44, .int (bI o45), .long o40, .long o41, .int w1])), (a1, .inl (cJ, 16, .inr (.inl zpx))), (a2, .inl (cJ, 16, .inr (.inl zpy))), (a3, .inl (cZ, 16, .inl (fun i => bI (zip i)))), (a4, .inl (cJ, 8, .inr (.inl zvu))), (a5, .inl (cJ, 8, .inr (.inl zvv)))] := hD
          cases h
          exact rfV hx hb hr hlocks hP hD hS dX4_line_150
def fX4_pairOf_68 (N : Nat) (zp : Int64) (zr : Int64) (l1 : Int64) (l3 : Int64) (l6 : Int64) (l8 : Int64) : Nat → Int32 → Int64 → Int64 → Bool → Int64 → Int64 → Int32 → Option (Int64 × Int64 × Bool × Int64 × Int64 × Int32)
  | 0, _, _, _, _, _, _, _ => none
  | n + 1, l11, zx, zy, zi, zu, zv, zl =>
    if l11 < 0 then
      if zr = 0 then none else
      (fX4_power2 N zp zu zv (((zp * zp) - 1) / zr)).bind fun (o7, o8) =>
      some (zx, zy, zi, o7, o8, zl)
    else
      (fX4_multiply2 zp zu zv zu zv).bind fun (o10, o11) =>
      (fX4_line N zp zx zy zi o10 o11 zl zx zy zi l6 l8).bind fun (o13, o14, o15, o16, o17, o18) =>
      if ((jshr zr l11) &&& 1) = 1 then
        (fX4_line N zp o13 o14 o15 o16 o17 o18 l1 l3 true l6 l8).bind fun (o22, o23, o24, o25, o26, o27) =>
        bnd (l11 + (-1)) fun w29 =>
        fX4_pairOf_68 N zp zr l1 l3 l6 l8 n w29 o22 o23 o24 o25 o26 o27
      else
        bnd (l11 + (-1)) fun w21 =>
        fX4_pairOf_68 N zp zr l1 l3 l6 l8 n w21 o13 o14 o15 o16 o17 o18
def fX4_pairOf_45 (N : Nat) (zp : Int64) (zr : Int64) (l1 : Int64) (l3 : Int64) (l6 : Int64) (l8 : Int64) : Nat → Int32 → Int64 → Int64 → Bool → Int64 → Int64 → Int32 → Option (Int64 × Int64 × Bool × Int64 × Int64 × Int32)
  | 0, _, _, _, _, _, _, _ => none
  | n + 1, l11, zx, zy, zi, zu, zv, zl =>
    if ((jshr zr l11) &&& 1) = 0 then
      bnd (l11 + (-1)) fun w30 =>
      fX4_pairOf_45 N zp zr l1 l3 l6 l8 n w30 zx zy zi zu zv zl
    else
      bnd (l11 + (-1)) fun w4 =>
      fX4_pairOf_68 N zp zr l1 l3 l6 l8 N w4 zx zy zi zu zv zl
def fX4_pairOf (N : Nat) (zp : Int64) (zr : Int64) (zx : Int64) (zy : Int64) (zi : Bool) (zu : Int64) (zv : Int64) (zl : Int32) (q0 : Int64) (q1 : Int64) (q2 : Bool) (q3 : Int64) (q4 : Int64) (q5 : Bool) : Option (Int64 × Int64 × Bool × Int64 × Int64 × Int32) :=
  if (bI q2) = 0 then
    some (zx, zy, zi, 1, 0, 0)
  else
    if (bI q5) = 0 then
      some (zx, zy, zi, 1, 0, 0)
    else
      fX4_pairOf_45 N zp zr q0 q1 q3 q4 N 62 q0 q1 true 1 0 0
abbrev rmX4_pairOf : Room := { frames := 6, cells := 0, slots := 0, locals := 165 }
theorem lkX4_pairOf_0 : (.fieldLink RX4 116 "PairingDeskModel" "u" "J" : Cond) ∈ wsX4_pairOf := by decide +kernel
theorem lkX4_pairOf_1 : (.fieldLink RX4 119 "PairingDeskModel" "v" "J" : Cond) ∈ wsX4_pairOf := by decide +kernel
theorem lkX4_pairOf_2 : (.fieldLink RX4 126 "PairingDeskModel" "lines" "I" : Cond) ∈ wsX4_pairOf := by decide +kernel
theorem lkX4_pairOf_3 : (.fieldLink RX4 61 "PairingDeskModel" "x" "J" : Cond) ∈ wsX4_pairOf := by decide +kernel
theorem lkX4_pairOf_4 : (.fieldLink RX4 64 "PairingDeskModel" "y" "J" : Cond) ∈ wsX4_pairOf := by decide +kernel
theorem lkX4_pairOf_5 : (.fieldLink RX4 67 "PairingDeskModel" "is" "Z" : Cond) ∈ wsX4_pairOf := by decide +kernel
theorem lkX4_pairOf_6 : (.fieldLink RX4 48 "PairingDeskModel" "\x72" "J" : Cond) ∈ wsX4_pairOf := by decide +kernel
theorem lkX4_pairOf_7 : (.fieldLink RX4 28 "PairingDeskModel" "p" "J" : Cond) ∈ wsX4_pairOf := by decide +kernel
theorem iwX4_pairOf_4 : ∀ w ∈ wsX40, w ∈ wsX4_pairOf := by decide +kernel
theorem hdX4_pairOf : KN yX4_pairOf 6 := by decide +kernel
set_option maxHeartbeats 4000000 in
set_option maxRecDepth 100000 in
theorem kX4_pairOf (l : Launch) (D : va_G) (cJ cZ : ClassId) (mo a1 a2 a3 a4 a5 : Nat) (N : Nat) (zp : Int64) (zr : Int64) (zh : Int64) (zx : Int64) (zy : Int64) (zi : Bool) (zu : Int64) (zv : Int64) (zl : Int32) (zpx : Nat → Int64) (zpy : Nat → Int64) (zip : Nat → Bool) (zvu : Nat → Int64) (zvv : Nat → Int64) (q0 : Int64) (q1 : Int64) (q2 : Bool) (q3 : Int64) (q4 : Int64) (q5 : Bool) (sz : Nat) (ozx : Int64) (ozy : Int64) (ozi : Bool) (ozu : Int64) (ozv : Int64) (ozl : Int32) (h : fX4_pairOf N zp zr zx zy zi zu zv zl q0 q1 q2 q3 q4 q5 = some (ozx, ozy, ozi, ozu, ozv, ozl)) : Met l yX4_pairOf wsX4_pairOf rmX4_pairOf (PE D cJ cZ [.ref mo, .long q0, .long q1, .int (bI q2), .long q3, .long q4, .int (bI q5)] [(mo, .inr (4, [.long zp, .long zr, .long zh, .ref a1, .ref a2, .ref a3, .ref a4, .ref a5, .long zx, .long zy, .int (bI zi), .long zu, .long zv, .int zl])), (a1, .inl (cJ, 16, .inr (.inl zpx))), (a2, .inl (cJ, 16, .inr (.inl zpy))), (a3, .inl (cZ, 16, .inl (fun i => bI (zip i)))), (a4, .inl (cJ, 8, .inr (.inl zvu))), (a5, .inl (cJ, 8, .inr (.inl zvv)))] sz) (QE D (none) [(mo, .inr (4, [.long zp, .long zr, .long zh, .ref a1, .ref a2, .ref a3, .ref a4, .ref a5, .long ozx, .long ozy, .int (bI ozi), .long ozu, .long ozv, .int ozl])), (a1, .inl (cJ, 16, .inr (.inl zpx))), (a2, .inl (cJ, 16, .inr (.inl zpy))), (a3, .inl (cZ, 16, .inl (fun i => bI (zip i)))), (a4, .inl (cJ, 8, .inr (.inl zvu))), (a5, .inl (cJ, 8, .inr (.inl zvv)))] (va_A [(mo, .inr (4, [.long zp, .long zr, .long zh, .ref a1, .ref a2, .ref a3, .ref a4, .ref a5, .long zx, .long zy, .int (bI zi), .long zu, .long zv, .int zl])), (a1, .inl (cJ, 16, .inr (.inl zpx))), (a2, .inl (cJ, 16, .inr (.inl zpy))), (a3, .inl (cZ, 16, .inl (fun i => bI (zip i)))), (a4, .inl (cJ, 8, .inr (.inl zvu))), (a5, .inl (cJ, 8, .inr (.inl zvv)))] sz)) 0 0 (va_A [(mo, .inr (4, [.long zp, .long zr, .long zh, .ref a1, .ref a2, .ref a3, .ref a4, .ref a5, .long zx, .long zy, .int (bI zi), .long zu, .long zv, .int zl])), (a1, .inl (cJ, 16, .inr (.inl zpx))), (a2, .inl (cJ, 16, .inr (.inl zpy))), (a3, .inl (cZ, 16, .inl (fun i => bI (zip i)))), (a4, .inl (cJ, 8, .inr (.inl zvu))), (a5, .inl (cJ, 8, .inr (.inl zvv)))] sz) := by
  refine Met.ofW (cc := cX4_pairOf) (maxL := 12) (ret := none) (by decide) rfl ?_
  intro pg e s m args below meth c s₁ B hml hv
  obtain ⟨rfl, hsz, hP, hE, hD0⟩ := hv
  have hx := B.exec
  have hb := B.bytes
  have hr := B.returns
  have hlocks := B.notSynchronized
  have C0 : CallFix pg m c cX4_pairOf 12 s ([.ref mo, .long q0, .long q1, .int (bI q2), .long q3, .long q4, .int (bI q5)] : List Value).toArray wsX4_pairOf RX4 := ⟨hx, hb, hml, findClass_of_methodNamed B.named, atoms_spec (ws := wsX4_pairOf) B.pre⟩
  have hown := C0.2.2.2.1
  have hts := C0.2.2.2.2
  subst hsz
  have hD := hD0.self (sz := s.heap.size)
  generalize hAe : va_A [(mo, .inr (4, [.long zp, .long zr, .long zh, .ref a1, .ref a2, .ref a3, .ref a4, .ref a5, .long zx, .long zy, .int (bI zi), .long zu, .long zv, .int zl])), (a1, .inl (cJ, 16, .inr (.inl zpx))), (a2, .inl (cJ, 16, .inr (.inl zpy))), (a3, .inl (cZ, 16, .inl (fun i => bI (zip i)))), (a4, .inl (cJ, 8, .inr (.inl zvu))), (a5, .inl (cJ, 8, .inr (.inl zvv)))] s.heap.size = A at hD ⊢
  have hA : ∀ q : Nat, s.heap.size ≤ q → A q := fun q h => by rw [← hAe]; exact Or.inr h
  have hS : va_S A s.heap s.heap [] := va_S.rf
  have hP : va_P D vwCl [(mo, .inr (4, [.long zp, .long zr, .long zh, .ref a1, .ref a2, .ref a3, .ref a4, .ref a5, .long zx, .long zy, .int (bI zi), .long zu, .long zv, .int zl])), (a1, .inl (cJ, 16, .inr (.inl zpx))), (a2, .inl (cJ, 16, .inr (.inl zpy))), (a3, .inl (cZ, 16, .inl (fun i => bI (zip i)))), (a4, .inl (cJ, 8, .inr (.inl zvu))), (a5, .inl (cJ, 8, .inr (.inl zvv)))] s.heap := hP
  have hl := lv_entry ([.ref mo, .long q0, .long q1, .int (bI q2), .long q3, .long q4, .int (bI q5)]) (n := 12) (Nat.le_of_ble_eq_true rfl)
  rw [lg_entry_eq]
  generalize (lg_sl ([.ref mo, .long q0, .long q1, .int (bI q2), .long q3, .long q4, .int (bI q5)]) ++ List.replicate (12 - (lg_sl ([.ref mo, .long q0, .long q1, .int (bI q2), .long q3, .long q4, .int (bI q5)])).length) Slot.unset).toArray = ls at hl ⊢
  have hl : lv_has ls 12 [(0, .ref mo), (1, .long q0), (3, .long q1), (5, .int (bI q2)), (6, .long q3), (8, .long q4), (10, .int (bI q5))] := hl
  have loop68 : ∀ (l1 : Int64) (l3 : Int64) (l6 : Int64) (l8 : Int64), ∀ (n : Nat) (l11 : Int32) (zx : Int64) (zy : Int64) (zi : Bool) (zu : Int64) (zv : Int64) (zl : Int32), fX4_pairOf_68 N zp zr l1 l3 l6 l8 n l11 zx zy zi zu zv zl = some (ozx, ozy, ozi, ozu, ozv, ozl) → ∀ (H : Heap) (locs : List Loc), va_P D vwCl [(mo, .inr (4, [.long zp, .long zr, .long zh, .ref a1, .ref a2, .ref a3, .ref a4, .ref a5, .long zx, .long zy, .int (bI zi), .long zu, .long zv, .int zl])), (a1, .inl (cJ, 16, .inr (.inl zpx))), (a2, .inl (cJ, 16, .inr (.inl zpy))), (a3, .inl (cZ, 16, .inl (fun i => bI (zip i)))), (a4, .inl (cJ, 8, .inr (.inl zvu))), (a5, .inl (cJ, 8, .inr (.inl zvv)))] H → va_D A [(mo, .inr (4, [.long zp, .long zr, .long zh, .ref a1, .ref a2, .ref a3, .ref a4, .ref a5, .long zx, .long zy, .int (bI zi), .long zu, .long zv, .int zl])), (a1, .inl (cJ, 16, .inr (.inl zpx))), (a2, .inl (cJ, 16, .inr (.inl zpy))), (a3, .inl (cZ, 16, .inl (fun i => bI (zip i)))), (a4, .inl (cJ, 8, .inr (.inl zvu))), (a5, .inl (cJ, 8, .inr (.inl zvv)))] → va_S A s.heap H locs → ∀ ls : Array Slot, lv_has ls 12 [(0, .ref mo), (1, .long l1), (3, .long l3), (6, .long l6), (8, .long l8), (11, .int l11)] → W pg l e (headSpec wsX4_pairOf rmX4_pairOf).room s m ([.ref mo, .long q0, .long q1, .int (bI q2), .long q3, .long q4, .int (bI q5)] : List Value).toArray below meth c H locs 0 0 (MQ below (QE D (none) [(mo, .inr (4, [.long zp, .long zr, .long zh, .ref a1, .ref a2, .ref a3, .ref a4, .ref a5, .long ozx, .long ozy, .int (bI ozi), .long ozu, .long ozv, .int ozl])), (a1, .inl (cJ, 16, .inr (.inl zpx))), (a2, .inl (cJ, 16, .inr (.inl zpy))), (a3, .inl (cZ, 16, .inl (fun i => bI (zip i)))), (a4, .inl (cJ, 8, .inr (.inl zvu))), (a5, .inl (cJ, 8, .inr (.inl zvv)))] A) ([.ref mo, .long q0, .long q1, .int (bI q2), .long q3, .long q4, .int (bI q5)] : List Value).toArray s 0 0 A) (F0 m 68 ls []) := by
    intro l1 l3 l6 l8
    intro n
    induction n with
    | zero =>
      intro l11 zx zy zi zu zv zl h
      cases h
    | succ n ih =>
      intro l11 zx zy zi zu zv zl h H locs hP hD hS ls hl
      rw [fX4_pairOf_68] at h
      refine lv_iload hx hb dX4_pairOf_68 (lv_at hl 5 rfl) ?_
      refine lv_if_lt (tgt := 136) hx hb dX4_pairOf_70 (by decide) (fun c5 => ?_) (fun c5 => ?_)
      · have h := ite_t c5 h
        refine lv_aload_n hx hb dX4_pairOf_136 rfl (lv_at hl 0 rfl) ?_
        refine lv_aload_n hx hb dX4_pairOf_137 rfl (lv_at hl 0 rfl) ?_
        refine va_get (D := D) (ci := 4) (v := .long zp) (C := RX4) (T := TX4) (N := 14) hx hb hts iwX4_pairOf_4 hown hE.1 hP 0 rfl rfl 0 (by decide) (hts _ lkX4_pairOf_7) (fun _ h9 => h9) rfl dX4_pairOf_138 ?_
        refine lv_aload_n hx hb dX4_pairOf_141 rfl (lv_at hl 0 rfl) ?_
        refine va_get (D := D) (ci := 4) (v := .long zp) (C := RX4) (T := TX4) (N := 14) hx hb hts iwX4_pairOf_4 hown hE.1 hP 0 rfl rfl 0 (by decide) (hts _ lkX4_pairOf_7) (fun _ h9 => h9) rfl dX4_pairOf_142 ?_
        refine lv_lmul hx hb dX4_pairOf_145 ?_
        refine lv_lconst (v := 1) hx hb dX4_pairOf_146 (by decide) ?_
        refine lv_lsub hx hb dX4_pairOf_147 ?_
        refine lv_aload_n hx hb dX4_pairOf_148 rfl (lv_at hl 0 rfl) ?_
        refine va_get (D := D) (ci := 4) (v := .long zr) (C := RX4) (T := TX4) (N := 14) hx hb hts iwX4_pairOf_4 hown hE.1 hP 0 rfl rfl 1 (by decide) (hts _ lkX4_pairOf_6) (fun _ h9 => h9) rfl dX4_pairOf_149 ?_
        obtain ⟨c6, h⟩ := ite_n h
        refine lv_ldiv hx hb dX4_pairOf_152 c6 ?_
        obtain ⟨⟨o7, o8⟩, h9, h⟩ := bind_s h
        try dsimp only at h
        refine kE (wc := [(mo, .inr (4, [.long zp, .long zr, .long zh, .ref a1, .ref a2, .ref a3, .ref a4, .ref a5, .long zx, .long zy, .int (bI zi), .long zu, .long zv, .int zl])), (a1, .inl (cJ, 16, .inr (.inl zpx))), (a2, .inl (cJ, 16, .inr (.inl zpy))), (a3, .inl (cZ, 16, .inl (fun i => bI (zip i)))), (a4, .inl (cJ, 8, .inr (.inl zvu))), (a5, .inl (cJ, 8, .inr (.inl zvv)))]) (wr := []) [0, 1, 2, 3, 4, 5] [] hP hD hS hA rfl rfl rfl (by decide) rfl (eV (As := [.long (((zp * zp) - 1) / zr)]) (rest := []) C0 (kX4_power2 l D cJ cZ mo a1 a2 a3 a4 a5 N zp zr zh zx zy zi zu zv zl zpx zpy zip zvu zvv (((zp * zp) - 1) / zr) H.size o7 o8 h9) gX4_pairOf_X4_power2 rfl ⟨rfl, rfl⟩ hdX4_power2 ⟨Nat.le_of_ble_eq_true rfl, Nat.le_of_ble_eq_true rfl⟩ 4 0 rfl rfl rfl hP hD hE hl rfl rfl (Nat.le_of_ble_eq_true rfl) dX4_pairOf_153 ⟨Nat.zero_le _, Nat.zero_le _⟩) (fun H locs hP hD hS => ?_)
        have hP : va_P D vwCl [(mo, .inr (4, [.long zp, .long zr, .long zh, .ref a1, .ref a2, .ref a3, .ref a4, .ref a5, .long zx, .long zy, .int (bI zi), .long o7, .long o8, .int zl])), (a1, .inl (cJ, 16, .inr (.inl zpx))), (a2, .inl (cJ, 16, .inr (.inl zpy))), (a3, .inl (cZ, 16, .inl (fun i => bI (zip i)))), (a4, .inl (cJ, 8, .inr (.inl zvu))), (a5, .inl (cJ, 8, .inr (.inl zvv)))] H := hP
        have hD : va_D A [(mo, .inr (4, [.long zp, .long zr, .long zh, .ref a1, .ref a2, .ref a3, .ref a4, .ref a5, .long zx, .long zy, .int (bI zi), .long o7, .long o8, .int zl])), (a1, .inl (cJ, 16, .inr (.inl zpx))), (a2, .inl (cJ, 16, .inr (.inl zpy))), (a3, .inl (cZ, 16, .inl (fun i => bI (zip i)))), (a4, .inl (cJ, 8, .inr (.inl zvu))), (a5, .inl (cJ, 8, .inr (.inl zvv)))] := hD
        cases h
        exact rfV hx hb hr hlocks hP hD hS dX4_pairOf_156
      · have h := ite_f c5 h
        refine lv_aload_n hx hb dX4_pairOf_73 rfl (lv_at hl 0 rfl) ?_
        refine lv_aload_n hx hb dX4_pairOf_74 rfl (lv_at hl 0 rfl) ?_
        refine va_get (D := D) (ci := 4) (v := .long zu) (C := RX4) (T := TX4) (N := 14) hx hb hts iwX4_pairOf_4 hown hE.1 hP 0 rfl rfl 11 (by decide) (hts _ lkX4_pairOf_0) (fun _ h9 => h9) rfl dX4_pairOf_75 ?_
        refine lv_aload_n hx hb dX4_pairOf_78 rfl (lv_at hl 0 rfl) ?_
        refine va_get (D := D) (ci := 4) (v := .long zv) (C := RX4) (T := TX4) (N := 14) hx hb hts iwX4_pairOf_4 hown hE.1 hP 0 rfl rfl 12 (by decide) (hts _ lkX4_pairOf_1) (fun _ h9 => h9) rfl dX4_pairOf_79 ?_
        obtain ⟨⟨o10, o11⟩, h12, h⟩ := bind_s h
        try dsimp only at h
        refine kE (wc := [(mo, .inr (4, [.long zp, .long zr, .long zh, .ref a1, .ref a2, .ref a3, .ref a4, .ref a5, .long zx, .long zy, .int (bI zi), .long zu, .long zv, .int zl])), (a1, .inl (cJ, 16, .inr (.inl zpx))), (a2, .inl (cJ, 16, .inr (.inl zpy))), (a3, .inl (cZ, 16, .inl (fun i => bI (zip i)))), (a4, .inl (cJ, 8, .inr (.inl zvu))), (a5, .inl (cJ, 8, .inr (.inl zvv)))]) (wr := []) [0, 1, 2, 3, 4, 5] [] hP hD hS hA rfl rfl rfl (by decide) rfl (eV (As := [.long zu, .long zv]) (rest := []) C0 (kX4_multiply2 l D cJ cZ mo a1 a2 a3 a4 a5 zp zr zh zx zy zi zu zv zl zpx zpy zip zvu zvv zu zv H.size o10 o11 h12) gX4_pairOf_X4_multiply2 rfl ⟨rfl, rfl⟩ hdX4_multiply2 ⟨Nat.le_of_ble_eq_true rfl, Nat.le_of_ble_eq_true rfl⟩ 4 0 rfl rfl rfl hP hD hE hl rfl rfl (Nat.le_of_ble_eq_true rfl) dX4_pairOf_82 ⟨Nat.zero_le _, Nat.zero_le _⟩) (fun H locs hP hD hS => ?_)
        have hP : va_P D vwCl [(mo, .inr (4, [.long zp, .long zr, .long zh, .ref a1, .ref a2, .ref a3, .ref a4, .ref a5, .long zx, .long zy, .int (bI zi), .long o10, .long o11, .int zl])), (a1, .inl (cJ, 16, .inr (.inl zpx))), (a2, .inl (cJ, 16, .inr (.inl zpy))), (a3, .inl (cZ, 16, .inl (fun i => bI (zip i)))), (a4, .inl (cJ, 8, .inr (.inl zvu))), (a5, .inl (cJ, 8, .inr (.inl zvv)))] H := hP
        have hD : va_D A [(mo, .inr (4, [.long zp, .long zr, .long zh, .ref a1, .ref a2, .ref a3, .ref a4, .ref a5, .long zx, .long zy, .int (bI zi), .long o10, .long o11, .int zl])), (a1, .inl (cJ, 16, .inr (.inl zpx))), (a2, .inl (cJ, 16, .inr (.inl zpy))), (a3, .inl (cZ, 16, .inl (fun i => bI (zip i)))), (a4, .inl (cJ, 8, .inr (.inl zvu))), (a5, .inl (cJ, 8, .inr (.inl zvv)))] := hD
        refine lv_aload_n hx hb dX4_pairOf_85 rfl (lv_at hl 0 rfl) ?_
        refine lv_aload_n hx hb dX4_pairOf_86 rfl (lv_at hl 0 rfl) ?_
        refine va_get (D := D) (ci := 4) (v := .long zx) (C := RX4) (T := TX4) (N := 14) hx hb hts iwX4_pairOf_4 hown hE.1 hP 0 rfl rfl 8 (by decide) (hts _ lkX4_pairOf_3) (fun _ h9 => h9) rfl dX4_pairOf_87 ?_
        refine lv_aload_n hx hb dX4_pairOf_90 rfl (lv_at hl 0 rfl) ?_
        refine va_get (D := D) (ci := 4) (v := .long zy) (C := RX4) (T := TX4) (N := 14) hx hb hts iwX4_pairOf_4 hown hE.1 hP 0 rfl rfl 9 (by decide) (hts _ lkX4_pairOf_4) (fun _ h9 => h9) rfl dX4_pairOf_91 ?_
        refine lv_aload_n hx hb dX4_pairOf_94 rfl (lv_at hl 0 rfl) ?_
        refine va_get (D := D) (ci := 4) (v := .int (bI zi)) (C := RX4) (T := TX4) (N := 14) hx hb hts iwX4_pairOf_4 hown hE.1 hP 0 rfl rfl 10 (by decide) (hts _ lkX4_pairOf_5) (fun _ h9 => h9) rfl dX4_pairOf_95 ?_
        refine lv_lload hx hb dX4_pairOf_98 (lv_at hl 3 rfl) ?_
        refine lv_lload hx hb dX4_pairOf_100 (lv_at hl 4 rfl) ?_
        obtain ⟨⟨o13, o14, o15, o16, o17, o18⟩, h19, h⟩ := bind_s h
        try dsimp only at h
        refine kE (wc := [(mo, .inr (4, [.long zp, .long zr, .long zh, .ref a1, .ref a2, .ref a3, .ref a4, .ref a5, .long zx, .long zy, .int (bI zi), .long o10, .long o11, .int zl])), (a1, .inl (cJ, 16, .inr (.inl zpx))), (a2, .inl (cJ, 16, .inr (.inl zpy))), (a3, .inl (cZ, 16, .inl (fun i => bI (zip i)))), (a4, .inl (cJ, 8, .inr (.inl zvu))), (a5, .inl (cJ, 8, .inr (.inl zvv)))]) (wr := []) [0, 1, 2, 3, 4, 5] [] hP hD hS hA rfl rfl rfl (by decide) rfl (eV (As := [.long zx, .long zy, .int (bI zi), .long l6, .long l8]) (rest := []) C0 (kX4_line l D cJ cZ mo a1 a2 a3 a4 a5 N zp zr zh zx zy zi o10 o11 zl zpx zpy zip zvu zvv zx zy zi l6 l8 H.size o13 o14 o15 o16 o17 o18 h19) gX4_pairOf_X4_line rfl ⟨rfl, rfl⟩ hdX4_line ⟨Nat.le_of_ble_eq_true rfl, Nat.le_of_ble_eq_true rfl⟩ 4 0 rfl rfl rfl hP hD hE hl rfl rfl (Nat.le_of_ble_eq_true rfl) dX4_pairOf_102 ⟨Nat.zero_le _, Nat.zero_le _⟩) (fun H locs hP hD hS => ?_)
        have hP : va_P D vwCl [(mo, .inr (4, [.long zp, .long zr, .long zh, .ref a1, .ref a2, .ref a3, .ref a4, .ref a5, .long o13, .long o14, .int (bI o15), .long o16, .long o17, .int o18])), (a1, .inl (cJ, 16, .inr (.inl zpx))), (a2, .inl (cJ, 16, .inr (.inl zpy))), (a3, .inl (cZ, 16, .inl (fun i => bI (zip i)))), (a4, .inl (cJ, 8, .inr (.inl zvu))), (a5, .inl (cJ, 8, .inr (.inl zvv)))] H := hP
        have hD : va_D A [(mo, .inr (4, [.long zp, .long zr, .long zh, .ref a1, .ref a2, .ref a3, .ref a4, .ref a5, .long o13, .long o14, .int (bI o15), .long o16, .long o17, .int o18])), (a1, .inl (cJ, 16, .inr (.inl zpx))), (a2, .inl (cJ, 16, .inr (.inl zpy))), (a3, .inl (cZ, 16, .inl (fun i => bI (zip i)))), (a4, .inl (cJ, 8, .inr (.inl zvu))), (a5, .inl (cJ, 8, .inr (.inl zvv)))] := hD
        refine lv_aload_n hx hb dX4_pairOf_105 rfl (lv_at hl 0 rfl) ?_
        refine va_get (D := D) (ci := 4) (v := .long zr) (C := RX4) (T := TX4) (N := 14) hx hb hts iwX4_pairOf_4 hown hE.1 hP 0 rfl rfl 1 (by decide) (hts _ lkX4_pairOf_6) (fun _ h9 => h9) rfl dX4_pairOf_106 ?_
        refine lv_iload hx hb dX4_pairOf_109 (lv_at hl 5 rfl) ?_
        refine lv_lshr (v := jshr zr l11) hx hb dX4_pairOf_111 rfl ?_
        refine lv_lconst (v := 1) hx hb dX4_pairOf_112 (by decide) ?_
        refine lv_land hx hb dX4_pairOf_113 ?_
        refine lv_lconst (v := 1) hx hb dX4_pairOf_114 (by decide) ?_
        refine lc_ne (tgt := 130) hx hb dX4_pairOf_115 dX4_pairOf_116 (by decide) (fun c20 => ?_) (fun c20 => ?_)
        · have h := ite_f c20 h
          obtain ⟨w21, ew21, h⟩ := bnd_s h
          refine lv_iinc (v := w21) (lv' := [(11, .int w21), (0, .ref mo), (1, .long l1), (3, .long l3), (6, .long l6), (8, .long l8)]) hx hb dX4_pairOf_130 hl (k := 5) rfl (by rw [ew21]; rfl) (by decide) rfl (fun ls hl => ?_)
          refine lv_goto (tgt := 68) hx hb dX4_pairOf_133 (by decide) ?_
          exact ih w21 o13 o14 o15 o16 o17 o18 h H locs hP hD hS ls (lv_sub hl [1, 2, 3, 4, 5, 0] rfl)
        · have h := ite_t c20 h
          refine lv_aload_n hx hb dX4_pairOf_119 rfl (lv_at hl 0 rfl) ?_
          refine lv_lload_n hx hb dX4_pairOf_120 rfl (lv_at hl 1 rfl) ?_
          refine lv_lload_n hx hb dX4_pairOf_121 rfl (lv_at hl 2 rfl) ?_
          refine lv_iconst (v := 1) hx hb dX4_pairOf_122 (by decide) ?_
          refine lv_lload hx hb dX4_pairOf_123 (lv_at hl 3 rfl) ?_
          refine lv_lload hx hb dX4_pairOf_125 (lv_at hl 4 rfl) ?_
          obtain ⟨⟨o22, o23, o24, o25, o26, o27⟩, h28, h⟩ := bind_s h
          try dsimp only at h
          refine kE (wc := [(mo, .inr (4, [.long zp, .long zr, .long zh, .ref a1, .ref a2, .ref a3, .ref a4, .ref a5, .long o13, .long o14, .int (bI o15), .long o16, .long o17, .int o18])), (a1, .inl (cJ, 16, .inr (.inl zpx))), (a2, .inl (cJ, 16, .inr (.inl zpy))), (a3, .inl (cZ, 16, .inl (fun i => bI (zip i)))), (a4, .inl (cJ, 8, .inr (.inl zvu))), (a5, .inl (cJ, 8, .inr (.inl zvv)))]) (wr := []) [0, 1, 2, 3, 4, 5] [] hP hD hS hA rfl rfl rfl (by decide) rfl (eV (As := [.long l1, .long l3, .int (bI true), .long l6, .long l8]) (rest := []) C0 (kX4_line l D cJ cZ mo a1 a2 a3 a4 a5 N zp zr zh o13 o14 o15 o16 o17 o18 zpx zpy zip zvu zvv l1 l3 true l6 l8 H.size o22 o23 o24 o25 o26 o27 h28) gX4_pairOf_X4_line rfl ⟨rfl, rfl⟩ hdX4_line ⟨Nat.le_of_ble_eq_true rfl, Nat.le_of_ble_eq_true rfl⟩ 4 0 rfl rfl rfl hP hD hE hl rfl rfl (Nat.le_of_ble_eq_true rfl) dX4_pairOf_127 ⟨Nat.zero_le _, Nat.zero_le _⟩) (fun H locs hP hD hS => ?_)
          have hP : va_P D vwCl [(mo, .inr (4, [.long zp, .long zr, .long zh, .ref a1, .ref a2, .ref a3, .ref a4, .ref a5, .long o22, .long o23, .int (bI o24), .long o25, .long o26, .int o27])), (a1, .inl (cJ, 16, .inr (.inl zpx))), (a2, .inl (cJ, 16, .inr (.inl zpy))), (a3, .inl (cZ, 16, .inl (fun i => bI (zip i)))), (a4, .inl (cJ, 8, .inr (.inl zvu))), (a5, .inl (cJ, 8, .inr (.inl zvv)))] H := hP
          have hD : va_D A [(mo, .inr (4, [.long zp, .long zr, .long zh, .ref a1, .ref a2, .ref a3, .ref a4, .ref a5, .long o22, .long o23, .int (bI o24), .long o25, .long o26, .int o27])), (a1, .inl (cJ, 16, .inr (.inl zpx))), (a2, .inl (cJ, 16, .inr (.inl zpy))), (a3, .inl (cZ, 16, .inl (fun i => bI (zip i)))), (a4, .inl (cJ, 8, .inr (.inl zvu))), (a5, .inl (cJ, 8, .inr (.inl zvv)))] := hD
          obtain ⟨w29, ew29, h⟩ := bnd_s h
          refine lv_iinc (v := w29) (lv' := [(11, .int w29), (0, .ref mo), (1, .long l1), (3, .long l3), (6, .long l6), (8, .long l8)]) hx hb dX4_pairOf_130 hl (k := 5) rfl (by rw [ew29]; rfl) (by decide) rfl (fun ls hl => ?_)
          refine lv_goto (tgt := 68) hx hb dX4_pairOf_133 (by decide) ?_
          exact ih w29 o22 o23 o24 o25 o26 o27 h H locs hP hD hS ls (lv_sub hl [1, 2, 3, 4, 5, 0] rfl)
  have loop45 : ∀ (l1 : Int64) (l3 : Int64) (l6 : Int64) (l8 : Int64), ∀ (n : Nat) (l11 : Int32) (zx : Int64) (zy : Int64) (zi : Bool) (zu : Int64) (zv : Int64) (zl : Int32), fX4_pairOf_45 N zp zr l1 l3 l6 l8 n l11 zx zy zi zu zv zl = some (ozx, ozy, ozi, ozu, ozv, ozl) → ∀ (H : Heap) (locs : List Loc), va_P D vwCl [(mo, .inr (4, [.long zp, .long zr, .long zh, .ref a1, .ref a2, .ref a3, .ref a4, .ref a5, .long zx, .long zy, .int (bI zi), .long zu, .long zv, .int zl])), (a1, .inl (cJ, 16, .inr (.inl zpx))), (a2, .inl (cJ, 16, .inr (.inl zpy))), (a3, .inl (cZ, 16, .inl (fun i => bI (zip i)))), (a4, .inl (cJ, 8, .inr (.inl zvu))), (a5, .inl (cJ, 8, .inr (.inl zvv)))] H → va_D A [(mo, .inr (4, [.long zp, .long zr, .long zh, .ref a1, .ref a2, .ref a3, .ref a4, .ref a5, .long zx, .long zy, .int (bI zi), .long zu, .long zv, .int zl])), (a1, .inl (cJ, 16, .inr (.inl zpx))), (a2, .inl (cJ, 16, .inr (.inl zpy))), (a3, .inl (cZ, 16, .inl (fun i => bI (zip i)))), (a4, .inl (cJ, 8, .inr (.inl zvu))), (a5, .inl (cJ, 8, .inr (.inl zvv)))] → va_S A s.heap H locs → ∀ ls : Array Slot, lv_has ls 12 [(0, .ref mo), (1, .long l1), (3, .long l3), (6, .long l6), (8, .long l8), (11, .int l11)] → W pg l e (headSpec wsX4_pairOf rmX4_pairOf).room s m ([.ref mo, .long q0, .long q1, .int (bI q2), .long q3, .long q4, .int (bI q5)] : List Value).toArray below meth c H locs 0 0 (MQ below (QE D (none) [(mo, .inr (4, [.long zp, .long zr, .long zh, .ref a1, .ref a2, .ref a3, .ref a4, .ref a5, .long ozx, .long ozy, .int (bI ozi), .long ozu, .long ozv, .int ozl])), (a1, .inl (cJ, 16, .inr (.inl zpx))), (a2, .inl (cJ, 16, .inr (.inl zpy))), (a3, .inl (cZ, 16, .inl (fun i => bI (zip i)))), (a4, .inl (cJ, 8, .inr (.inl zvu))), (a5, .inl (cJ, 8, .inr (.inl zvv)))] A) ([.ref mo, .long q0, .long q1, .int (bI q2), .long q3, .long q4, .int (bI q5)] : List Value).toArray s 0 0 A) (F0 m 45 ls []) := by
    intro l1 l3 l6 l8
    intro n
    induction n with
    | zero =>
      intro l11 zx zy zi zu zv zl h
      cases h
    | succ n ih =>
      intro l11 zx zy zi zu zv zl h H locs hP hD hS ls hl
      rw [fX4_pairOf_45] at h
      refine lv_aload_n hx hb dX4_pairOf_45 rfl (lv_at hl 0 rfl) ?_
      refine va_get (D := D) (ci := 4) (v := .long zr) (C := RX4) (T := TX4) (N := 14) hx hb hts iwX4_pairOf_4 hown hE.1 hP 0 rfl rfl 1 (by decide) (hts _ lkX4_pairOf_6) (fun _ h9 => h9) rfl dX4_pairOf_46 ?_
      refine lv_iload hx hb dX4_pairOf_49 (lv_at hl 5 rfl) ?_
      refine lv_lshr (v := jshr zr l11) hx hb dX4_pairOf_51 rfl ?_
      refine lv_lconst (v := 1) hx hb dX4_pairOf_52 (by decide) ?_
      refine lv_land hx hb dX4_pairOf_53 ?_
      refine lv_lconst (v := 0) hx hb dX4_pairOf_54 (by decide) ?_
      refine lc_ne (tgt := 65) hx hb dX4_pairOf_55 dX4_pairOf_56 (by decide) (fun c3 => ?_) (fun c3 => ?_)
      · have h := ite_f c3 h
        obtain ⟨w4, ew4, h⟩ := bnd_s h
        refine lv_iinc (v := w4) (lv' := [(11, .int w4), (0, .ref mo), (1, .long l1), (3, .long l3), (6, .long l6), (8, .long l8)]) hx hb dX4_pairOf_65 hl (k := 5) rfl (by rw [ew4]; rfl) (by decide) rfl (fun ls hl => ?_)
        exact loop68 l1 l3 l6 l8 N w4 zx zy zi zu zv zl h H locs hP hD hS ls (lv_sub hl [1, 2, 3, 4, 5, 0] rfl)
      · have h := ite_t c3 h
        obtain ⟨w30, ew30, h⟩ := bnd_s h
        refine lv_iinc (v := w30) (lv' := [(11, .int w30), (0, .ref mo), (1, .long l1), (3, .long l3), (6, .long l6), (8, .long l8)]) hx hb dX4_pairOf_59 hl (k := 5) rfl (by rw [ew30]; rfl) (by decide) rfl (fun ls hl => ?_)
        refine lv_goto (tgt := 45) hx hb dX4_pairOf_62 (by decide) ?_
        exact ih w30 zx zy zi zu zv zl h H locs hP hD hS ls (lv_sub hl [1, 2, 3, 4, 5, 0] rfl)
  suffices key : ∀ (H : Heap) (locs : List Loc), va_P D vwCl [(mo, .inr (4, [.long zp, .long zr, .long zh, .ref a1, .ref a2, .ref a3, .ref a4, .ref a5, .long zx, .long zy, .int (bI zi), .long zu, .long zv, .int zl])), (a1, .inl (cJ, 16, .inr (.inl zpx))), (a2, .inl (cJ, 16, .inr (.inl zpy))), (a3, .inl (cZ, 16, .inl (fun i => bI (zip i)))), (a4, .inl (cJ, 8, .inr (.inl zvu))), (a5, .inl (cJ, 8, .inr (.inl zvv)))] H → va_D A [(mo, .inr (4, [.long zp, .long zr, .long zh, .ref a1, .ref a2, .ref a3, .ref a4, .ref a5, .long zx, .long zy, .int (bI zi), .long zu, .long zv, .int zl])), (a1, .inl (cJ, 16, .inr (.inl zpx))), (a2, .inl (cJ, 16, .inr (.inl zpy))), (a3, .inl (cZ, 16, .inl (fun i => bI (zip i)))), (a4, .inl (cJ, 8, .inr (.inl zvu))), (a5, .inl (cJ, 8, .inr (.inl zvv)))] → va_S A s.heap H locs → W pg l e (headSpec wsX4_pairOf rmX4_pairOf).room s m ([.ref mo, .long q0, .long q1, .int (bI q2), .long q3, .long q4, .int (bI q5)] : List Value).toArray below meth c H locs 0 0 (MQ below (QE D (none) [(mo, .inr (4, [.long zp, .long zr, .long zh, .ref a1, .ref a2, .ref a3, .ref a4, .ref a5, .long ozx, .long ozy, .int (bI ozi), .long ozu, .long ozv, .int ozl])), (a1, .inl (cJ, 16, .inr (.inl zpx))), (a2, .inl (cJ, 16, .inr (.inl zpy))), (a3, .inl (cZ, 16, .inl (fun i => bI (zip i)))), (a4, .inl (cJ, 8, .inr (.inl zvu))), (a5, .inl (cJ, 8, .inr (.inl zvv)))] A) ([.ref mo, .long q0, .long q1, .int (bI q2), .long q3, .long q4, .int (bI q5)] : List Value).toArray s 0 0 A) (F0 m 0 ls []) from key s.heap [] hP hD hS
  intro H locs hP hD hS
  unfold fX4_pairOf at h
  refine lv_aload_n hx hb dX4_pairOf_0 rfl (lv_at hl 0 rfl) ?_
  refine lv_lconst (v := 1) hx hb dX4_pairOf_1 (by decide) ?_
  refine va_put (D := D) (ci := 4) (v := .long 1) (ty := .long) (C := RX4) (T := TX4) (N := 14) hx hb hts iwX4_pairOf_4 tyX4 tyX4_ok nmX4 hown hE.1 hP hD hS 0 rfl rfl 11 (by decide) (hts _ lkX4_pairOf_0) (fun _ h9 => h9) rfl (by decide +kernel) rfl rfl (Nat.le_of_ble_eq_true rfl) dX4_pairOf_2 (fun H locs hP hD hS => ?_)
  have hP : va_P D vwCl [(mo, .inr (4, [.long zp, .long zr, .long zh, .ref a1, .ref a2, .ref a3, .ref a4, .ref a5, .long zx, .long zy, .int (bI zi), .long 1, .long zv, .int zl])), (a1, .inl (cJ, 16, .inr (.inl zpx))), (a2, .inl (cJ, 16, .inr (.inl zpy))), (a3, .inl (cZ, 16, .inl (fun i => bI (zip i)))), (a4, .inl (cJ, 8, .inr (.inl zvu))), (a5, .inl (cJ, 8, .inr (.inl zvv)))] H := hP
  have hD : va_D A [(mo, .inr (4, [.long zp, .long zr, .long zh, .ref a1, .ref a2, .ref a3, .ref a4, .ref a5, .long zx, .long zy, .int (bI zi), .long 1, .long zv, .int zl])), (a1, .inl (cJ, 16, .inr (.inl zpx))), (a2, .inl (cJ, 16, .inr (.inl zpy))), (a3, .inl (cZ, 16, .inl (fun i => bI (zip i)))), (a4, .inl (cJ, 8, .inr (.inl zvu))), (a5, .inl (cJ, 8, .inr (.inl zvv)))] := hD
  refine lv_aload_n hx hb dX4_pairOf_5 rfl (lv_at hl 0 rfl) ?_
  refine lv_lconst (v := 0) hx hb dX4_pairOf_6 (by decide) ?_
  refine va_put (D := D) (ci := 4) (v := .long 0) (ty := .long) (C := RX4) (T := TX4) (N := 14) hx hb hts iwX4_pairOf_4 tyX4 tyX4_ok nmX4 hown hE.1 hP hD hS 0 rfl rfl 12 (by decide) (hts _ lkX4_pairOf_1) (fun _ h9 => h9) rfl (by decide +kernel) rfl rfl (Nat.le_of_ble_eq_true rfl) dX4_pairOf_7 (fun H locs hP hD hS => ?_)
  have hP : va_P D vwCl [(mo, .inr (4, [.long zp, .long zr, .long zh, .ref a1, .ref a2, .ref a3, .ref a4, .ref a5, .long zx, .long zy, .int (bI zi), .long 1, .long 0, .int zl])), (a1, .inl (cJ, 16, .inr (.inl zpx))), (a2, .inl (cJ, 16, .inr (.inl zpy))), (a3, .inl (cZ, 16, .inl (fun i => bI (zip i)))), (a4, .inl (cJ, 8, .inr (.inl zvu))), (a5, .inl (cJ, 8, .inr (.inl zvv)))] H := hP
  have hD : va_D A [(mo, .inr (4, [.long zp, .long zr, .long zh, .ref a1, .ref a2, .ref a3, .ref a4, .ref a5, .long zx, .long zy, .int (bI zi), .long 1, .long 0, .int zl])), (a1, .inl (cJ, 16, .inr (.inl zpx))), (a2, .inl (cJ, 16, .inr (.inl zpy))), (a3, .inl (cZ, 16, .inl (fun i => bI (zip i)))), (a4, .inl (cJ, 8, .inr (.inl zvu))), (a5, .inl (cJ, 8, .inr (.inl zvv)))] := hD
  refine lv_aload_n hx hb dX4_pairOf_10 rfl (lv_at hl 0 rfl) ?_
  refine lv_iconst (v := 0) hx hb dX4_pairOf_11 (by decide) ?_
  refine va_put (D := D) (ci := 4) (v := .int 0) (ty := .int) (C := RX4) (T := TX4) (N := 14) hx hb hts iwX4_pairOf_4 tyX4 tyX4_ok nmX4 hown hE.1 hP hD hS 0 rfl rfl 13 (by decide) (hts _ lkX4_pairOf_2) (fun _ h9 => h9) rfl (by decide +kernel) rfl rfl (Nat.le_of_ble_eq_true rfl) dX4_pairOf_12 (fun H locs hP hD hS => ?_)
  have hP : va_P D vwCl [(mo, .inr (4, [.long zp, .long zr, .long zh, .ref a1, .ref a2, .ref a3, .ref a4, .ref a5, .long zx, .long zy, .int (bI zi), .long 1, .long 0, .int 0])), (a1, .inl (cJ, 16, .inr (.inl zpx))), (a2, .inl (cJ, 16, .inr (.inl zpy))), (a3, .inl (cZ, 16, .inl (fun i => bI (zip i)))), (a4, .inl (cJ, 8, .inr (.inl zvu))), (a5, .inl (cJ, 8, .inr (.inl zvv)))] H := hP
  have hD : va_D A [(mo, .inr (4, [.long zp, .long zr, .long zh, .ref a1, .ref a2, .ref a3, .ref a4, .ref a5, .long zx, .long zy, .int (bI zi), .long 1, .long 0, .int 0])), (a1, .inl (cJ, 16, .inr (.inl zpx))), (a2, .inl (cJ, 16, .inr (.inl zpy))), (a3, .inl (cZ, 16, .inl (fun i => bI (zip i)))), (a4, .inl (cJ, 8, .inr (.inl zvu))), (a5, .inl (cJ, 8, .inr (.inl zvv)))] := hD
  refine lv_iload hx hb dX4_pairOf_15 (lv_at hl 3 rfl) ?_
  refine lv_if_eq (tgt := 25) hx hb dX4_pairOf_17 (by decide) (fun c1 => ?_) (fun c1 => ?_)
  · have h := ite_t c1 h
    cases h
    exact rfV hx hb hr hlocks hP hD hS dX4_pairOf_25
  · have h := ite_f c1 h
    refine lv_iload hx hb dX4_pairOf_20 (lv_at hl 6 rfl) ?_
    refine lv_if_ne (tgt := 26) hx hb dX4_pairOf_22 (by decide) (fun c2 => ?_) (fun c2 => ?_)
    · have h := ite_f c2 h
      refine lv_aload_n hx hb dX4_pairOf_26 rfl (lv_at hl 0 rfl) ?_
      refine lv_lload_n hx hb dX4_pairOf_27 rfl (lv_at hl 1 rfl) ?_
      refine va_put (D := D) (ci := 4) (v := .long q0) (ty := .long) (C := RX4) (T := TX4) (N := 14) hx hb hts iwX4_pairOf_4 tyX4 tyX4_ok nmX4 hown hE.1 hP hD hS 0 rfl rfl 8 (by decide) (hts _ lkX4_pairOf_3) (fun _ h9 => h9) rfl (by decide +kernel) rfl rfl (Nat.le_of_ble_eq_true rfl) dX4_pairOf_28 (fun H locs hP hD hS => ?_)
      have hP : va_P D vwCl [(mo, .inr (4, [.long zp, .long zr, .long zh, .ref a1, .ref a2, .ref a3, .ref a4, .ref a5, .long q0, .long zy, .int (bI zi), .long 1, .long 0, .int 0])), (a1, .inl (cJ, 16, .inr (.inl zpx))), (a2, .inl (cJ, 16, .inr (.inl zpy))), (a3, .inl (cZ, 16, .inl (fun i => bI (zip i)))), (a4, .inl (cJ, 8, .inr (.inl zvu))), (a5, .inl (cJ, 8, .inr (.inl zvv)))] H := hP
      have hD : va_D A [(mo, .inr (4, [.long zp, .long zr, .long zh, .ref a1, .ref a2, .ref a3, .ref a4, .ref a5, .long q0, .long zy, .int (bI zi), .long 1, .long 0, .int 0])), (a1, .inl (cJ, 16, .inr (.inl zpx))), (a2, .inl (cJ, 16, .inr (.inl zpy))), (a3, .inl (cZ, 16, .inl (fun i => bI (zip i)))), (a4, .inl (cJ, 8, .inr (.inl zvu))), (a5, .inl (cJ, 8, .inr (.inl zvv)))] := hD
      refine lv_aload_n hx hb dX4_pairOf_31 rfl (lv_at hl 0 rfl) ?_
      refine lv_lload_n hx hb dX4_pairOf_32 rfl (lv_at hl 2 rfl) ?_
      refine va_put (D := D) (ci := 4) (v := .long q1) (ty := .long) (C := RX4) (T := TX4) (N := 14) hx hb hts iwX4_pairOf_4 tyX4 tyX4_ok nmX4 hown hE.1 hP hD hS 0 rfl rfl 9 (by decide) (hts _ lkX4_pairOf_4) (fun _ h9 => h9) rfl (by decide +kernel) rfl rfl (Nat.le_of_ble_eq_true rfl) dX4_pairOf_33 (fun H locs hP hD hS => ?_)
      have hP : va_P D vwCl [(mo, .inr (4, [.long zp, .long zr, .long zh, .ref a1, .ref a2, .ref a3, .ref a4, .ref a5, .long q0, .long q1, .int (bI zi), .long 1, .long 0, .int 0])), (a1, .inl (cJ, 16, .inr (.inl zpx))), (a2, .inl (cJ, 16, .inr (.inl zpy))), (a3, .inl (cZ, 16, .inl (fun i => bI (zip i)))), (a4, .inl (cJ, 8, .inr (.inl zvu))), (a5, .inl (cJ, 8, .inr (.inl zvv)))] H := hP
      have hD : va_D A [(mo, .inr (4, [.long zp, .long zr, .long zh, .ref a1, .ref a2, .ref a3, .ref a4, .ref a5, .long q0, .long q1, .int (bI zi), .long 1, .long 0, .int 0])), (a1, .inl (cJ, 16, .inr (.inl zpx))), (a2, .inl (cJ, 16, .inr (.inl zpy))), (a3, .inl (cZ, 16, .inl (fun i => bI (zip i)))), (a4, .inl (cJ, 8, .inr (.inl zvu))), (a5, .inl (cJ, 8, .inr (.inl zvv)))] := hD
      refine lv_aload_n hx hb dX4_pairOf_36 rfl (lv_at hl 0 rfl) ?_
      refine lv_iconst (v := 1) hx hb dX4_pairOf_37 (by decide) ?_
      refine va_put (D := D) (ci := 4) (v := .int (bI true)) (ty := .boolean) (C := RX4) (T := TX4) (N := 14) hx hb hts iwX4_pairOf_4 tyX4 tyX4_ok nmX4 hown hE.1 hP hD hS 0 rfl rfl 10 (by decide) (hts _ lkX4_pairOf_5) (fun _ h9 => h9) rfl (by decide +kernel) (narv_bI _) (fits_bI _) (Nat.le_of_ble_eq_true rfl) dX4_pairOf_38 (fun H locs hP hD hS => ?_)
      have hP : va_P D vwCl [(mo, .inr (4, [.long zp, .long zr, .long zh, .ref a1, .ref a2, .ref a3, .ref a4, .ref a5, .long q0, .long q1, .int (bI true), .long 1, .long 0, .int 0])), (a1, .inl (cJ, 16, .inr (.inl zpx))), (a2, .inl (cJ, 16, .inr (.inl zpy))), (a3, .inl (cZ, 16, .inl (fun i => bI (zip i)))), (a4, .inl (cJ, 8, .inr (.inl zvu))), (a5, .inl (cJ, 8, .inr (.inl zvv)))] H := hP
      have hD : va_D A [(mo, .inr (4, [.long zp, .long zr, .long zh, .ref a1, .ref a2, .ref a3, .ref a4, .ref a5, .long q0, .long q1, .int (bI true), .long 1, .long 0, .int 0])), (a1, .inl (cJ, 16, .inr (.inl zpx))), (a2, .inl (cJ, 16, .inr (.inl zpy))), (a3, .inl (cZ, 16, .inl (fun i => bI (zip i)))), (a4, .inl (cJ, 8, .inr (.inl zvu))), (a5, .inl (cJ, 8, .inr (.inl zvv)))] := hD
      refine lv_bipush (v := 62) hx hb dX4_pairOf_41 (by decide) ?_
      refine lv_istore (lv' := [(11, .int 62), (0, .ref mo), (1, .long q0), (3, .long q1), (5, .int (bI q2)), (6, .long q3), (8, .long q4), (10, .int (bI q5))]) hx hb dX4_pairOf_43 hl (by decide) rfl (fun ls hl => ?_)
      exact loop45 q0 q1 q3 q4 N 62 q0 q1 true 1 0 0 h H locs hP hD hS ls (lv_sub hl [1, 2, 3, 5, 6, 0] rfl)
    · have h := ite_t c2 h
      cases h
      exact rfV hx hb hr hlocks hP hD hS dX4_pairOf_25
def fX4_isOfR (N : Nat) (zp : Int64) (zr : Int64) (zx : Int64) (zy : Int64) (zi : Bool) (zpx : Nat → Int64) (zpy : Nat → Int64) (zip : Nat → Bool) (q0 : Int32) : Option (Bool × Int64 × Int64 × Bool) :=
  (fX4_load zx zy zi zpx zpy zip q0).bind fun (o1, o2, o3) =>
  (fX4_take N zp o1 o2 o3 zr).bind fun (o5, o6, o7) =>
  if (bI o7) = 0 then
    some (true, o5, o6, o7)
  else
    some (false, o5, o6, o7)
abbrev rmX4_isOfR : Room := { frames := 6, cells := 0, slots := 0, locals := 161 }
theorem lkX4_isOfR_0 : (.fieldLink RX4 48 "PairingDeskModel" "\x72" "J" : Cond) ∈ wsX4_isOfR := by decide +kernel
theorem lkX4_isOfR_1 : (.fieldLink RX4 67 "PairingDeskModel" "is" "Z" : Cond) ∈ wsX4_isOfR := by decide +kernel
theorem iwX4_isOfR_4 : ∀ w ∈ wsX40, w ∈ wsX4_isOfR := by decide +kernel
theorem hdX4_isOfR : KN yX4_isOfR 1 := by decide +kernel
set_option maxHeartbeats 4000000 in
set_option maxRecDepth 100000 in
theorem kX4_isOfR (l : Launch) (D : va_G) (cJ cZ : ClassId) (mo a1 a2 a3 a4 a5 : Nat) (N : Nat) (zp : Int64) (zr : Int64) (zh : Int64) (zx : Int64) (zy : Int64) (zi : Bool) (zu : Int64) (zv : Int64) (zl : Int32) (zpx : Nat → Int64) (zpy : Nat → Int64) (zip : Nat → Bool) (zvu : Nat → Int64) (zvv : Nat → Int64) (q0 : Int32) (sz : Nat) (rr : Bool) (ozx : Int64) (ozy : Int64) (ozi : Bool) (h : fX4_isOfR N zp zr zx zy zi zpx zpy zip q0 = some (rr, ozx, ozy, ozi)) : Met l yX4_isOfR wsX4_isOfR rmX4_isOfR (PE D cJ cZ [.ref mo, .int q0] [(mo, .inr (4, [.long zp, .long zr, .long zh, .ref a1, .ref a2, .ref a3, .ref a4, .ref a5, .long zx, .long zy, .int (bI zi), .long zu, .long zv, .int zl])), (a1, .inl (cJ, 16, .inr (.inl zpx))), (a2, .inl (cJ, 16, .inr (.inl zpy))), (a3, .inl (cZ, 16, .inl (fun i => bI (zip i)))), (a4, .inl (cJ, 8, .inr (.inl zvu))), (a5, .inl (cJ, 8, .inr (.inl zvv)))] sz) (QE D (some (.int (bI rr))) [(mo, .inr (4, [.long zp, .long zr, .long zh, .ref a1, .ref a2, .ref a3, .ref a4, .ref a5, .long ozx, .long ozy, .int (bI ozi), .long zu, .long zv, .int zl])), (a1, .inl (cJ, 16, .inr (.inl zpx))), (a2, .inl (cJ, 16, .inr (.inl zpy))), (a3, .inl (cZ, 16, .inl (fun i => bI (zip i)))), (a4, .inl (cJ, 8, .inr (.inl zvu))), (a5, .inl (cJ, 8, .inr (.inl zvv)))] (va_A [(mo, .inr (4, [.long zp, .long zr, .long zh, .ref a1, .ref a2, .ref a3, .ref a4, .ref a5, .long zx, .long zy, .int (bI zi), .long zu, .long zv, .int zl])), (a1, .inl (cJ, 16, .inr (.inl zpx))), (a2, .inl (cJ, 16, .inr (.inl zpy))), (a3, .inl (cZ, 16, .inl (fun i => bI (zip i)))), (a4, .inl (cJ, 8, .inr (.inl zvu))), (a5, .inl (cJ, 8, .inr (.inl zvv)))] sz)) 0 0 (va_A [(mo, .inr (4, [.long zp, .long zr, .long zh, .ref a1, .ref a2, .ref a3, .ref a4, .ref a5, .long zx, .long zy, .int (bI zi), .long zu, .long zv, .int zl])), (a1, .inl (cJ, 16, .inr (.inl zpx))), (a2, .inl (cJ, 16, .inr (.inl zpy))), (a3, .inl (cZ, 16, .inl (fun i => bI (zip i)))), (a4, .inl (cJ, 8, .inr (.inl zvu))), (a5, .inl (cJ, 8, .inr (.inl zvv)))] sz) := by
  refine Met.ofW (cc := cX4_isOfR) (maxL := 2) (ret := some .boolean) (by decide) rfl ?_
  intro pg e s m args below meth c s₁ B hml hv
  obtain ⟨rfl, hsz, hP, hE, hD0⟩ := hv
  have hx := B.exec
  have hb := B.bytes
  have hr := B.returns
  have hlocks := B.notSynchronized
  have C0 : CallFix pg m c cX4_isOfR 2 s ([.ref mo, .int q0] : List Value).toArray wsX4_isOfR RX4 := ⟨hx, hb, hml, findClass_of_methodNamed B.named, atoms_spec (ws := wsX4_isOfR) B.pre⟩
  have hown := C0.2.2.2.1
  have hts := C0.2.2.2.2
  subst hsz
  have hD := hD0.self (sz := s.heap.size)
  generalize hAe : va_A [(mo, .inr (4, [.long zp, .long zr, .long zh, .ref a1, .ref a2, .ref a3, .ref a4, .ref a5, .long zx, .long zy, .int (bI zi), .long zu, .long zv, .int zl])), (a1, .inl (cJ, 16, .inr (.inl zpx))), (a2, .inl (cJ, 16, .inr (.inl zpy))), (a3, .inl (cZ, 16, .inl (fun i => bI (zip i)))), (a4, .inl (cJ, 8, .inr (.inl zvu))), (a5, .inl (cJ, 8, .inr (.inl zvv)))] s.heap.size = A at hD ⊢
  have hA : ∀ q : Nat, s.heap.size ≤ q → A q := fun q h => by rw [← hAe]; exact Or.inr h
  have hS : va_S A s.heap s.heap [] := va_S.rf
  have hP : va_P D vwCl [(mo, .inr (4, [.long zp, .long zr, .long zh, .ref a1, .ref a2, .ref a3, .ref a4, .ref a5, .long zx, .long zy, .int (bI zi), .long zu, .long zv, .int zl])), (a1, .inl (cJ, 16, .inr (.inl zpx))), (a2, .inl (cJ, 16, .inr (.inl zpy))), (a3, .inl (cZ, 16, .inl (fun i => bI (zip i)))), (a4, .inl (cJ, 8, .inr (.inl zvu))), (a5, .inl (cJ, 8, .inr (.inl zvv)))] s.heap := hP
  have hl := lv_entry ([.ref mo, .int q0]) (n := 2) (Nat.le_of_ble_eq_true rfl)
  rw [lg_entry_eq]
  generalize (lg_sl ([.ref mo, .int q0]) ++ List.replicate (2 - (lg_sl ([.ref mo, .int q0])).length) Slot.unset).toArray = ls at hl ⊢
  have hl : lv_has ls 2 [(0, .ref mo), (1, .int q0)] := hl
  suffices key : ∀ (H : Heap) (locs : List Loc), va_P D vwCl [(mo, .inr (4, [.long zp, .long zr, .long zh, .ref a1, .ref a2, .ref a3, .ref a4, .ref a5, .long zx, .long zy, .int (bI zi), .long zu, .long zv, .int zl])), (a1, .inl (cJ, 16, .inr (.inl zpx))), (a2, .inl (cJ, 16, .inr (.inl zpy))), (a3, .inl (cZ, 16, .inl (fun i => bI (zip i)))), (a4, .inl (cJ, 8, .inr (.inl zvu))), (a5, .inl (cJ, 8, .inr (.inl zvv)))] H → va_D A [(mo, .inr (4, [.long zp, .long zr, .long zh, .ref a1, .ref a2, .ref a3, .ref a4, .ref a5, .long zx, .long zy, .int (bI zi), .long zu, .long zv, .int zl])), (a1, .inl (cJ, 16, .inr (.inl zpx))), (a2, .inl (cJ, 16, .inr (.inl zpy))), (a3, .inl (cZ, 16, .inl (fun i => bI (zip i)))), (a4, .inl (cJ, 8, .inr (.inl zvu))), (a5, .inl (cJ, 8, .inr (.inl zvv)))] → va_S A s.heap H locs → W pg l e (headSpec wsX4_isOfR rmX4_isOfR).room s m ([.ref mo, .int q0] : List Value).toArray below meth c H locs 0 0 (MQ below (QE D (some (.int (bI rr))) [(mo, .inr (4, [.long zp, .long zr, .long zh, .ref a1, .ref a2, .ref a3, .ref a4, .ref a5, .long ozx, .long ozy, .int (bI ozi), .long zu, .long zv, .int zl])), (a1, .inl (cJ, 16, .inr (.inl zpx))), (a2, .inl (cJ, 16, .inr (.inl zpy))), (a3, .inl (cZ, 16, .inl (fun i => bI (zip i)))), (a4, .inl (cJ, 8, .inr (.inl zvu))), (a5, .inl (cJ, 8, .inr (.inl zvv)))] A) ([.ref mo, .int q0] : List Value).toArray s 0 0 A) (F0 m 0 ls []) from key s.heap [] hP hD hS
  intro H locs hP hD hS
  unfold fX4_isOfR at h
  refine lv_aload_n hx hb dX4_isOfR_0 rfl (lv_at hl 0 rfl) ?_
  refine lv_iload_n hx hb dX4_isOfR_1 rfl (lv_at hl 1 rfl) ?_
  obtain ⟨⟨o1, o2, o3⟩, h4, h⟩ := bind_s h
  try dsimp only at h
  refine kE (wc := [(mo, .inr (4, [.long zp, .long zr, .long zh, .ref a1, .ref a2, .ref a3, .ref a4, .ref a5, .long zx, .long zy, .int (bI zi), .long zu, .long zv, .int zl])), (a1, .inl (cJ, 16, .inr (.inl zpx))), (a2, .inl (cJ, 16, .inr (.inl zpy))), (a3, .inl (cZ, 16, .inl (fun i => bI (zip i)))), (a4, .inl (cJ, 8, .inr (.inl zvu))), (a5, .inl (cJ, 8, .inr (.inl zvv)))]) (wr := []) [0, 1, 2, 3, 4, 5] [] hP hD hS hA rfl rfl rfl (by decide) rfl (eV (As := [.int q0]) (rest := []) C0 (kX4_load l D cJ cZ mo a1 a2 a3 a4 a5 zp zr zh zx zy zi zu zv zl zpx zpy zip zvu zvv q0 H.size o1 o2 o3 h4) gX4_isOfR_X4_load rfl ⟨rfl, rfl⟩ hdX4_load ⟨Nat.le_of_ble_eq_true rfl, Nat.le_of_ble_eq_true rfl⟩ 4 0 rfl rfl rfl hP hD hE hl rfl rfl (Nat.le_of_ble_eq_true rfl) dX4_isOfR_2 ⟨Nat.zero_le _, Nat.zero_le _⟩) (fun H locs hP hD hS => ?_)
  have hP : va_P D vwCl [(mo, .inr (4, [.long zp, .long zr, .long zh, .ref a1, .ref a2, .ref a3, .ref a4, .ref a5, .long o1, .long o2, .int (bI o3), .long zu, .long zv, .int zl])), (a1, .inl (cJ, 16, .inr (.inl zpx))), (a2, .inl (cJ, 16, .inr (.inl zpy))), (a3, .inl (cZ, 16, .inl (fun i => bI (zip i)))), (a4, .inl (cJ, 8, .inr (.inl zvu))), (a5, .inl (cJ, 8, .inr (.inl zvv)))] H := hP
  have hD : va_D A [(mo, .inr (4, [.long zp, .long zr, .long zh, .ref a1, .ref a2, .ref a3, .ref a4, .ref a5, .long o1, .long o2, .int (bI o3), .long zu, .long zv, .int zl])), (a1, .inl (cJ, 16, .inr (.inl zpx))), (a2, .inl (cJ, 16, .inr (.inl zpy))), (a3, .inl (cZ, 16, .inl (fun i => bI (zip i)))), (a4, .inl (cJ, 8, .inr (.inl zvu))), (a5, .inl (cJ, 8, .inr (.inl zvv)))] := hD
  refine lv_aload_n hx hb dX4_isOfR_5 rfl (lv_at hl 0 rfl) ?_
  refine lv_aload_n hx hb dX4_isOfR_6 rfl (lv_at hl 0 rfl) ?_
  refine va_get (D := D) (ci := 4) (v := .long zr) (C := RX4) (T := TX4) (N := 14) hx hb hts iwX4_isOfR_4 hown hE.1 hP 0 rfl rfl 1 (by decide) (hts _ lkX4_isOfR_0) (fun _ h9 => h9) rfl dX4_isOfR_7 ?_
  obtain ⟨⟨o5, o6, o7⟩, h8, h⟩ := bind_s h
  try dsimp only at h
  refine kE (wc := [(mo, .inr (4, [.long zp, .long zr, .long zh, .ref a1, .ref a2, .ref a3, .ref a4, .ref a5, .long o1, .long o2, .int (bI o3), .long zu, .long zv, .int zl])), (a1, .inl (cJ, 16, .inr (.inl zpx))), (a2, .inl (cJ, 16, .inr (.inl zpy))), (a3, .inl (cZ, 16, .inl (fun i => bI (zip i)))), (a4, .inl (cJ, 8, .inr (.inl zvu))), (a5, .inl (cJ, 8, .inr (.inl zvv)))]) (wr := []) [0, 1, 2, 3, 4, 5] [] hP hD hS hA rfl rfl rfl (by decide) rfl (eV (As := [.long zr]) (rest := []) C0 (kX4_take l D cJ cZ mo a1 a2 a3 a4 a5 N zp zr zh o1 o2 o3 zu zv zl zpx zpy zip zvu zvv zr H.size o5 o6 o7 h8) gX4_isOfR_X4_take rfl ⟨rfl, rfl⟩ hdX4_take ⟨Nat.le_of_ble_eq_true rfl, Nat.le_of_ble_eq_true rfl⟩ 4 0 rfl rfl rfl hP hD hE hl rfl rfl (Nat.le_of_ble_eq_true rfl) dX4_isOfR_10 ⟨Nat.zero_le _, Nat.zero_le _⟩) (fun H locs hP hD hS => ?_)
  have hP : va_P D vwCl [(mo, .inr (4, [.long zp, .long zr, .long zh, .ref a1, .ref a2, .ref a3, .ref a4, .ref a5, .long o5, .long o6, .int (bI o7), .long zu, .long zv, .int zl])), (a1, .inl (cJ, 16, .inr (.inl zpx))), (a2, .inl (cJ, 16, .inr (.inl zpy))), (a3, .inl (cZ, 16, .inl (fun i => bI (zip i)))), (a4, .inl (cJ, 8, .inr (.inl zvu))), (a5, .inl (cJ, 8, .inr (.inl zvv)))] H := hP
  have hD : va_D A [(mo, .inr (4, [.long zp, .long zr, .long zh, .ref a1, .ref a2, .ref a3, .ref a4, .ref a5, .long o5, .long o6, .int (bI o7), .long zu, .long zv, .int zl])), (a1, .inl (cJ, 16, .inr (.inl zpx))), (a2, .inl (cJ, 16, .inr (.inl zpy))), (a3, .inl (cZ, 16, .inl (fun i => bI (zip i)))), (a4, .inl (cJ, 8, .inr (.inl zvu))), (a5, .inl (cJ, 8, .inr (.inl zvv)))] := hD
  refine lv_aload_n hx hb dX4_isOfR_13 rfl (lv_at hl 0 rfl) ?_
  refine va_get (D := D) (ci := 4) (v := .int (bI o7)) (C := RX4) (T := TX4) (N := 14) hx hb hts iwX4_isOfR_4 hown hE.1 hP 0 rfl rfl 10 (by decide) (hts _ lkX4_isOfR_1) (fun _ h9 => h9) rfl dX4_isOfR_14 ?_
  refine lv_if_ne (tgt := 24) hx hb dX4_isOfR_17 (by decide) (fun c9 => ?_) (fun c9 => ?_)
  · have h := ite_f c9 h
    refine lv_iconst (v := 0) hx hb dX4_isOfR_24 (by decide) ?_
    cases h
    exact rfZ (v := false) hx hb hr hlocks hP hD hS dX4_isOfR_25
  · have h := ite_t c9 h
    refine lv_iconst (v := 1) hx hb dX4_isOfR_20 (by decide) ?_
    refine lv_goto (tgt := 25) hx hb dX4_isOfR_21 (by decide) ?_
    cases h
    exact rfZ (v := true) hx hb hr hlocks hP hD hS dX4_isOfR_25
def fX4_pair (N : Nat) (zp : Int64) (zr : Int64) (zx : Int64) (zy : Int64) (zi : Bool) (zu : Int64) (zv : Int64) (zl : Int32) (zpx : Nat → Int64) (zpy : Nat → Int64) (zip : Nat → Bool) (zvu : Nat → Int64) (zvv : Nat → Int64) (q0 : Int32) (q1 : Int32) (q2 : Int32) : Option (Int32 × Int64 × Int64 × Bool × Int64 × Int64 × Int32 × (Nat → Int64) × (Nat → Int64)) :=
  if zp = 0 then
    some ((-3), zx, zy, zi, zu, zv, zl, zvu, zvv)
  else
    (fX4_isValue q0).bind fun r2 =>
    if (bI r2) = 0 then
      some ((-2), zx, zy, zi, zu, zv, zl, zvu, zvv)
    else
      (fX4_isSlot q1).bind fun r5 =>
      if (bI r5) = 0 then
        some ((-2), zx, zy, zi, zu, zv, zl, zvu, zvv)
      else
        (fX4_isSlot q2).bind fun r8 =>
        if (bI r8) = 0 then
          some ((-2), zx, zy, zi, zu, zv, zl, zvu, zvv)
        else
          (fX4_isOfR N zp zr zx zy zi zpx zpy zip q1).bind fun (r11, o12, o13, o14) =>
          if (bI r11) = 0 then
            some ((-1), o12, o13, o14, zu, zv, zl, zvu, zvv)
          else
            (fX4_isOfR N zp zr o12 o13 o14 zpx zpy zip q2).bind fun (r17, o18, o19, o20) =>
            if (bI r17) = 0 then
              some ((-1), o18, o19, o20, zu, zv, zl, zvu, zvv)
            else
              if q1 < 0 ∨ 16 ≤ q1.toNatClampNeg then none else
              if q2 < 0 ∨ 16 ≤ q2.toNatClampNeg then none else
              (fX4_pairOf N zp zr o18 o19 o20 zu zv zl (zpx q1.toNatClampNeg) (zpy q1.toNatClampNeg) (zip q1.toNatClampNeg) (zpx q2.toNatClampNeg) (zpy q2.toNatClampNeg) (zip q2.toNatClampNeg)).bind fun (o25, o26, o27, o28, o29, o30) =>
              if q0 < 0 ∨ 8 ≤ q0.toNatClampNeg then none else
              bnd (vp_updL zvu q0.toNatClampNeg o28) fun w33 =>
              bnd (vp_updL zvv q0.toNatClampNeg o29) fun w34 =>
              some (o30, o25, o26, o27, o28, o29, o30, w33, w34)
abbrev rmX4_pair : Room := { frames := 7, cells := 0, slots := 0, locals := 196 }
theorem lkX4_pair_0 : (.fieldLink RX4 28 "PairingDeskModel" "p" "J" : Cond) ∈ wsX4_pair := by decide +kernel
theorem lkX4_pair_1 : (.fieldLink RX4 7 "PairingDeskModel" "px" "[J" : Cond) ∈ wsX4_pair := by decide +kernel
theorem lkX4_pair_2 : (.fieldLink RX4 13 "PairingDeskModel" "py" "[J" : Cond) ∈ wsX4_pair := by decide +kernel
theorem lkX4_pair_3 : (.fieldLink RX4 16 "PairingDeskModel" "isPoint" "[Z" : Cond) ∈ wsX4_pair := by decide +kernel
theorem lkX4_pair_4 : (.fieldLink RX4 20 "PairingDeskModel" "vu" "[J" : Cond) ∈ wsX4_pair := by decide +kernel
theorem lkX4_pair_5 : (.fieldLink RX4 116 "PairingDeskModel" "u" "J" : Cond) ∈ wsX4_pair := by decide +kernel
theorem lkX4_pair_6 : (.fieldLink RX4 23 "PairingDeskModel" "vv" "[J" : Cond) ∈ wsX4_pair := by decide +kernel
theorem lkX4_pair_7 : (.fieldLink RX4 119 "PairingDeskModel" "v" "J" : Cond) ∈ wsX4_pair := by decide +kernel
theorem lkX4_pair_8 : (.fieldLink RX4 126 "PairingDeskModel" "lines" "I" : Cond) ∈ wsX4_pair := by decide +kernel
theorem iwX4_pair_4 : ∀ w ∈ wsX40, w ∈ wsX4_pair := by decide +kernel
theorem hdX4_pair : KN yX4_pair 3 := by decide +kernel
set_option maxHeartbeats 4000000 in
set_option maxRecDepth 100000 in
theorem kX4_pair (l : Launch) (D : va_G) (cJ cZ : ClassId) (mo a1 a2 a3 a4 a5 : Nat) (N : Nat) (zp : Int64) (zr : Int64) (zh : Int64) (zx : Int64) (zy : Int64) (zi : Bool) (zu : Int64) (zv : Int64) (zl : Int32) (zpx : Nat → Int64) (zpy : Nat → Int64) (zip : Nat → Bool) (zvu : Nat → Int64) (zvv : Nat → Int64) (q0 : Int32) (q1 : Int32) (q2 : Int32) (sz : Nat) (rr : Int32) (ozx : Int64) (ozy : Int64) (ozi : Bool) (ozu : Int64) (ozv : Int64) (ozl : Int32) (ozvu : Nat → Int64) (ozvv : Nat → Int64) (h : fX4_pair N zp zr zx zy zi zu zv zl zpx zpy zip zvu zvv q0 q1 q2 = some (rr, ozx, ozy, ozi, ozu, ozv, ozl, ozvu, ozvv)) : Met l yX4_pair wsX4_pair rmX4_pair (PE D cJ cZ [.ref mo, .int q0, .int q1, .int q2] [(mo, .inr (4, [.long zp, .long zr, .long zh, .ref a1, .ref a2, .ref a3, .ref a4, .ref a5, .long zx, .long zy, .int (bI zi), .long zu, .long zv, .int zl])), (a1, .inl (cJ, 16, .inr (.inl zpx))), (a2, .inl (cJ, 16, .inr (.inl zpy))), (a3, .inl (cZ, 16, .inl (fun i => bI (zip i)))), (a4, .inl (cJ, 8, .inr (.inl zvu))), (a5, .inl (cJ, 8, .inr (.inl zvv)))] sz) (QE D (some (.int rr)) [(mo, .inr (4, [.long zp, .long zr, .long zh, .ref a1, .ref a2, .ref a3, .ref a4, .ref a5, .long ozx, .long ozy, .int (bI ozi), .long ozu, .long ozv, .int ozl])), (a1, .inl (cJ, 16, .inr (.inl zpx))), (a2, .inl (cJ, 16, .inr (.inl zpy))), (a3, .inl (cZ, 16, .inl (fun i => bI (zip i)))), (a4, .inl (cJ, 8, .inr (.inl ozvu))), (a5, .inl (cJ, 8, .inr (.inl ozvv)))] (va_A [(mo, .inr (4, [.long zp, .long zr, .long zh, .ref a1, .ref a2, .ref a3, .ref a4, .ref a5, .long zx, .long zy, .int (bI zi), .long zu, .long zv, .int zl])), (a1, .inl (cJ, 16, .inr (.inl zpx))), (a2, .inl (cJ, 16, .inr (.inl zpy))), (a3, .inl (cZ, 16, .inl (fun i => bI (zip i)))), (a4, .inl (cJ, 8, .inr (.inl zvu))), (a5, .inl (cJ, 8, .inr (.inl zvv)))] sz)) 0 0 (va_A [(mo, .inr (4, [.long zp, .long zr, .long zh, .ref a1, .ref a2, .ref a3, .ref a4, .ref a5, .long zx, .long zy, .int (bI zi), .long zu, .long zv, .int zl])), (a1, .inl (cJ, 16, .inr (.inl zpx))), (a2, .inl (cJ, 16, .inr (.inl zpy))), (a3, .inl (cZ, 16, .inl (fun i => bI (zip i)))), (a4, .inl (cJ, 8, .inr (.inl zvu))), (a5, .inl (cJ, 8, .inr (.inl zvv)))] sz) := by
  refine Met.ofW (cc := cX4_pair) (maxL := 4) (ret := some .int) (by decide) rfl ?_
  intro pg e s m args below meth c s₁ B hml hv
  obtain ⟨rfl, hsz, hP, hE, hD0⟩ := hv
  have hx := B.exec
  have hb := B.bytes
  have hr := B.returns
  have hlocks := B.notSynchronized
  have C0 : CallFix pg m c cX4_pair 4 s ([.ref mo, .int q0, .int q1, .int q2] : List Value).toArray wsX4_pair RX4 := ⟨hx, hb, hml, findClass_of_methodNamed B.named, atoms_spec (ws := wsX4_pair) B.pre⟩
  have hown := C0.2.2.2.1
  have hts := C0.2.2.2.2
  subst hsz
  have hD := hD0.self (sz := s.heap.size)
  generalize hAe : va_A [(mo, .inr (4, [.long zp, .long zr, .long zh, .ref a1, .ref a2, .ref a3, .ref a4, .ref a5, .long zx, .long zy, .int (bI zi), .long zu, .long zv, .int zl])), (a1, .inl (cJ, 16, .inr (.inl zpx))), (a2, .inl (cJ, 16, .inr (.inl zpy))), (a3, .inl (cZ, 16, .inl (fun i => bI (zip i)))), (a4, .inl (cJ, 8, .inr (.inl zvu))), (a5, .inl (cJ, 8, .inr (.inl zvv)))] s.heap.size = A at hD ⊢
  have hA : ∀ q : Nat, s.heap.size ≤ q → A q := fun q h => by rw [← hAe]; exact Or.inr h
  have hS : va_S A s.heap s.heap [] := va_S.rf
  have hP : va_P D vwCl [(mo, .inr (4, [.long zp, .long zr, .long zh, .ref a1, .ref a2, .ref a3, .ref a4, .ref a5, .long zx, .long zy, .int (bI zi), .long zu, .long zv, .int zl])), (a1, .inl (cJ, 16, .inr (.inl zpx))), (a2, .inl (cJ, 16, .inr (.inl zpy))), (a3, .inl (cZ, 16, .inl (fun i => bI (zip i)))), (a4, .inl (cJ, 8, .inr (.inl zvu))), (a5, .inl (cJ, 8, .inr (.inl zvv)))] s.heap := hP
  have hl := lv_entry ([.ref mo, .int q0, .int q1, .int q2]) (n := 4) (Nat.le_of_ble_eq_true rfl)
  rw [lg_entry_eq]
  generalize (lg_sl ([.ref mo, .int q0, .int q1, .int q2]) ++ List.replicate (4 - (lg_sl ([.ref mo, .int q0, .int q1, .int q2])).length) Slot.unset).toArray = ls at hl ⊢
  have hl : lv_has ls 4 [(0, .ref mo), (1, .int q0), (2, .int q1), (3, .int q2)] := hl
  suffices key : ∀ (H : Heap) (locs : List Loc), va_P D vwCl [(mo, .inr (4, [.long zp, .long zr, .long zh, .ref a1, .ref a2, .ref a3, .ref a4, .ref a5, .long zx, .long zy, .int (bI zi), .long zu, .long zv, .int zl])), (a1, .inl (cJ, 16, .inr (.inl zpx))), (a2, .inl (cJ, 16, .inr (.inl zpy))), (a3, .inl (cZ, 16, .inl (fun i => bI (zip i)))), (a4, .inl (cJ, 8, .inr (.inl zvu))), (a5, .inl (cJ, 8, .inr (.inl zvv)))] H → va_D A [(mo, .inr (4, [.long zp, .long zr, .long zh, .ref a1, .ref a2, .ref a3, .ref a4, .ref a5, .long zx, .long zy, .int (bI zi), .long zu, .long zv, .int zl])), (a1, .inl (cJ, 16, .inr (.inl zpx))), (a2, .inl (cJ, 16, .inr (.inl zpy))), (a3, .inl (cZ, 16, .inl (fun i => bI (zip i)))), (a4, .inl (cJ, 8, .inr (.inl zvu))), (a5, .inl (cJ, 8, .inr (.inl zvv)))] → va_S A s.heap H locs → W pg l e (headSpec wsX4_pair rmX4_pair).room s m ([.ref mo, .int q0, .int q1, .int q2] : List Value).toArray below meth c H locs 0 0 (MQ below (QE D (some (.int rr)) [(mo, .inr (4, [.long zp, .long zr, .long zh, .ref a1, .ref a2, .ref a3, .ref a4, .ref a5, .long ozx, .long ozy, .int (bI ozi), .long ozu, .long ozv, .int ozl])), (a1, .inl (cJ, 16, .inr (.inl zpx))), (a2, .inl (cJ, 16, .inr (.inl zpy))), (a3, .inl (cZ, 16, .inl (fun i => bI (zip i)))), (a4, .inl (cJ, 8, .inr (.inl ozvu))), (a5, .inl (cJ, 8, .inr (.inl ozvv)))] A) ([.ref mo, .int q0, .int q1, .int q2] : List Value).toArray s 0 0 A) (F0 m 0 ls []) from key s.heap [] hP hD hS
  intro H locs hP hD hS
  unfold fX4_pair at h
  refine lv_aload_n hx hb dX4_pair_0 rfl (lv_at hl 0 rfl) ?_
  refine va_get (D := D) (ci := 4) (v := .long zp) (C := RX4) (T := TX4) (N := 14) hx hb hts iwX4_pair_4 hown hE.1 hP 0 rfl rfl 0 (by decide) (hts _ lkX4_pair_0) (fun _ h9 => h9) rfl dX4_pair_1 ?_
  refine lv_lconst (v := 0) hx hb dX4_pair_4 (by decide) ?_
  refine lc_ne (tgt := 12) hx hb dX4_pair_5 dX4_pair_6 (by decide) (fun c1 => ?_) (fun c1 => ?_)
  · have h := ite_f c1 h
    refine lv_iload_n hx hb dX4_pair_12 rfl (lv_at hl 1 rfl) ?_
    obtain ⟨r2, h3, h⟩ := bind_s h
    refine ki (kS (As := [.int q0]) (rest := []) C0 (kX4_isValue l D cJ cZ q0 r2 h3) gX4_pair_X4_isValue rfl ⟨rfl, rfl⟩ hdX4_isValue ⟨Nat.le_of_ble_eq_true rfl, Nat.le_of_ble_eq_true rfl⟩ (hP.sub [] rfl) hE hl rfl rfl (Nat.le_of_ble_eq_true rfl) dX4_pair_13 (Nat.zero_le _) (Nat.zero_le _)) ?_
    refine lv_if_eq (tgt := 33) hx hb dX4_pair_16 (by decide) (fun c4 => ?_) (fun c4 => ?_)
    · have h := ite_t c4 h
      refine lv_bipush (v := (-2)) hx hb dX4_pair_33 (by decide) ?_
      cases h
      exact rfI hx hb hr hlocks hP hD hS dX4_pair_35
    · have h := ite_f c4 h
      refine lv_iload_n hx hb dX4_pair_19 rfl (lv_at hl 2 rfl) ?_
      obtain ⟨r5, h6, h⟩ := bind_s h
      refine ki (kS (As := [.int q1]) (rest := []) C0 (kX4_isSlot l D cJ cZ q1 r5 h6) gX4_pair_X4_isSlot rfl ⟨rfl, rfl⟩ hdX4_isSlot ⟨Nat.le_of_ble_eq_true rfl, Nat.le_of_ble_eq_true rfl⟩ (hP.sub [] rfl) hE hl rfl rfl (Nat.le_of_ble_eq_true rfl) dX4_pair_20 (Nat.zero_le _) (Nat.zero_le _)) ?_
      refine lv_if_eq (tgt := 33) hx hb dX4_pair_23 (by decide) (fun c7 => ?_) (fun c7 => ?_)
      · have h := ite_t c7 h
        refine lv_bipush (v := (-2)) hx hb dX4_pair_33 (by decide) ?_
        cases h
        exact rfI hx hb hr hlocks hP hD hS dX4_pair_35
      · have h := ite_f c7 h
        refine lv_iload_n hx hb dX4_pair_26 rfl (lv_at hl 3 rfl) ?_
        obtain ⟨r8, h9, h⟩ := bind_s h
        refine ki (kS (As := [.int q2]) (rest := []) C0 (kX4_isSlot l D cJ cZ q2 r8 h9) gX4_pair_X4_isSlot rfl ⟨rfl, rfl⟩ hdX4_isSlot ⟨Nat.le_of_ble_eq_true rfl, Nat.le_of_ble_eq_true rfl⟩ (hP.sub [] rfl) hE hl rfl rfl (Nat.le_of_ble_eq_true rfl) dX4_pair_27 (Nat.zero_le _) (Nat.zero_le _)) ?_
        refine lv_if_ne (tgt := 36) hx hb dX4_pair_30 (by decide) (fun c10 => ?_) (fun c10 => ?_)
        · have h := ite_f c10 h
          refine lv_aload_n hx hb dX4_pair_36 rfl (lv_at hl 0 rfl) ?_
          refine lv_iload_n hx hb dX4_pair_37 rfl (lv_at hl 2 rfl) ?_
          obtain ⟨⟨r11, o12, o13, o14⟩, h15, h⟩ := bind_s h
          try dsimp only at h
          refine kE (wc := [(mo, .inr (4, [.long zp, .long zr, .long zh, .ref a1, .ref a2, .ref a3, .ref a4, .ref a5, .long zx, .long zy, .int (bI zi), .long zu, .long zv, .int zl])), (a1, .inl (cJ, 16, .inr (.inl zpx))), (a2, .inl (cJ, 16, .inr (.inl zpy))), (a3, .inl (cZ, 16, .inl (fun i => bI (zip i)))), (a4, .inl (cJ, 8, .inr (.inl zvu))), (a5, .inl (cJ, 8, .inr (.inl zvv)))]) (wr := []) [0, 1, 2, 3, 4, 5] [] hP hD hS hA rfl rfl rfl (by decide) rfl (eV (As := [.int q1]) (rest := []) C0 (kX4_isOfR l D cJ cZ mo a1 a2 a3 a4 a5 N zp zr zh zx zy zi zu zv zl zpx zpy zip zvu zvv q1 H.size r11 o12 o13 o14 h15) gX4_pair_X4_isOfR rfl ⟨rfl, rfl⟩ hdX4_isOfR ⟨Nat.le_of_ble_eq_true rfl, Nat.le_of_ble_eq_true rfl⟩ 4 0 rfl rfl rfl hP hD hE hl rfl rfl (Nat.le_of_ble_eq_true rfl) dX4_pair_38 ⟨Nat.zero_le _, Nat.zero_le _⟩) (fun H locs hP hD hS => ?_)
          have hP : va_P D vwCl [(mo, .inr (4, [.long zp, .long zr, .long zh, .ref a1, .ref a2, .ref a3, .ref a4, .ref a5, .long o12, .long o13, .int (bI o14), .long zu, .long zv, .int zl])), (a1, .inl (cJ, 16, .inr (.inl zpx))), (a2, .inl (cJ, 16, .inr (.inl zpy))), (a3, .inl (cZ, 16, .inl (fun i => bI (zip i)))), (a4, .inl (cJ, 8, .inr (.inl zvu))), (a5, .inl (cJ, 8, .inr (.inl zvv)))] H := hP
          have hD : va_D A [(mo, .inr (4, [.long zp, .long zr, .long zh, .ref a1, .ref a2, .ref a3, .ref a4, .ref a5, .long o12, .long o13, .int (bI o14), .long zu, .long zv, .int zl])), (a1, .inl (cJ, 16, .inr (.inl zpx))), (a2, .inl (cJ, 16, .inr (.inl zpy))), (a3, .inl (cZ, 16, .inl (fun i => bI (zip i)))), (a4, .inl (cJ, 8, .inr (.inl zvu))), (a5, .inl (cJ, 8, .inr (.inl zvv)))] := hD
          refine lv_if_eq (tgt := 52) hx hb dX4_pair_41 (by decide) (fun c16 => ?_) (fun c16 => ?_)
          · have h := ite_t c16 h
            refine lv_iconst (v := (-1)) hx hb dX4_pair_52 (by decide) ?_
            cases h
            exact rfI hx hb hr hlocks hP hD hS dX4_pair_53
          · have h := ite_f c16 h
            refine lv_aload_n hx hb dX4_pair_44 rfl (lv_at hl 0 rfl) ?_
            refine lv_iload_n hx hb dX4_pair_45 rfl (lv_at hl 3 rfl) ?_
            obtain ⟨⟨r17, o18, o19, o20⟩, h21, h⟩ := bind_s h
            try dsimp only at h
            refine kE (wc := [(mo, .inr (4, [.long zp, .long zr, .long zh, .ref a1, .ref a2, .ref a3, .ref a4, .ref a5, .long o12, .long o13, .int (bI o14), .long zu, .long zv, .int zl])), (a1, .inl (cJ, 16, .inr (.inl zpx))), (a2, .inl (cJ, 16, .inr (.inl zpy))), (a3, .inl (cZ, 16, .inl (fun i => bI (zip i)))), (a4, .inl (cJ, 8, .inr (.inl zvu))), (a5, .inl (cJ, 8, .inr (.inl zvv)))]) (wr := []) [0, 1, 2, 3, 4, 5] [] hP hD hS hA rfl rfl rfl (by decide) rfl (eV (As := [.int q2]) (rest := []) C0 (kX4_isOfR l D cJ cZ mo a1 a2 a3 a4 a5 N zp zr zh o12 o13 o14 zu zv zl zpx zpy zip zvu zvv q2 H.size r17 o18 o19 o20 h21) gX4_pair_X4_isOfR rfl ⟨rfl, rfl⟩ hdX4_isOfR ⟨Nat.le_of_ble_eq_true rfl, Nat.le_of_ble_eq_true rfl⟩ 4 0 rfl rfl rfl hP hD hE hl rfl rfl (Nat.le_of_ble_eq_true rfl) dX4_pair_46 ⟨Nat.zero_le _, Nat.zero_le _⟩) (fun H locs hP hD hS => ?_)
            have hP : va_P D vwCl [(mo, .inr (4, [.long zp, .long zr, .long zh, .ref a1, .ref a2, .ref a3, .ref a4, .ref a5, .long o18, .long o19, .int (bI o20), .long zu, .long zv, .int zl])), (a1, .inl (cJ, 16, .inr (.inl zpx))), (a2, .inl (cJ, 16, .inr (.inl zpy))), (a3, .inl (cZ, 16, .inl (fun i => bI (zip i)))), (a4, .inl (cJ, 8, .inr (.inl zvu))), (a5, .inl (cJ, 8, .inr (.inl zvv)))] H := hP
            have hD : va_D A [(mo, .inr (4, [.long zp, .long zr, .long zh, .ref a1, .ref a2, .ref a3, .ref a4, .ref a5, .long o18, .long o19, .int (bI o20), .long zu, .long zv, .int zl])), (a1, .inl (cJ, 16, .inr (.inl zpx))), (a2, .inl (cJ, 16, .inr (.inl zpy))), (a3, .inl (cZ, 16, .inl (fun i => bI (zip i)))), (a4, .inl (cJ, 8, .inr (.inl zvu))), (a5, .inl (cJ, 8, .inr (.inl zvv)))] := hD
            refine lv_if_ne (tgt := 54) hx hb dX4_pair_49 (by decide) (fun c22 => ?_) (fun c22 => ?_)
            · have h := ite_f c22 h
              refine lv_aload_n hx hb dX4_pair_54 rfl (lv_at hl 0 rfl) ?_
              refine lv_aload_n hx hb dX4_pair_55 rfl (lv_at hl 0 rfl) ?_
              refine va_get (D := D) (ci := 4) (v := .ref a1) (C := RX4) (T := TX4) (N := 14) hx hb hts iwX4_pair_4 hown hE.1 hP 0 rfl rfl 3 (by decide) (hts _ lkX4_pair_1) (fun _ h9 => h9) rfl dX4_pair_56 ?_
              refine lv_iload_n hx hb dX4_pair_59 rfl (lv_at hl 2 rfl) ?_
              obtain ⟨c23, h⟩ := ite_n h
              refine va_lald hx hb hE.1 hP 1 0 rfl rfl c23 dX4_pair_60 ?_
              refine lv_aload_n hx hb dX4_pair_61 rfl (lv_at hl 0 rfl) ?_
              refine va_get (D := D) (ci := 4) (v := .ref a2) (C := RX4) (T := TX4) (N := 14) hx hb hts iwX4_pair_4 hown hE.1 hP 0 rfl rfl 4 (by decide) (hts _ lkX4_pair_2) (fun _ h9 => h9) rfl dX4_pair_62 ?_
              refine lv_iload_n hx hb dX4_pair_65 rfl (lv_at hl 2 rfl) ?_
              refine va_lald hx hb hE.1 hP 2 0 rfl rfl c23 dX4_pair_66 ?_
              refine lv_aload_n hx hb dX4_pair_67 rfl (lv_at hl 0 rfl) ?_
              refine va_get (D := D) (ci := 4) (v := .ref a3) (C := RX4) (T := TX4) (N := 14) hx hb hts iwX4_pair_4 hown hE.1 hP 0 rfl rfl 5 (by decide) (hts _ lkX4_pair_3) (fun _ h9 => h9) rfl dX4_pair_68 ?_
              refine lv_iload_n hx hb dX4_pair_71 rfl (lv_at hl 2 rfl) ?_
              refine va_zald hx hb hE.1 hP 3 1 rfl rfl c23 dX4_pair_72 ?_
              refine lv_aload_n hx hb dX4_pair_73 rfl (lv_at hl 0 rfl) ?_
              refine va_get (D := D) (ci := 4) (v := .ref a1) (C := RX4) (T := TX4) (N := 14) hx hb hts iwX4_pair_4 hown hE.1 hP 0 rfl rfl 3 (by decide) (hts _ lkX4_pair_1) (fun _ h9 => h9) rfl dX4_pair_74 ?_
              refine lv_iload_n hx hb dX4_pair_77 rfl (lv_at hl 3 rfl) ?_
              obtain ⟨c24, h⟩ := ite_n h
              refine va_lald hx hb hE.1 hP 1 0 rfl rfl c24 dX4_pair_78 ?_
              refine lv_aload_n hx hb dX4_pair_79 rfl (lv_at hl 0 rfl) ?_
              refine va_get (D := D) (ci := 4) (v := .ref a2) (C := RX4) (T := TX4) (N := 14) hx hb hts iwX4_pair_4 hown hE.1 hP 0 rfl rfl 4 (by decide) (hts _ lkX4_pair_2) (fun _ h9 => h9) rfl dX4_pair_80 ?_
              refine lv_iload_n hx hb dX4_pair_83 rfl (lv_at hl 3 rfl) ?_
              refine va_lald hx hb hE.1 hP 2 0 rfl rfl c24 dX4_pair_84 ?_
              refine lv_aload_n hx hb dX4_pair_85 rfl (lv_at hl 0 rfl) ?_
              refine va_get (D := D) (ci := 4) (v := .ref a3) (C := RX4) (T := TX4) (N := 14) hx hb hts iwX4_pair_4 hown hE.1 hP 0 rfl rfl 5 (by decide) (hts _ lkX4_pair_3) (fun _ h9 => h9) rfl dX4_pair_86 ?_
              refine lv_iload_n hx hb dX4_pair_89 rfl (lv_at hl 3 rfl) ?_
              refine va_zald hx hb hE.1 hP 3 1 rfl rfl c24 dX4_pair_90 ?_
              obtain ⟨⟨o25, o26, o27, o28, o29, o30⟩, h31, h⟩ := bind_s h
              try dsimp only at h
              refine kE (wc := [(mo, .inr (4, [.long zp, .long zr, .long zh, .ref a1, .ref a2, .ref a3, .ref a4, .ref a5, .long o18, .long o19, .int (bI o20), .long zu, .long zv, .int zl])), (a1, .inl (cJ, 16, .inr (.inl zpx))), (a2, .inl (cJ, 16, .inr (.inl zpy))), (a3, .inl (cZ, 16, .inl (fun i => bI (zip i)))), (a4, .inl (cJ, 8, .inr (.inl zvu))), (a5, .inl (cJ, 8, .inr (.inl zvv)))]) (wr := []) [0, 1, 2, 3, 4, 5] [] hP hD hS hA rfl rfl rfl (by decide) rfl (eV (As := [.long (zpx q1.toNatClampNeg), .long (zpy q1.toNatClampNeg), .int (bI (zip q1.toNatClampNeg)), .long (zpx q2.toNatClampNeg), .long (zpy q2.toNatClampNeg), .int (bI (zip q2.toNatClampNeg))]) (rest := []) C0 (kX4_pairOf l D cJ cZ mo a1 a2 a3 a4 a5 N zp zr zh o18 o19 o20 zu zv zl zpx zpy zip zvu zvv (zpx q1.toNatClampNeg) (zpy q1.toNatClampNeg) (zip q1.toNatClampNeg) (zpx q2.toNatClampNeg) (zpy q2.toNatClampNeg) (zip q2.toNatClampNeg) H.size o25 o26 o27 o28 o29 o30 h31) gX4_pair_X4_pairOf rfl ⟨rfl, rfl⟩ hdX4_pairOf ⟨Nat.le_of_ble_eq_true rfl, Nat.le_of_ble_eq_true rfl⟩ 4 0 rfl rfl rfl hP hD hE hl rfl rfl (Nat.le_of_ble_eq_true rfl) dX4_pair_91 ⟨Nat.zero_le _, Nat.zero_le _⟩) (fun H locs hP hD hS => ?_)
              have hP : va_P D vwCl [(mo, .inr (4, [.long zp, .long zr, .long zh, .ref a1, .ref a2, .ref a3, .ref a4, .ref a5, .long o25, .long o26, .int (bI o27), .long o28, .long o29, .int o30])), (a1, .inl (cJ, 16, .inr (.inl zpx))), (a2, .inl (cJ, 16, .inr (.inl zpy))), (a3, .inl (cZ, 16, .inl (fun i => bI (zip i)))), (a4, .inl (cJ, 8, .inr (.inl zvu))), (a5, .inl (cJ, 8, .inr (.inl zvv)))] H := hP
              have hD : va_D A [(mo, .inr (4, [.long zp, .long zr, .long zh, .ref a1, .ref a2, .ref a3, .ref a4, .ref a5, .long o25, .long o26, .int (bI o27), .long o28, .long o29, .int o30])), (a1, .inl (cJ, 16, .inr (.inl zpx))), (a2, .inl (cJ, 16, .inr (.inl zpy))), (a3, .inl (cZ, 16, .inl (fun i => bI (zip i)))), (a4, .inl (cJ, 8, .inr (.inl zvu))), (a5, .inl (cJ, 8, .inr (.inl zvv)))] := hD
              refine lv_aload_n hx hb dX4_pair_94 rfl (lv_at hl 0 rfl) ?_
              refine va_get (D := D) (ci := 4) (v := .ref a4) (C := RX4) (T := TX4) (N := 14) hx hb hts iwX4_pair_4 hown hE.1 hP 0 rfl rfl 6 (by decide) (hts _ lkX4_pair_4) (fun _ h9 => h9) rfl dX4_pair_95 ?_
              refine lv_iload_n hx hb dX4_pair_98 rfl (lv_at hl 1 rfl) ?_
              refine lv_aload_n hx hb dX4_pair_99 rfl (lv_at hl 0 rfl) ?_
              refine va_get (D := D) (ci := 4) (v := .long o28) (C := RX4) (T := TX4) (N := 14) hx hb hts iwX4_pair_4 hown hE.1 hP 0 rfl rfl 11 (by decide) (hts _ lkX4_pair_5) (fun _ h9 => h9) rfl dX4_pair_100 ?_
              obtain ⟨c32, h⟩ := ite_n h
              refine va_last hx hb hE.1 hP hD hS 4 0 rfl rfl c32 dX4_pair_103 (fun H locs hP hD hS => ?_)
              have hP : va_P D vwCl [(mo, .inr (4, [.long zp, .long zr, .long zh, .ref a1, .ref a2, .ref a3, .ref a4, .ref a5, .long o25, .long o26, .int (bI o27), .long o28, .long o29, .int o30])), (a1, .inl (cJ, 16, .inr (.inl zpx))), (a2, .inl (cJ, 16, .inr (.inl zpy))), (a3, .inl (cZ, 16, .inl (fun i => bI (zip i)))), (a4, .inl (cJ, 8, .inr (.inl (vp_updL zvu q0.toNatClampNeg o28)))), (a5, .inl (cJ, 8, .inr (.inl zvv)))] H := hP
              have hD : va_D A [(mo, .inr (4, [.long zp, .long zr, .long zh, .ref a1, .ref a2, .ref a3, .ref a4, .ref a5, .long o25, .long o26, .int (bI o27), .long o28, .long o29, .int o30])), (a1, .inl (cJ, 16, .inr (.inl zpx))), (a2, .inl (cJ, 16, .inr (.inl zpy))), (a3, .inl (cZ, 16, .inl (fun i => bI (zip i)))), (a4, .inl (cJ, 8, .inr (.inl (vp_updL zvu q0.toNatClampNeg o28)))), (a5, .inl (cJ, 8, .inr (.inl zvv)))] := hD
              obtain ⟨w33, ew33, h⟩ := bnd_s h
              rw [← ew33] at hP hD
              refine lv_aload_n hx hb dX4_pair_104 rfl (lv_at hl 0 rfl) ?_
              refine va_get (D := D) (ci := 4) (v := .ref a5) (C := RX4) (T := TX4) (N := 14) hx hb hts iwX4_pair_4 hown hE.1 hP 0 rfl rfl 7 (by decide) (hts _ lkX4_pair_6) (fun _ h9 => h9) rfl dX4_pair_105 ?_
              refine lv_iload_n hx hb dX4_pair_108 rfl (lv_at hl 1 rfl) ?_
              refine lv_aload_n hx hb dX4_pair_109 rfl (lv_at hl 0 rfl) ?_
              refine va_get (D := D) (ci := 4) (v := .long o29) (C := RX4) (T := TX4) (N := 14) hx hb hts iwX4_pair_4 hown hE.1 hP 0 rfl rfl 12 (by decide) (hts _ lkX4_pair_7) (fun _ h9 => h9) rfl dX4_pair_110 ?_
              refine va_last hx hb hE.1 hP hD hS 5 0 rfl rfl c32 dX4_pair_113 (fun H locs hP hD hS => ?_)
              have hP : va_P D vwCl [(mo, .inr (4, [.long zp, .long zr, .long zh, .ref a1, .ref a2, .ref a3, .ref a4, .ref a5, .long o25, .long o26, .int (bI o27), .long o28, .long o29, .int o30])), (a1, .inl (cJ, 16, .inr (.inl zpx))), (a2, .inl (cJ, 16, .inr (.inl zpy))), (a3, .inl (cZ, 16, .inl (fun i => bI (zip i)))), (a4, .inl (cJ, 8, .inr (.inl w33))), (a5, .inl (cJ, 8, .inr (.inl (vp_updL zvv q0.toNatClampNeg o29))))] H := hP
              have hD : va_D A [(mo, .inr (4, [.long zp, .long zr, .long zh, .ref a1, .ref a2, .ref a3, .ref a4, .ref a5, .long o25, .long o26, .int (bI o27), .long o28, .long o29, .int o30])), (a1, .inl (cJ, 16, .inr (.inl zpx))), (a2, .inl (cJ, 16, .inr (.inl zpy))), (a3, .inl (cZ, 16, .inl (fun i => bI (zip i)))), (a4, .inl (cJ, 8, .inr (.inl w33))), (a5, .inl (cJ, 8, .inr (.inl (vp_updL zvv q0.toNatClampNeg o29))))] := hD
              obtain ⟨w34, ew34, h⟩ := bnd_s h
              rw [← ew34] at hP hD
              refine lv_aload_n hx hb dX4_pair_114 rfl (lv_at hl 0 rfl) ?_
              refine va_get (D := D) (ci := 4) (v := .int o30) (C := RX4) (T := TX4) (N := 14) hx hb hts iwX4_pair_4 hown hE.1 hP 0 rfl rfl 13 (by decide) (hts _ lkX4_pair_8) (fun _ h9 => h9) rfl dX4_pair_115 ?_
              cases h
              exact rfI hx hb hr hlocks hP hD hS dX4_pair_118
            · have h := ite_t c22 h
              refine lv_iconst (v := (-1)) hx hb dX4_pair_52 (by decide) ?_
              cases h
              exact rfI hx hb hr hlocks hP hD hS dX4_pair_53
        · have h := ite_t c10 h
          refine lv_bipush (v := (-2)) hx hb dX4_pair_33 (by decide) ?_
          cases h
          exact rfI hx hb hr hlocks hP hD hS dX4_pair_35
  · have h := ite_t c1 h
    refine lv_bipush (v := (-3)) hx hb dX4_pair_9 (by decide) ?_
    cases h
    exact rfI hx hb hr hlocks hP hD hS dX4_pair_11
def fX4_keepValue  (zu : Int64) (zv : Int64) (zvu : Nat → Int64) (zvv : Nat → Int64) (q0 : Int32) : Option (Int32 × (Nat → Int64) × (Nat → Int64)) :=
  if q0 < 0 ∨ 8 ≤ q0.toNatClampNeg then none else
  bnd (vp_updL zvu q0.toNatClampNeg zu) fun w2 =>
  bnd (vp_updL zvv q0.toNatClampNeg zv) fun w3 =>
  if zu = 1 then
    if zv = 0 then
      some (1, w2, w3)
    else
      some (0, w2, w3)
  else
    some (0, w2, w3)
abbrev rmX4_keepValue : Room := { frames := 0, cells := 0, slots := 0, locals := 0 }
theorem lkX4_keepValue_0 : (.fieldLink RX4 20 "PairingDeskModel" "vu" "[J" : Cond) ∈ wsX4_keepValue := by decide +kernel
theorem lkX4_keepValue_1 : (.fieldLink RX4 116 "PairingDeskModel" "u" "J" : Cond) ∈ wsX4_keepValue := by decide +kernel
theorem lkX4_keepValue_2 : (.fieldLink RX4 23 "PairingDeskModel" "vv" "[J" : Cond) ∈ wsX4_keepValue := by decide +kernel
theorem lkX4_keepValue_3 : (.fieldLink RX4 119 "PairingDeskModel" "v" "J" : Cond) ∈ wsX4_keepValue := by decide +kernel
theorem iwX4_keepValue_4 : ∀ w ∈ wsX40, w ∈ wsX4_keepValue := by decide +kernel
theorem hdX4_keepValue : KN yX4_keepValue 1 := by decide +kernel
set_option maxHeartbeats 4000000 in
set_option maxRecDepth 100000 in
theorem kX4_keepValue (l : Launch) (D : va_G) (cJ cZ : ClassId) (mo a1 a2 a3 a4 a5 : Nat) (zp : Int64) (zr : Int64) (zh : Int64) (zx : Int64) (zy : Int64) (zi : Bool) (zu : Int64) (zv : Int64) (zl : Int32) (zpx : Nat → Int64) (zpy : Nat → Int64) (zip : Nat → Bool) (zvu : Nat → Int64) (zvv : Nat → Int64) (q0 : Int32) (sz : Nat) (rr : Int32) (ozvu : Nat → Int64) (ozvv : Nat → Int64) (h : fX4_keepValue zu zv zvu zvv q0 = some (rr, ozvu, ozvv)) : Met l yX4_keepValue wsX4_keepValue rmX4_keepValue (PE D cJ cZ [.ref mo, .int q0] [(mo, .inr (4, [.long zp, .long zr, .long zh, .ref a1, .ref a2, .ref a3, .ref a4, .ref a5, .long zx, .long zy, .int (bI zi), .long zu, .long zv, .int zl])), (a1, .inl (cJ, 16, .inr (.inl zpx))), (a2, .inl (cJ, 16, .inr (.inl zpy))), (a3, .inl (cZ, 16, .inl (fun i => bI (zip i)))), (a4, .inl (cJ, 8, .inr (.inl zvu))), (a5, .inl (cJ, 8, .inr (.inl zvv)))] sz) (QE D (some (.int rr)) [(mo, .inr (4, [.long zp, .long zr, .long zh, .ref a1, .ref a2, .ref a3, .ref a4, .ref a5, .long zx, .long zy, .int (bI zi), .long zu, .long zv, .int zl])), (a1, .inl (cJ, 16, .inr (.inl zpx))), (a2, .inl (cJ, 16, .inr (.inl zpy))), (a3, .inl (cZ, 16, .inl (fun i => bI (zip i)))), (a4, .inl (cJ, 8, .inr (.inl ozvu))), (a5, .inl (cJ, 8, .inr (.inl ozvv)))] (va_A [(mo, .inr (4, [.long zp, .long zr, .long zh, .ref a1, .ref a2, .ref a3, .ref a4, .ref a5, .long zx, .long zy, .int (bI zi), .long zu, .long zv, .int zl])), (a1, .inl (cJ, 16, .inr (.inl zpx))), (a2, .inl (cJ, 16, .inr (.inl zpy))), (a3, .inl (cZ, 16, .inl (fun i => bI (zip i)))), (a4, .inl (cJ, 8, .inr (.inl zvu))), (a5, .inl (cJ, 8, .inr (.inl zvv)))] sz)) 0 0 (va_A [(mo, .inr (4, [.long zp, .long zr, .long zh, .ref a1, .ref a2, .ref a3, .ref a4, .ref a5, .long zx, .long zy, .int (bI zi), .long zu, .long zv, .int zl])), (a1, .inl (cJ, 16, .inr (.inl zpx))), (a2, .inl (cJ, 16, .inr (.inl zpy))), (a3, .inl (cZ, 16, .inl (fun i => bI (zip i)))), (a4, .inl (cJ, 8, .inr (.inl zvu))), (a5, .inl (cJ, 8, .inr (.inl zvv)))] sz) := by
  refine Met.ofW (cc := cX4_keepValue) (maxL := 2) (ret := some .int) (by decide) rfl ?_
  intro pg e s m args below meth c s₁ B hml hv
  obtain ⟨rfl, hsz, hP, hE, hD0⟩ := hv
  have hx := B.exec
  have hb := B.bytes
  have hr := B.returns
  have hlocks := B.notSynchronized
  have C0 : CallFix pg m c cX4_keepValue 2 s ([.ref mo, .int q0] : List Value).toArray wsX4_keepValue RX4 := ⟨hx, hb, hml, findClass_of_methodNamed B.named, atoms_spec (ws := wsX4_keepValue) B.pre⟩
  have hown := C0.2.2.2.1
  have hts := C0.2.2.2.2
  subst hsz
  have hD := hD0.self (sz := s.heap.size)
  generalize hAe : va_A [(mo, .inr (4, [.long zp, .long zr, .long zh, .ref a1, .ref a2, .ref a3, .ref a4, .ref a5, .long zx, .long zy, .int (bI zi), .long zu, .long zv, .int zl])), (a1, .inl (cJ, 16, .inr (.inl zpx))), (a2, .inl (cJ, 16, .inr (.inl zpy))), (a3, .inl (cZ, 16, .inl (fun i => bI (zip i)))), (a4, .inl (cJ, 8, .inr (.inl zvu))), (a5, .inl (cJ, 8, .inr (.inl zvv)))] s.heap.size = A at hD ⊢
  have hA : ∀ q : Nat, s.heap.size ≤ q → A q := fun q h => by rw [← hAe]; exact Or.inr h
  have hS : va_S A s.heap s.heap [] := va_S.rf
  have hP : va_P D vwCl [(mo, .inr (4, [.long zp, .long zr, .long zh, .ref a1, .ref a2, .ref a3, .ref a4, .ref a5, .long zx, .long zy, .int (bI zi), .long zu, .long zv, .int zl])), (a1, .inl (cJ, 16, .inr (.inl zpx))), (a2, .inl (cJ, 16, .inr (.inl zpy))), (a3, .inl (cZ, 16, .inl (fun i => bI (zip i)))), (a4, .inl (cJ, 8, .inr (.inl zvu))), (a5, .inl (cJ, 8, .inr (.inl zvv)))] s.heap := hP
  have hl := lv_entry ([.ref mo, .int q0]) (n := 2) (Nat.le_of_ble_eq_true rfl)
  rw [lg_entry_eq]
  generalize (lg_sl ([.ref mo, .int q0]) ++ List.replicate (2 - (lg_sl ([.ref mo, .int q0])).length) Slot.unset).toArray = ls at hl ⊢
  have hl : lv_has ls 2 [(0, .ref mo), (1, .int q0)] := hl
  suffices key : ∀ (H : Heap) (locs : List Loc), va_P D vwCl [(mo, .inr (4, [.long zp, .long zr, .long zh, .ref a1, .ref a2, .ref a3, .ref a4, .ref a5, .long zx, .long zy, .int (bI zi), .long zu, .long zv, .int zl])), (a1, .inl (cJ, 16, .inr (.inl zpx))), (a2, .inl (cJ, 16, .inr (.inl zpy))), (a3, .inl (cZ, 16, .inl (fun i => bI (zip i)))), (a4, .inl (cJ, 8, .inr (.inl zvu))), (a5, .inl (cJ, 8, .inr (.inl zvv)))] H → va_D A [(mo, .inr (4, [.long zp, .long zr, .long zh, .ref a1, .ref a2, .ref a3, .ref a4, .ref a5, .long zx, .long zy, .int (bI zi), .long zu, .long zv, .int zl])), (a1, .inl (cJ, 16, .inr (.inl zpx))), (a2, .inl (cJ, 16, .inr (.inl zpy))), (a3, .inl (cZ, 16, .inl (fun i => bI (zip i)))), (a4, .inl (cJ, 8, .inr (.inl zvu))), (a5, .inl (cJ, 8, .inr (.inl zvv)))] → va_S A s.heap H locs → W pg l e (headSpec wsX4_keepValue rmX4_keepValue).room s m ([.ref mo, .int q0] : List Value).toArray below meth c H locs 0 0 (MQ below (QE D (some (.int rr)) [(mo, .inr (4, [.long zp, .long zr, .long zh, .ref a1, .ref a2, .ref a3, .ref a4, .ref a5, .long zx, .long zy, .int (bI zi), .long zu, .long zv, .int zl])), (a1, .inl (cJ, 16, .inr (.inl zpx))), (a2, .inl (cJ, 16, .inr (.inl zpy))), (a3, .inl (cZ, 16, .inl (fun i => bI (zip i)))), (a4, .inl (cJ, 8, .inr (.inl ozvu))), (a5, .inl (cJ, 8, .inr (.inl ozvv)))] A) ([.ref mo, .int q0] : List Value).toArray s 0 0 A) (F0 m 0 ls []) from key s.heap [] hP hD hS
  intro H locs hP hD hS
  unfold fX4_keepValue at h
  refine lv_aload_n hx hb dX4_keepValue_0 rfl (lv_at hl 0 rfl) ?_
  refine va_get (D := D) (ci := 4) (v := .ref a4) (C := RX4) (T := TX4) (N := 14) hx hb hts iwX4_keepValue_4 hown hE.1 hP 0 rfl rfl 6 (by decide) (hts _ lkX4_keepValue_0) (fun _ h9 => h9) rfl dX4_keepValue_1 ?_
  refine lv_iload_n hx hb dX4_keepValue_4 rfl (lv_at hl 1 rfl) ?_
  refine lv_aload_n hx hb dX4_keepValue_5 rfl (lv_at hl 0 rfl) ?_
  refine va_get (D := D) (ci := 4) (v := .long zu) (C := RX4) (T := TX4) (N := 14) hx hb hts iwX4_keepValue_4 hown hE.1 hP 0 rfl rfl 11 (by decide) (hts _ lkX4_keepValue_1) (fun _ h9 => h9) rfl dX4_keepValue_6 ?_
  obtain ⟨c1, h⟩ := ite_n h
  refine va_last hx hb hE.1 hP hD hS 4 0 rfl rfl c1 dX4_keepValue_9 (fun H locs hP hD hS => ?_)
  have hP : va_P D vwCl [(mo, .inr (4, [.long zp, .long zr, .long zh, .ref a1, .ref a2, .ref a3, .ref a4, .ref a5, .long zx, .long zy, .int (bI zi), .long zu, .long zv, .int zl])), (a1, .inl (cJ, 16, .inr (.inl zpx))), (a2, .inl (cJ, 16, .inr (.inl zpy))), (a3, .inl (cZ, 16, .inl (fun i => bI (zip i)))), (a4, .inl (cJ, 8, .inr (.inl (vp_updL zvu q0.toNatClampNeg zu)))), (a5, .inl (cJ, 8, .inr (.inl zvv)))] H := hP
  have hD : va_D A [(mo, .inr (4, [.long zp, .long zr, .long zh, .ref a1, .ref a2, .ref a3, .ref a4, .ref a5, .long zx, .long zy, .int (bI zi), .long zu, .long zv, .int zl])), (a1, .inl (cJ, 16, .inr (.inl zpx))), (a2, .inl (cJ, 16, .inr (.inl zpy))), (a3, .inl (cZ, 16, .inl (fun i => bI (zip i)))), (a4, .inl (cJ, 8, .inr (.inl (vp_updL zvu q0.toNatClampNeg zu)))), (a5, .inl (cJ, 8, .inr (.inl zvv)))] := hD
  obtain ⟨w2, ew2, h⟩ := bnd_s h
  rw [← ew2] at hP hD
  refine lv_aload_n hx hb dX4_keepValue_10 rfl (lv_at hl 0 rfl) ?_
  refine va_get (D := D) (ci := 4) (v := .ref a5) (C := RX4) (T := TX4) (N := 14) hx hb hts iwX4_keepValue_4 hown hE.1 hP 0 rfl rfl 7 (by decide) (hts _ lkX4_keepValue_2) (fun _ h9 => h9) rfl dX4_keepValue_11 ?_
  refine lv_iload_n hx hb dX4_keepValue_14 rfl (lv_at hl 1 rfl) ?_
  refine lv_aload_n hx hb dX4_keepValue_15 rfl (lv_at hl 0 rfl) ?_
  refine va_get (D := D) (ci := 4) (v := .long zv) (C := RX4) (T := TX4) (N := 14) hx hb hts iwX4_keepValue_4 hown hE.1 hP 0 rfl rfl 12 (by decide) (hts _ lkX4_keepValue_3) (fun _ h9 => h9) rfl dX4_keepValue_16 ?_
  refine va_last hx hb hE.1 hP hD hS 5 0 rfl rfl c1 dX4_keepValue_19 (fun H locs hP hD hS => ?_)
  have hP : va_P D vwCl [(mo, .inr (4, [.long zp, .long zr, .long zh, .ref a1, .ref a2, .ref a3, .ref a4, .ref a5, .long zx, .long zy, .int (bI zi), .long zu, .long zv, .int zl])), (a1, .inl (cJ, 16, .inr (.inl zpx))), (a2, .inl (cJ, 16, .inr (.inl zpy))), (a3, .inl (cZ, 16, .inl (fun i => bI (zip i)))), (a4, .inl (cJ, 8, .inr (.inl w2))), (a5, .inl (cJ, 8, .inr (.inl (vp_updL zvv q0.toNatClampNeg zv))))] H := hP
  have hD : va_D A [(mo, .inr (4, [.long zp, .long zr, .long zh, .ref a1, .ref a2, .ref a3, .ref a4, .ref a5, .long zx, .long zy, .int (bI zi), .long zu, .long zv, .int zl])), (a1, .inl (cJ, 16, .inr (.inl zpx))), (a2, .inl (cJ, 16, .inr (.inl zpy))), (a3, .inl (cZ, 16, .inl (fun i => bI (zip i)))), (a4, .inl (cJ, 8, .inr (.inl w2))), (a5, .inl (cJ, 8, .inr (.inl (vp_updL zvv q0.toNatClampNeg zv))))] := hD
  obtain ⟨w3, ew3, h⟩ := bnd_s h
  rw [← ew3] at hP hD
  refine lv_aload_n hx hb dX4_keepValue_20 rfl (lv_at hl 0 rfl) ?_
  refine va_get (D := D) (ci := 4) (v := .long zu) (C := RX4) (T := TX4) (N := 14) hx hb hts iwX4_keepValue_4 hown hE.1 hP 0 rfl rfl 11 (by decide) (hts _ lkX4_keepValue_1) (fun _ h9 => h9) rfl dX4_keepValue_21 ?_
  refine lv_lconst (v := 1) hx hb dX4_keepValue_24 (by decide) ?_
  refine lc_ne (tgt := 42) hx hb dX4_keepValue_25 dX4_keepValue_26 (by decide) (fun c4 => ?_) (fun c4 => ?_)
  · have h := ite_f c4 h
    refine lv_iconst (v := 0) hx hb dX4_keepValue_42 (by decide) ?_
    cases h
    exact rfI hx hb hr hlocks hP hD hS dX4_keepValue_43
  · have h := ite_t c4 h
    refine lv_aload_n hx hb dX4_keepValue_29 rfl (lv_at hl 0 rfl) ?_
    refine va_get (D := D) (ci := 4) (v := .long zv) (C := RX4) (T := TX4) (N := 14) hx hb hts iwX4_keepValue_4 hown hE.1 hP 0 rfl rfl 12 (by decide) (hts _ lkX4_keepValue_3) (fun _ h9 => h9) rfl dX4_keepValue_30 ?_
    refine lv_lconst (v := 0) hx hb dX4_keepValue_33 (by decide) ?_
    refine lc_ne (tgt := 42) hx hb dX4_keepValue_34 dX4_keepValue_35 (by decide) (fun c5 => ?_) (fun c5 => ?_)
    · have h := ite_f c5 h
      refine lv_iconst (v := 0) hx hb dX4_keepValue_42 (by decide) ?_
      cases h
      exact rfI hx hb hr hlocks hP hD hS dX4_keepValue_43
    · have h := ite_t c5 h
      refine lv_iconst (v := 1) hx hb dX4_keepValue_38 (by decide) ?_
      refine lv_goto (tgt := 43) hx hb dX4_keepValue_39 (by decide) ?_
      cases h
      exact rfI hx hb hr hlocks hP hD hS dX4_keepValue_43
def fX4_multiply  (zp : Int64) (zu : Int64) (zv : Int64) (zvu : Nat → Int64) (zvv : Nat → Int64) (q0 : Int32) (q1 : Int32) (q2 : Int32) : Option (Int32 × Int64 × Int64 × (Nat → Int64) × (Nat → Int64)) :=
  if zp = 0 then
    some ((-3), zu, zv, zvu, zvv)
  else
    (fX4_isValue q0).bind fun r2 =>
    if (bI r2) = 0 then
      some ((-2), zu, zv, zvu, zvv)
    else
      (fX4_isValue q1).bind fun r5 =>
      if (bI r5) = 0 then
        some ((-2), zu, zv, zvu, zvv)
      else
        (fX4_isValue q2).bind fun r8 =>
        if (bI r8) = 0 then
          some ((-2), zu, zv, zvu, zvv)
        else
          if q1 < 0 ∨ 8 ≤ q1.toNatClampNeg then none else
          bnd (zvu q1.toNatClampNeg) fun w12 =>
          bnd (zvv q1.toNatClampNeg) fun w13 =>
          if q2 < 0 ∨ 8 ≤ q2.toNatClampNeg then none else
          (fX4_multiply2 zp w12 w13 (zvu q2.toNatClampNeg) (zvv q2.toNatClampNeg)).bind fun (o15, o16) =>
          (fX4_keepValue o15 o16 zvu zvv q0).bind fun (r18, o19, o20) =>
          some (r18, o15, o16, o19, o20)
abbrev rmX4_multiply : Room := { frames := 2, cells := 0, slots := 0, locals := 45 }
theorem lkX4_multiply_0 : (.fieldLink RX4 28 "PairingDeskModel" "p" "J" : Cond) ∈ wsX4_multiply := by decide +kernel
theorem lkX4_multiply_1 : (.fieldLink RX4 20 "PairingDeskModel" "vu" "[J" : Cond) ∈ wsX4_multiply := by decide +kernel
theorem lkX4_multiply_2 : (.fieldLink RX4 116 "PairingDeskModel" "u" "J" : Cond) ∈ wsX4_multiply := by decide +kernel
theorem lkX4_multiply_3 : (.fieldLink RX4 23 "PairingDeskModel" "vv" "[J" : Cond) ∈ wsX4_multiply := by decide +kernel
theorem lkX4_multiply_4 : (.fieldLink RX4 119 "PairingDeskModel" "v" "J" : Cond) ∈ wsX4_multiply := by decide +kernel
theorem iwX4_multiply_4 : ∀ w ∈ wsX40, w ∈ wsX4_multiply := by decide +kernel
theorem hdX4_multiply : KN yX4_multiply 3 := by decide +kernel
set_option maxHeartbeats 4000000 in
set_option maxRecDepth 100000 in
theorem kX4_multiply (l : Launch) (D : va_G) (cJ cZ : ClassId) (mo a1 a2 a3 a4 a5 : Nat) (zp : Int64) (zr : Int64) (zh : Int64) (zx : Int64) (zy : Int64) (zi : Bool) (zu : Int64) (zv : Int64) (zl : Int32) (zpx : Nat → Int64) (zpy : Nat → Int64) (zip : Nat → Bool) (zvu : Nat → Int64) (zvv : Nat → Int64) (q0 : Int32) (q1 : Int32) (q2 : Int32) (sz : Nat) (rr : Int32) (ozu : Int64) (ozv : Int64) (ozvu : Nat → Int64) (ozvv : Nat → Int64) (h : fX4_multiply zp zu zv zvu zvv q0 q1 q2 = some (rr, ozu, ozv, ozvu, ozvv)) : Met l yX4_multiply wsX4_multiply rmX4_multiply (PE D cJ cZ [.ref mo, .int q0, .int q1, .int q2] [(mo, .inr (4, [.long zp, .long zr, .long zh, .ref a1, .ref a2, .ref a3, .ref a4, .ref a5, .long zx, .long zy, .int (bI zi), .long zu, .long zv, .int zl])), (a1, .inl (cJ, 16, .inr (.inl zpx))), (a2, .inl (cJ, 16, .inr (.inl zpy))), (a3, .inl (cZ, 16, .inl (fun i => bI (zip i)))), (a4, .inl (cJ, 8, .inr (.inl zvu))), (a5, .inl (cJ, 8, .inr (.inl zvv)))] sz) (QE D (some (.int rr)) [(mo, .inr (4, [.long zp, .long zr, .long zh, .ref a1, .ref a2, .ref a3, .ref a4, .ref a5, .long zx, .long zy, .int (bI zi), .long ozu, .long ozv, .int zl])), (a1, .inl (cJ, 16, .inr (.inl zpx))), (a2, .inl (cJ, 16, .inr (.inl zpy))), (a3, .inl (cZ, 16, .inl (fun i => bI (zip i)))), (a4, .inl (cJ, 8, .inr (.inl ozvu))), (a5, .inl (cJ, 8, .inr (.inl ozvv)))] (va_A [(mo, .inr (4, [.long zp, .long zr, .long zh, .ref a1, .ref a2, .ref a3, .ref a4, .ref a5, .long zx, .long zy, .int (bI zi), .long zu, .long zv, .int zl])), (a1, .inl (cJ, 16, .inr (.inl zpx))), (a2, .inl (cJ, 16, .inr (.inl zpy))), (a3, .inl (cZ, 16, .inl (fun i => bI (zip i)))), (a4, .inl (cJ, 8, .inr (.inl zvu))), (a5, .inl (cJ, 8, .inr (.inl zvv)))] sz)) 0 0 (va_A [(mo, .inr (4, [.long zp, .long zr, .long zh, .ref a1, .ref a2, .ref a3, .ref a4, .ref a5, .long zx, .long zy, .int (bI zi), .long zu, .long zv, .int zl])), (a1, .inl (cJ, 16, .inr (.inl zpx))), (a2, .inl (cJ, 16, .inr (.inl zpy))), (a3, .inl (cZ, 16, .inl (fun i => bI (zip i)))), (a4, .inl (cJ, 8, .inr (.inl zvu))), (a5, .inl (cJ, 8, .inr (.inl zvv)))] sz) := by
  refine Met.ofW (cc := cX4_multiply) (maxL := 4) (ret := some .int) (by decide) rfl ?_
  intro pg e s m args below meth c s₁ B hml hv
  obtain ⟨rfl, hsz, hP, hE, hD0⟩ := hv
  have hx := B.exec
  have hb := B.bytes
  have hr := B.returns
  have hlocks := B.notSynchronized
  have C0 : CallFix pg m c cX4_multiply 4 s ([.ref mo, .int q0, .int q1, .int q2] : List Value).toArray wsX4_multiply RX4 := ⟨hx, hb, hml, findClass_of_methodNamed B.named, atoms_spec (ws := wsX4_multiply) B.pre⟩
  have hown := C0.2.2.2.1
  have hts := C0.2.2.2.2
  subst hsz
  have hD := hD0.self (sz := s.heap.size)
  generalize hAe : va_A [(mo, .inr (4, [.long zp, .long zr, .long zh, .ref a1, .ref a2, .ref a3, .ref a4, .ref a5, .long zx, .long zy, .int (bI zi), .long zu, .long zv, .int zl])), (a1, .inl (cJ, 16, .inr (.inl zpx))), (a2, .inl (cJ, 16, .inr (.inl zpy))), (a3, .inl (cZ, 16, .inl (fun i => bI (zip i)))), (a4, .inl (cJ, 8, .inr (.inl zvu))), (a5, .inl (cJ, 8, .inr (.inl zvv)))] s.heap.size = A at hD ⊢
  have hA : ∀ q : Nat, s.heap.size ≤ q → A q := fun q h => by rw [← hAe]; exact Or.inr h
  have hS : va_S A s.heap s.heap [] := va_S.rf
  have hP : va_P D vwCl [(mo, .inr (4, [.long zp, .long zr, .long zh, .ref a1, .ref a2, .ref a3, .ref a4, .ref a5, .long zx, .long zy, .int (bI zi), .long zu, .long zv, .int zl])), (a1, .inl (cJ, 16, .inr (.inl zpx))), (a2, .inl (cJ, 16, .inr (.inl zpy))), (a3, .inl (cZ, 16, .inl (fun i => bI (zip i)))), (a4, .inl (cJ, 8, .inr (.inl zvu))), (a5, .inl (cJ, 8, .inr (.inl zvv)))] s.heap := hP
  have hl := lv_entry ([.ref mo, .int q0, .int q1, .int q2]) (n := 4) (Nat.le_of_ble_eq_true rfl)
  rw [lg_entry_eq]
  generalize (lg_sl ([.ref mo, .int q0, .int q1, .int q2]) ++ List.replicate (4 - (lg_sl ([.ref mo, .int q0, .int q1, .int q2])).length) Slot.unset).toArray = ls at hl ⊢
  have hl : lv_has ls 4 [(0, .ref mo), (1, .int q0), (2, .int q1), (3, .int q2)] := hl
  suffices key : ∀ (H : Heap) (locs : List Loc), va_P D vwCl [(mo, .inr (4, [.long zp, .long zr, .long zh, .ref a1, .ref a2, .ref a3, .ref a4, .ref a5, .long zx, .long zy, .int (bI zi), .long zu, .long zv, .int zl])), (a1, .inl (cJ, 16, .inr (.inl zpx))), (a2, .inl (cJ, 16, .inr (.inl zpy))), (a3, .inl (cZ, 16, .inl (fun i => bI (zip i)))), (a4, .inl (cJ, 8, .inr (.inl zvu))), (a5, .inl (cJ, 8, .inr (.inl zvv)))] H → va_D A [(mo, .inr (4, [.long zp, .long zr, .long zh, .ref a1, .ref a2, .ref a3, .ref a4, .ref a5, .long zx, .long zy, .int (bI zi), .long zu, .long zv, .int zl])), (a1, .inl (cJ, 16, .inr (.inl zpx))), (a2, .inl (cJ, 16, .inr (.inl zpy))), (a3, .inl (cZ, 16, .inl (fun i => bI (zip i)))), (a4, .inl (cJ, 8, .inr (.inl zvu))), (a5, .inl (cJ, 8, .inr (.inl zvv)))] → va_S A s.heap H locs → W pg l e (headSpec wsX4_multiply rmX4_multiply).room s m ([.ref mo, .int q0, .int q1, .int q2] : List Value).toArray below meth c H locs 0 0 (MQ below (QE D (some (.int rr)) [(mo, .inr (4, [.long zp, .long zr, .long zh, .ref a1, .ref a2, .ref a3, .ref a4, .ref a5, .long zx, .long zy, .int (bI zi), .long ozu, .long ozv, .int zl])), (a1, .inl (cJ, 16, .inr (.inl zpx))), (a2, .inl (cJ, 16, .inr (.inl zpy))), (a3, .inl (cZ, 16, .inl (fun i => bI (zip i)))), (a4, .inl (cJ, 8, .inr (.inl ozvu))), (a5, .inl (cJ, 8, .inr (.inl ozvv)))] A) ([.ref mo, .int q0, .int q1, .int q2] : List Value).toArray s 0 0 A) (F0 m 0 ls []) from key s.heap [] hP hD hS
  intro H locs hP hD hS
  unfold fX4_multiply at h
  refine lv_aload_n hx hb dX4_multiply_0 rfl (lv_at hl 0 rfl) ?_
  refine va_get (D := D) (ci := 4) (v := .long zp) (C := RX4) (T := TX4) (N := 14) hx hb hts iwX4_multiply_4 hown hE.1 hP 0 rfl rfl 0 (by decide) (hts _ lkX4_multiply_0) (fun _ h9 => h9) rfl dX4_multiply_1 ?_
  refine lv_lconst (v := 0) hx hb dX4_multiply_4 (by decide) ?_
  refine lc_ne (tgt := 12) hx hb dX4_multiply_5 dX4_multiply_6 (by decide) (fun c1 => ?_) (fun c1 => ?_)
  · have h := ite_f c1 h
    refine lv_iload_n hx hb dX4_multiply_12 rfl (lv_at hl 1 rfl) ?_
    obtain ⟨r2, h3, h⟩ := bind_s h
    refine ki (kS (As := [.int q0]) (rest := []) C0 (kX4_isValue l D cJ cZ q0 r2 h3) gX4_multiply_X4_isValue rfl ⟨rfl, rfl⟩ hdX4_isValue ⟨Nat.le_of_ble_eq_true rfl, Nat.le_of_ble_eq_true rfl⟩ (hP.sub [] rfl) hE hl rfl rfl (Nat.le_of_ble_eq_true rfl) dX4_multiply_13 (Nat.zero_le _) (Nat.zero_le _)) ?_
    refine lv_if_eq (tgt := 33) hx hb dX4_multiply_16 (by decide) (fun c4 => ?_) (fun c4 => ?_)
    · have h := ite_t c4 h
      refine lv_bipush (v := (-2)) hx hb dX4_multiply_33 (by decide) ?_
      cases h
      exact rfI hx hb hr hlocks hP hD hS dX4_multiply_35
    · have h := ite_f c4 h
      refine lv_iload_n hx hb dX4_multiply_19 rfl (lv_at hl 2 rfl) ?_
      obtain ⟨r5, h6, h⟩ := bind_s h
      refine ki (kS (As := [.int q1]) (rest := []) C0 (kX4_isValue l D cJ cZ q1 r5 h6) gX4_multiply_X4_isValue rfl ⟨rfl, rfl⟩ hdX4_isValue ⟨Nat.le_of_ble_eq_true rfl, Nat.le_of_ble_eq_true rfl⟩ (hP.sub [] rfl) hE hl rfl rfl (Nat.le_of_ble_eq_true rfl) dX4_multiply_20 (Nat.zero_le _) (Nat.zero_le _)) ?_
      refine lv_if_eq (tgt := 33) hx hb dX4_multiply_23 (by decide) (fun c7 => ?_) (fun c7 => ?_)
      · have h := ite_t c7 h
        refine lv_bipush (v := (-2)) hx hb dX4_multiply_33 (by decide) ?_
        cases h
        exact rfI hx hb hr hlocks hP hD hS dX4_multiply_35
      · have h := ite_f c7 h
        refine lv_iload_n hx hb dX4_multiply_26 rfl (lv_at hl 3 rfl) ?_
        obtain ⟨r8, h9, h⟩ := bind_s h
        refine ki (kS (As := [.int q2]) (rest := []) C0 (kX4_isValue l D cJ cZ q2 r8 h9) gX4_multiply_X4_isValue rfl ⟨rfl, rfl⟩ hdX4_isValue ⟨Nat.le_of_ble_eq_true rfl, Nat.le_of_ble_eq_true rfl⟩ (hP.sub [] rfl) hE hl rfl rfl (Nat.le_of_ble_eq_true rfl) dX4_multiply_27 (Nat.zero_le _) (Nat.zero_le _)) ?_
        refine lv_if_ne (tgt := 36) hx hb dX4_multiply_30 (by decide) (fun c10 => ?_) (fun c10 => ?_)
        · have h := ite_f c10 h
          refine lv_aload_n hx hb dX4_multiply_36 rfl (lv_at hl 0 rfl) ?_
          refine lv_aload_n hx hb dX4_multiply_37 rfl (lv_at hl 0 rfl) ?_
          refine va_get (D := D) (ci := 4) (v := .ref a4) (C := RX4) (T := TX4) (N := 14) hx hb hts iwX4_multiply_4 hown hE.1 hP 0 rfl rfl 6 (by decide) (hts _ lkX4_multiply_1) (fun _ h9 => h9) rfl dX4_multiply_38 ?_
          refine lv_iload_n hx hb dX4_multiply_41 rfl (lv_at hl 2 rfl) ?_
          obtain ⟨c11, h⟩ := ite_n h
          refine va_lald hx hb hE.1 hP 4 0 rfl rfl c11 dX4_multiply_42 ?_
          obtain ⟨w12, ew12, h⟩ := bnd_s h
          refine tl ew12.symm ?_
          refine va_put (D := D) (ci := 4) (v := .long w12) (ty := .long) (C := RX4) (T := TX4) (N := 14) hx hb hts iwX4_multiply_4 tyX4 tyX4_ok nmX4 hown hE.1 hP hD hS 0 rfl rfl 11 (by decide) (hts _ lkX4_multiply_2) (fun _ h9 => h9) rfl (by decide +kernel) rfl rfl (Nat.le_of_ble_eq_true rfl) dX4_multiply_43 (fun H locs hP hD hS => ?_)
          have hP : va_P D vwCl [(mo, .inr (4, [.long zp, .long zr, .long zh, .ref a1, .ref a2, .ref a3, .ref a4, .ref a5, .long zx, .long zy, .int (bI zi), .long w12, .long zv, .int zl])), (a1, .inl (cJ, 16, .inr (.inl zpx))), (a2, .inl (cJ, 16, .inr (.inl zpy))), (a3, .inl (cZ, 16, .inl (fun i => bI (zip i)))), (a4, .inl (cJ, 8, .inr (.inl zvu))), (a5, .inl (cJ, 8, .inr (.inl zvv)))] H := hP
          have hD : va_D A [(mo, .inr (4, [.long zp, .long zr, .long zh, .ref a1, .ref a2, .ref a3, .ref a4, .ref a5, .long zx, .long zy, .int (bI zi), .long w12, .long zv, .int zl])), (a1, .inl (cJ, 16, .inr (.inl zpx))), (a2, .inl (cJ, 16, .inr (.inl zpy))), (a3, .inl (cZ, 16, .inl (fun i => bI (zip i)))), (a4, .inl (cJ, 8, .inr (.inl zvu))), (a5, .inl (cJ, 8, .inr (.inl zvv)))] := hD
          refine lv_aload_n hx hb dX4_multiply_46 rfl (lv_at hl 0 rfl) ?_
          refine lv_aload_n hx hb dX4_multiply_47 rfl (lv_at hl 0 rfl) ?_
          refine va_get (D := D) (ci := 4) (v := .ref a5) (C := RX4) (T := TX4) (N := 14) hx hb hts iwX4_multiply_4 hown hE.1 hP 0 rfl rfl 7 (by decide) (hts _ lkX4_multiply_3) (fun _ h9 => h9) rfl dX4_multiply_48 ?_
          refine lv_iload_n hx hb dX4_multiply_51 rfl (lv_at hl 2 rfl) ?_
          refine va_lald hx hb hE.1 hP 5 0 rfl rfl c11 dX4_multiply_52 ?_
          obtain ⟨w13, ew13, h⟩ := bnd_s h
          refine tl ew13.symm ?_
          refine va_put (D := D) (ci := 4) (v := .long w13) (ty := .long) (C := RX4) (T := TX4) (N := 14) hx hb hts iwX4_multiply_4 tyX4 tyX4_ok nmX4 hown hE.1 hP hD hS 0 rfl rfl 12 (by decide) (hts _ lkX4_multiply_4) (fun _ h9 => h9) rfl (by decide +kernel) rfl rfl (Nat.le_of_ble_eq_true rfl) dX4_multiply_53 (fun H locs hP hD hS => ?_)
          have hP : va_P D vwCl [(mo, .inr (4, [.long zp, .long zr, .long zh, .ref a1, .ref a2, .ref a3, .ref a4, .ref a5, .long zx, .long zy, .int (bI zi), .long w12, .long w13, .int zl])), (a1, .inl (cJ, 16, .inr (.inl zpx))), (a2, .inl (cJ, 16, .inr (.inl zpy))), (a3, .inl (cZ, 16, .inl (fun i => bI (zip i)))), (a4, .inl (cJ, 8, .inr (.inl zvu))), (a5, .inl (cJ, 8, .inr (.inl zvv)))] H := hP
          have hD : va_D A [(mo, .inr (4, [.long zp, .long zr, .long zh, .ref a1, .ref a2, .ref a3, .ref a4, .ref a5, .long zx, .long zy, .int (bI zi), .long w12, .long w13, .int zl])), (a1, .inl (cJ, 16, .inr (.inl zpx))), (a2, .inl (cJ, 16, .inr (.inl zpy))), (a3, .inl (cZ, 16, .inl (fun i => bI (zip i)))), (a4, .inl (cJ, 8, .inr (.inl zvu))), (a5, .inl (cJ, 8, .inr (.inl zvv)))] := hD
          refine lv_aload_n hx hb dX4_multiply_56 rfl (lv_at hl 0 rfl) ?_
          refine lv_aload_n hx hb dX4_multiply_57 rfl (lv_at hl 0 rfl) ?_
          refine va_get (D := D) (ci := 4) (v := .ref a4) (C := RX4) (T := TX4) (N := 14) hx hb hts iwX4_multiply_4 hown hE.1 hP 0 rfl rfl 6 (by decide) (hts _ lkX4_multiply_1) (fun _ h9 => h9) rfl dX4_multiply_58 ?_
          refine lv_iload_n hx hb dX4_multiply_61 rfl (lv_at hl 3 rfl) ?_
          obtain ⟨c14, h⟩ := ite_n h
          refine va_lald hx hb hE.1 hP 4 0 rfl rfl c14 dX4_multiply_62 ?_
          refine lv_aload_n hx hb dX4_multiply_63 rfl (lv_at hl 0 rfl) ?_
          refine va_get (D := D) (ci := 4) (v := .ref a5) (C := RX4) (T := TX4) (N := 14) hx hb hts iwX4_multiply_4 hown hE.1 hP 0 rfl rfl 7 (by decide) (hts _ lkX4_multiply_3) (fun _ h9 => h9) rfl dX4_multiply_64 ?_
          refine lv_iload_n hx hb dX4_multiply_67 rfl (lv_at hl 3 rfl) ?_
          refine va_lald hx hb hE.1 hP 5 0 rfl rfl c14 dX4_multiply_68 ?_
          obtain ⟨⟨o15, o16⟩, h17, h⟩ := bind_s h
          try dsimp only at h
          refine kE (wc := [(mo, .inr (4, [.long zp, .long zr, .long zh, .ref a1, .ref a2, .ref a3, .ref a4, .ref a5, .long zx, .long zy, .int (bI zi), .long w12, .long w13, .int zl])), (a1, .inl (cJ, 16, .inr (.inl zpx))), (a2, .inl (cJ, 16, .inr (.inl zpy))), (a3, .inl (cZ, 16, .inl (fun i => bI (zip i)))), (a4, .inl (cJ, 8, .inr (.inl zvu))), (a5, .inl (cJ, 8, .inr (.inl zvv)))]) (wr := []) [0, 1, 2, 3, 4, 5] [] hP hD hS hA rfl rfl rfl (by decide) rfl (eV (As := [.long (zvu q2.toNatClampNeg), .long (zvv q2.toNatClampNeg)]) (rest := []) C0 (kX4_multiply2 l D cJ cZ mo a1 a2 a3 a4 a5 zp zr zh zx zy zi w12 w13 zl zpx zpy zip zvu zvv (zvu q2.toNatClampNeg) (zvv q2.toNatClampNeg) H.size o15 o16 h17) gX4_multiply_X4_multiply2 rfl ⟨rfl, rfl⟩ hdX4_multiply2 ⟨Nat.le_of_ble_eq_true rfl, Nat.le_of_ble_eq_true rfl⟩ 4 0 rfl rfl rfl hP hD hE hl rfl rfl (Nat.le_of_ble_eq_true rfl) dX4_multiply_69 ⟨Nat.zero_le _, Nat.zero_le _⟩) (fun H locs hP hD hS => ?_)
          have hP : va_P D vwCl [(mo, .inr (4, [.long zp, .long zr, .long zh, .ref a1, .ref a2, .ref a3, .ref a4, .ref a5, .long zx, .long zy, .int (bI zi), .long o15, .long o16, .int zl])), (a1, .inl (cJ, 16, .inr (.inl zpx))), (a2, .inl (cJ, 16, .inr (.inl zpy))), (a3, .inl (cZ, 16, .inl (fun i => bI (zip i)))), (a4, .inl (cJ, 8, .inr (.inl zvu))), (a5, .inl (cJ, 8, .inr (.inl zvv)))] H := hP
          have hD : va_D A [(mo, .inr (4, [.long zp, .long zr, .long zh, .ref a1, .ref a2, .ref a3, .ref a4, .ref a5, .long zx, .long zy, .int (bI zi), .long o15, .long o16, .int zl])), (a1, .inl (cJ, 16, .inr (.inl zpx))), (a2, .inl (cJ, 16, .inr (.inl zpy))), (a3, .inl (cZ, 16, .inl (fun i => bI (zip i)))), (a4, .inl (cJ, 8, .inr (.inl zvu))), (a5, .inl (cJ, 8, .inr (.inl zvv)))] := hD
          refine lv_aload_n hx hb dX4_multiply_72 rfl (lv_at hl 0 rfl) ?_
          refine lv_iload_n hx hb dX4_multiply_73 rfl (lv_at hl 1 rfl) ?_
          obtain ⟨⟨r18, o19, o20⟩, h21, h⟩ := bind_s h
          try dsimp only at h
          refine kE (wc := [(mo, .inr (4, [.long zp, .long zr, .long zh, .ref a1, .ref a2, .ref a3, .ref a4, .ref a5, .long zx, .long zy, .int (bI zi), .long o15, .long o16, .int zl])), (a1, .inl (cJ, 16, .inr (.inl zpx))), (a2, .inl (cJ, 16, .inr (.inl zpy))), (a3, .inl (cZ, 16, .inl (fun i => bI (zip i)))), (a4, .inl (cJ, 8, .inr (.inl zvu))), (a5, .inl (cJ, 8, .inr (.inl zvv)))]) (wr := []) [0, 1, 2, 3, 4, 5] [] hP hD hS hA rfl rfl rfl (by decide) rfl (eV (As := [.int q0]) (rest := []) C0 (kX4_keepValue l D cJ cZ mo a1 a2 a3 a4 a5 zp zr zh zx zy zi o15 o16 zl zpx zpy zip zvu zvv q0 H.size r18 o19 o20 h21) gX4_multiply_X4_keepValue rfl ⟨rfl, rfl⟩ hdX4_keepValue ⟨Nat.le_of_ble_eq_true rfl, Nat.le_of_ble_eq_true rfl⟩ 4 0 rfl rfl rfl hP hD hE hl rfl rfl (Nat.le_of_ble_eq_true rfl) dX4_multiply_74 ⟨Nat.zero_le _, Nat.zero_le _⟩) (fun H locs hP hD hS => ?_)
          have hP : va_P D vwCl [(mo, .inr (4, [.long zp, .long zr, .long zh, .ref a1, .ref a2, .ref a3, .ref a4, .ref a5, .long zx, .long zy, .int (bI zi), .long o15, .long o16, .int zl])), (a1, .inl (cJ, 16, .inr (.inl zpx))), (a2, .inl (cJ, 16, .inr (.inl zpy))), (a3, .inl (cZ, 16, .inl (fun i => bI (zip i)))), (a4, .inl (cJ, 8, .inr (.inl o19))), (a5, .inl (cJ, 8, .inr (.inl o20)))] H := hP
          have hD : va_D A [(mo, .inr (4, [.long zp, .long zr, .long zh, .ref a1, .ref a2, .ref a3, .ref a4, .ref a5, .long zx, .long zy, .int (bI zi), .long o15, .long o16, .int zl])), (a1, .inl (cJ, 16, .inr (.inl zpx))), (a2, .inl (cJ, 16, .inr (.inl zpy))), (a3, .inl (cZ, 16, .inl (fun i => bI (zip i)))), (a4, .inl (cJ, 8, .inr (.inl o19))), (a5, .inl (cJ, 8, .inr (.inl o20)))] := hD
          cases h
          exact rfI hx hb hr hlocks hP hD hS dX4_multiply_77
        · have h := ite_t c10 h
          refine lv_bipush (v := (-2)) hx hb dX4_multiply_33 (by decide) ?_
          cases h
          exact rfI hx hb hr hlocks hP hD hS dX4_multiply_35
  · have h := ite_t c1 h
    refine lv_bipush (v := (-3)) hx hb dX4_multiply_9 (by decide) ?_
    cases h
    exact rfI hx hb hr hlocks hP hD hS dX4_multiply_11
def fX4_power (N : Nat) (zp : Int64) (zu : Int64) (zv : Int64) (zvu : Nat → Int64) (zvv : Nat → Int64) (q0 : Int32) (q1 : Int32) (q2 : Int64) : Option (Int32 × Int64 × Int64 × (Nat → Int64) × (Nat → Int64)) :=
  if zp = 0 then
    some ((-3), zu, zv, zvu, zvv)
  else
    (fX4_isValue q0).bind fun r2 =>
    if (bI r2) = 0 then
      some ((-2), zu, zv, zvu, zvv)
    else
      (fX4_isValue q1).bind fun r5 =>
      if (bI r5) = 0 then
        some ((-2), zu, zv, zvu, zvv)
      else
        if 0 ≤ q2 then
          if q1 < 0 ∨ 8 ≤ q1.toNatClampNeg then none else
          bnd (zvu q1.toNatClampNeg) fun w10 =>
          bnd (zvv q1.toNatClampNeg) fun w11 =>
          (fX4_power2 N zp w10 w11 q2).bind fun (o12, o13) =>
          (fX4_keepValue o12 o13 zvu zvv q0).bind fun (r15, o16, o17) =>
          some (r15, o12, o13, o16, o17)
        else
          some ((-2), zu, zv, zvu, zvv)
abbrev rmX4_power : Room := { frames := 2, cells := 0, slots := 0, locals := 53 }
theorem lkX4_power_0 : (.fieldLink RX4 28 "PairingDeskModel" "p" "J" : Cond) ∈ wsX4_power := by decide +kernel
theorem lkX4_power_1 : (.fieldLink RX4 20 "PairingDeskModel" "vu" "[J" : Cond) ∈ wsX4_power := by decide +kernel
theorem lkX4_power_2 : (.fieldLink RX4 116 "PairingDeskModel" "u" "J" : Cond) ∈ wsX4_power := by decide +kernel
theorem lkX4_power_3 : (.fieldLink RX4 23 "PairingDeskModel" "vv" "[J" : Cond) ∈ wsX4_power := by decide +kernel
theorem lkX4_power_4 : (.fieldLink RX4 119 "PairingDeskModel" "v" "J" : Cond) ∈ wsX4_power := by decide +kernel
theorem iwX4_power_4 : ∀ w ∈ wsX40, w ∈ wsX4_power := by decide +kernel
theorem hdX4_power : KN yX4_power 3 := by decide +kernel
set_option maxHeartbeats 4000000 in
set_option maxRecDepth 100000 in
theorem kX4_power (l : Launch) (D : va_G) (cJ cZ : ClassId) (mo a1 a2 a3 a4 a5 : Nat) (N : Nat) (zp : Int64) (zr : Int64) (zh : Int64) (zx : Int64) (zy : Int64) (zi : Bool) (zu : Int64) (zv : Int64) (zl : Int32) (zpx : Nat → Int64) (zpy : Nat → Int64) (zip : Nat → Bool) (zvu : Nat → Int64) (zvv : Nat → Int64) (q0 : Int32) (q1 : Int32) (q2 : Int64) (sz : Nat) (rr : Int32) (ozu : Int64) (ozv : Int64) (ozvu : Nat → Int64) (ozvv : Nat → Int64) (h : fX4_power N zp zu zv zvu zvv q0 q1 q2 = some (rr, ozu, ozv, ozvu, ozvv)) : Met l yX4_power wsX4_power rmX4_power (PE D cJ cZ [.ref mo, .int q0, .int q1, .long q2] [(mo, .inr (4, [.long zp, .long zr, .long zh, .ref a1, .ref a2, .ref a3, .ref a4, .ref a5, .long zx, .long zy, .int (bI zi), .long zu, .long zv, .int zl])), (a1, .inl (cJ, 16, .inr (.inl zpx))), (a2, .inl (cJ, 16, .inr (.inl zpy))), (a3, .inl (cZ, 16, .inl (fun i => bI (zip i)))), (a4, .inl (cJ, 8, .inr (.inl zvu))), (a5, .inl (cJ, 8, .inr (.inl zvv)))] sz) (QE D (some (.int rr)) [(mo, .inr (4, [.long zp, .long zr, .long zh, .ref a1, .ref a2, .ref a3, .ref a4, .ref a5, .long zx, .long zy, .int (bI zi), .long ozu, .long ozv, .int zl])), (a1, .inl (cJ, 16, .inr (.inl zpx))), (a2, .inl (cJ, 16, .inr (.inl zpy))), (a3, .inl (cZ, 16, .inl (fun i => bI (zip i)))), (a4, .inl (cJ, 8, .inr (.inl ozvu))), (a5, .inl (cJ, 8, .inr (.inl ozvv)))] (va_A [(mo, .inr (4, [.long zp, .long zr, .long zh, .ref a1, .ref a2, .ref a3, .ref a4, .ref a5, .long zx, .long zy, .int (bI zi), .long zu, .long zv, .int zl])), (a1, .inl (cJ, 16, .inr (.inl zpx))), (a2, .inl (cJ, 16, .inr (.inl zpy))), (a3, .inl (cZ, 16, .inl (fun i => bI (zip i)))), (a4, .inl (cJ, 8, .inr (.inl zvu))), (a5, .inl (cJ, 8, .inr (.inl zvv)))] sz)) 0 0 (va_A [(mo, .inr (4, [.long zp, .long zr, .long zh, .ref a1, .ref a2, .ref a3, .ref a4, .ref a5, .long zx, .long zy, .int (bI zi), .long zu, .long zv, .int zl])), (a1, .inl (cJ, 16, .inr (.inl zpx))), (a2, .inl (cJ, 16, .inr (.inl zpy))), (a3, .inl (cZ, 16, .inl (fun i => bI (zip i)))), (a4, .inl (cJ, 8, .inr (.inl zvu))), (a5, .inl (cJ, 8, .inr (.inl zvv)))] sz) := by
  refine Met.ofW (cc := cX4_power) (maxL := 5) (ret := some .int) (by decide) rfl ?_
  intro pg e s m args below meth c s₁ B hml hv
  obtain ⟨rfl, hsz, hP, hE, hD0⟩ := hv
  have hx := B.exec
  have hb := B.bytes
  have hr := B.returns
  have hlocks := B.notSynchronized
  have C0 : CallFix pg m c cX4_power 5 s ([.ref mo, .int q0, .int q1, .long q2] : List Value).toArray wsX4_power RX4 := ⟨hx, hb, hml, findClass_of_methodNamed B.named, atoms_spec (ws := wsX4_power) B.pre⟩
  have hown := C0.2.2.2.1
  have hts := C0.2.2.2.2
  subst hsz
  have hD := hD0.self (sz := s.heap.size)
  generalize hAe : va_A [(mo, .inr (4, [.long zp, .long zr, .long zh, .ref a1, .ref a2, .ref a3, .ref a4, .ref a5, .long zx, .long zy, .int (bI zi), .long zu, .long zv, .int zl])), (a1, .inl (cJ, 16, .inr (.inl zpx))), (a2, .inl (cJ, 16, .inr (.inl zpy))), (a3, .inl (cZ, 16, .inl (fun i => bI (zip i)))), (a4, .inl (cJ, 8, .inr (.inl zvu))), (a5, .inl (cJ, 8, .inr (.inl zvv)))] s.heap.size = A at hD ⊢
  have hA : ∀ q : Nat, s.heap.size ≤ q → A q := fun q h => by rw [← hAe]; exact Or.inr h
  have hS : va_S A s.heap s.heap [] := va_S.rf
  have hP : va_P D vwCl [(mo, .inr (4, [.long zp, .long zr, .long zh, .ref a1, .ref a2, .ref a3, .ref a4, .ref a5, .long zx, .long zy, .int (bI zi), .long zu, .long zv, .int zl])), (a1, .inl (cJ, 16, .inr (.inl zpx))), (a2, .inl (cJ, 16, .inr (.inl zpy))), (a3, .inl (cZ, 16, .inl (fun i => bI (zip i)))), (a4, .inl (cJ, 8, .inr (.inl zvu))), (a5, .inl (cJ, 8, .inr (.inl zvv)))] s.heap := hP
  have hl := lv_entry ([.ref mo, .int q0, .int q1, .long q2]) (n := 5) (Nat.le_of_ble_eq_true rfl)
  rw [lg_entry_eq]
  generalize (lg_sl ([.ref mo, .int q0, .int q1, .long q2]) ++ List.replicate (5 - (lg_sl ([.ref mo, .int q0, .int q1, .long q2])).length) Slot.unset).toArray = ls at hl ⊢
  have hl : lv_has ls 5 [(0, .ref mo), (1, .int q0), (2, .int q1), (3, .long q2)] := hl
  suffices key : ∀ (H : Heap) (locs : List Loc), va_P D vwCl [(mo, .inr (4, [.long zp, .long zr, .long zh, .ref a1, .ref a2, .ref a3, .ref a4, .ref a5, .long zx, .long zy, .int (bI zi), .long zu, .long zv, .int zl])), (a1, .inl (cJ, 16, .inr (.inl zpx))), (a2, .inl (cJ, 16, .inr (.inl zpy))), (a3, .inl (cZ, 16, .inl (fun i => bI (zip i)))), (a4, .inl (cJ, 8, .inr (.inl zvu))), (a5, .inl (cJ, 8, .inr (.inl zvv)))] H → va_D A [(mo, .inr (4, [.long zp, .long zr, .long zh, .ref a1, .ref a2, .ref a3, .ref a4, .ref a5, .long zx, .long zy, .int (bI zi), .long zu, .long zv, .int zl])), (a1, .inl (cJ, 16, .inr (.inl zpx))), (a2, .inl (cJ, 16, .inr (.inl zpy))), (a3, .inl (cZ, 16, .inl (fun i => bI (zip i)))), (a4, .inl (cJ, 8, .inr (.inl zvu))), (a5, .inl (cJ, 8, .inr (.inl zvv)))] → va_S A s.heap H locs → W pg l e (headSpec wsX4_power rmX4_power).room s m ([.ref mo, .int q0, .int q1, .long q2] : List Value).toArray below meth c H locs 0 0 (MQ below (QE D (some (.int rr)) [(mo, .inr (4, [.long zp, .long zr, .long zh, .ref a1, .ref a2, .ref a3, .ref a4, .ref a5, .long zx, .long zy, .int (bI zi), .long ozu, .long ozv, .int zl])), (a1, .inl (cJ, 16, .inr (.inl zpx))), (a2, .inl (cJ, 16, .inr (.inl zpy))), (a3, .inl (cZ, 16, .inl (fun i => bI (zip i)))), (a4, .inl (cJ, 8, .inr (.inl ozvu))), (a5, .inl (cJ, 8, .inr (.inl ozvv)))] A) ([.ref mo, .int q0, .int q1, .long q2] : List Value).toArray s 0 0 A) (F0 m 0 ls []) from key s.heap [] hP hD hS
  intro H locs hP hD hS
  unfold fX4_power at h
  refine lv_aload_n hx hb dX4_power_0 rfl (lv_at hl 0 rfl) ?_
  refine va_get (D := D) (ci := 4) (v := .long zp) (C := RX4) (T := TX4) (N := 14) hx hb hts iwX4_power_4 hown hE.1 hP 0 rfl rfl 0 (by decide) (hts _ lkX4_power_0) (fun _ h9 => h9) rfl dX4_power_1 ?_
  refine lv_lconst (v := 0) hx hb dX4_power_4 (by decide) ?_
  refine lc_ne (tgt := 12) hx hb dX4_power_5 dX4_power_6 (by decide) (fun c1 => ?_) (fun c1 => ?_)
  · have h := ite_f c1 h
    refine lv_iload_n hx hb dX4_power_12 rfl (lv_at hl 1 rfl) ?_
    obtain ⟨r2, h3, h⟩ := bind_s h
    refine ki (kS (As := [.int q0]) (rest := []) C0 (kX4_isValue l D cJ cZ q0 r2 h3) gX4_power_X4_isValue rfl ⟨rfl, rfl⟩ hdX4_isValue ⟨Nat.le_of_ble_eq_true rfl, Nat.le_of_ble_eq_true rfl⟩ (hP.sub [] rfl) hE hl rfl rfl (Nat.le_of_ble_eq_true rfl) dX4_power_13 (Nat.zero_le _) (Nat.zero_le _)) ?_
    refine lv_if_eq (tgt := 32) hx hb dX4_power_16 (by decide) (fun c4 => ?_) (fun c4 => ?_)
    · have h := ite_t c4 h
      refine lv_bipush (v := (-2)) hx hb dX4_power_32 (by decide) ?_
      cases h
      exact rfI hx hb hr hlocks hP hD hS dX4_power_34
    · have h := ite_f c4 h
      refine lv_iload_n hx hb dX4_power_19 rfl (lv_at hl 2 rfl) ?_
      obtain ⟨r5, h6, h⟩ := bind_s h
      refine ki (kS (As := [.int q1]) (rest := []) C0 (kX4_isValue l D cJ cZ q1 r5 h6) gX4_power_X4_isValue rfl ⟨rfl, rfl⟩ hdX4_isValue ⟨Nat.le_of_ble_eq_true rfl, Nat.le_of_ble_eq_true rfl⟩ (hP.sub [] rfl) hE hl rfl rfl (Nat.le_of_ble_eq_true rfl) dX4_power_20 (Nat.zero_le _) (Nat.zero_le _)) ?_
      refine lv_if_eq (tgt := 32) hx hb dX4_power_23 (by decide) (fun c7 => ?_) (fun c7 => ?_)
      · have h := ite_t c7 h
        refine lv_bipush (v := (-2)) hx hb dX4_power_32 (by decide) ?_
        cases h
        exact rfI hx hb hr hlocks hP hD hS dX4_power_34
      · have h := ite_f c7 h
        refine lv_lload_n hx hb dX4_power_26 rfl (lv_at hl 3 rfl) ?_
        refine lv_lconst (v := 0) hx hb dX4_power_27 (by decide) ?_
        refine lc_ge (tgt := 35) hx hb dX4_power_28 dX4_power_29 (by decide) (fun c8 => ?_) (fun c8 => ?_)
        · have h := ite_t c8 h
          refine lv_aload_n hx hb dX4_power_35 rfl (lv_at hl 0 rfl) ?_
          refine lv_aload_n hx hb dX4_power_36 rfl (lv_at hl 0 rfl) ?_
          refine va_get (D := D) (ci := 4) (v := .ref a4) (C := RX4) (T := TX4) (N := 14) hx hb hts iwX4_power_4 hown hE.1 hP 0 rfl rfl 6 (by decide) (hts _ lkX4_power_1) (fun _ h9 => h9) rfl dX4_power_37 ?_
          refine lv_iload_n hx hb dX4_power_40 rfl (lv_at hl 2 rfl) ?_
          obtain ⟨c9, h⟩ := ite_n h
          refine va_lald hx hb hE.1 hP 4 0 rfl rfl c9 dX4_power_41 ?_
          obtain ⟨w10, ew10, h⟩ := bnd_s h
          refine tl ew10.symm ?_
          refine va_put (D := D) (ci := 4) (v := .long w10) (ty := .long) (C := RX4) (T := TX4) (N := 14) hx hb hts iwX4_power_4 tyX4 tyX4_ok nmX4 hown hE.1 hP hD hS 0 rfl rfl 11 (by decide) (hts _ lkX4_power_2) (fun _ h9 => h9) rfl (by decide +kernel) rfl rfl (Nat.le_of_ble_eq_true rfl) dX4_power_42 (fun H locs hP hD hS => ?_)
          have hP : va_P D vwCl [(mo, .inr (4, [.long zp, .long zr, .long zh, .ref a1, .ref a2, .ref a3, .ref a4, .ref a5, .long zx, .long zy, .int (bI zi), .long w10, .long zv, .int zl])), (a1, .inl (cJ, 16, .inr (.inl zpx))), (a2, .inl (cJ, 16, .inr (.inl zpy))), (a3, .inl (cZ, 16, .inl (fun i => bI (zip i)))), (a4, .inl (cJ, 8, .inr (.inl zvu))), (a5, .inl (cJ, 8, .inr (.inl zvv)))] H := hP
          have hD : va_D A [(mo, .inr (4, [.long zp, .long zr, .long zh, .ref a1, .ref a2, .ref a3, .ref a4, .ref a5, .long zx, .long zy, .int (bI zi), .long w10, .long zv, .int zl])), (a1, .inl (cJ, 16, .inr (.inl zpx))), (a2, .inl (cJ, 16, .inr (.inl zpy))), (a3, .inl (cZ, 16, .inl (fun i => bI (zip i)))), (a4, .inl (cJ, 8, .inr (.inl zvu))), (a5, .inl (cJ, 8, .inr (.inl zvv)))] := hD
          refine lv_aload_n hx hb dX4_power_45 rfl (lv_at hl 0 rfl) ?_
          refine lv_aload_n hx hb dX4_power_46 rfl (lv_at hl 0 rfl) ?_
          refine va_get (D := D) (ci := 4) (v := .ref a5) (C := RX4) (T := TX4) (N := 14) hx hb hts iwX4_power_4 hown hE.1 hP 0 rfl rfl 7 (by decide) (hts _ lkX4_power_3) (fun _ h9 => h9) rfl dX4_power_47 ?_
          refine lv_iload_n hx hb dX4_power_50 rfl (lv_at hl 2 rfl) ?_
          refine va_lald hx hb hE.1 hP 5 0 rfl rfl c9 dX4_power_51 ?_
          obtain ⟨w11, ew11, h⟩ := bnd_s h
          refine tl ew11.symm ?_
          refine va_put (D := D) (ci := 4) (v := .long w11) (ty := .long) (C := RX4) (T := TX4) (N := 14) hx hb hts iwX4_power_4 tyX4 tyX4_ok nmX4 hown hE.1 hP hD hS 0 rfl rfl 12 (by decide) (hts _ lkX4_power_4) (fun _ h9 => h9) rfl (by decide +kernel) rfl rfl (Nat.le_of_ble_eq_true rfl) dX4_power_52 (fun H locs hP hD hS => ?_)
          have hP : va_P D vwCl [(mo, .inr (4, [.long zp, .long zr, .long zh, .ref a1, .ref a2, .ref a3, .ref a4, .ref a5, .long zx, .long zy, .int (bI zi), .long w10, .long w11, .int zl])), (a1, .inl (cJ, 16, .inr (.inl zpx))), (a2, .inl (cJ, 16, .inr (.inl zpy))), (a3, .inl (cZ, 16, .inl (fun i => bI (zip i)))), (a4, .inl (cJ, 8, .inr (.inl zvu))), (a5, .inl (cJ, 8, .inr (.inl zvv)))] H := hP
          have hD : va_D A [(mo, .inr (4, [.long zp, .long zr, .long zh, .ref a1, .ref a2, .ref a3, .ref a4, .ref a5, .long zx, .long zy, .int (bI zi), .long w10, .long w11, .int zl])), (a1, .inl (cJ, 16, .inr (.inl zpx))), (a2, .inl (cJ, 16, .inr (.inl zpy))), (a3, .inl (cZ, 16, .inl (fun i => bI (zip i)))), (a4, .inl (cJ, 8, .inr (.inl zvu))), (a5, .inl (cJ, 8, .inr (.inl zvv)))] := hD
          refine lv_aload_n hx hb dX4_power_55 rfl (lv_at hl 0 rfl) ?_
          refine lv_lload_n hx hb dX4_power_56 rfl (lv_at hl 3 rfl) ?_
          obtain ⟨⟨o12, o13⟩, h14, h⟩ := bind_s h
          try dsimp only at h
          refine kE (wc := [(mo, .inr (4, [.long zp, .long zr, .long zh, .ref a1, .ref a2, .ref a3, .ref a4, .ref a5, .long zx, .long zy, .int (bI zi), .long w10, .long w11, .int zl])), (a1, .inl (cJ, 16, .inr (.inl zpx))), (a2, .inl (cJ, 16, .inr (.inl zpy))), (a3, .inl (cZ, 16, .inl (fun i => bI (zip i)))), (a4, .inl (cJ, 8, .inr (.inl zvu))), (a5, .inl (cJ, 8, .inr (.inl zvv)))]) (wr := []) [0, 1, 2, 3, 4, 5] [] hP hD hS hA rfl rfl rfl (by decide) rfl (eV (As := [.long q2]) (rest := []) C0 (kX4_power2 l D cJ cZ mo a1 a2 a3 a4 a5 N zp zr zh zx zy zi w10 w11 zl zpx zpy zip zvu zvv q2 H.size o12 o13 h14) gX4_power_X4_power2 rfl ⟨rfl, rfl⟩ hdX4_power2 ⟨Nat.le_of_ble_eq_true rfl, Nat.le_of_ble_eq_true rfl⟩ 4 0 rfl rfl rfl hP hD hE hl rfl rfl (Nat.le_of_ble_eq_true rfl) dX4_power_57 ⟨Nat.zero_le _, Nat.zero_le _⟩) (fun H locs hP hD hS => ?_)
          have hP : va_P D vwCl [(mo, .inr (4, [.long zp, .long zr, .long zh, .ref a1, .ref a2, .ref a3, .ref a4, .ref a5, .long zx, .long zy, .int (bI zi), .long o12, .long o13, .int zl])), (a1, .inl (cJ, 16, .inr (.inl zpx))), (a2, .inl (cJ, 16, .inr (.inl zpy))), (a3, .inl (cZ, 16, .inl (fun i => bI (zip i)))), (a4, .inl (cJ, 8, .inr (.inl zvu))), (a5, .inl (cJ, 8, .inr (.inl zvv)))] H := hP
          have hD : va_D A [(mo, .inr (4, [.long zp, .long zr, .long zh, .ref a1, .ref a2, .ref a3, .ref a4, .ref a5, .long zx, .long zy, .int (bI zi), .long o12, .long o13, .int zl])), (a1, .inl (cJ, 16, .inr (.inl zpx))), (a2, .inl (cJ, 16, .inr (.inl zpy))), (a3, .inl (cZ, 16, .inl (fun i => bI (zip i)))), (a4, .inl (cJ, 8, .inr (.inl zvu))), (a5, .inl (cJ, 8, .inr (.inl zvv)))] := hD
          refine lv_aload_n hx hb dX4_power_60 rfl (lv_at hl 0 rfl) ?_
          refine lv_iload_n hx hb dX4_power_61 rfl (lv_at hl 1 rfl) ?_
          obtain ⟨⟨r15, o16, o17⟩, h18, h⟩ := bind_s h
          try dsimp only at h
          refine kE (wc := [(mo, .inr (4, [.long zp, .long zr, .long zh, .ref a1, .ref a2, .ref a3, .ref a4, .ref a5, .long zx, .long zy, .int (bI zi), .long o12, .long o13, .int zl])), (a1, .inl (cJ, 16, .inr (.inl zpx))), (a2, .inl (cJ, 16, .inr (.inl zpy))), (a3, .inl (cZ, 16, .inl (fun i => bI (zip i)))), (a4, .inl (cJ, 8, .inr (.inl zvu))), (a5, .inl (cJ, 8, .inr (.inl zvv)))]) (wr := []) [0, 1, 2, 3, 4, 5] [] hP hD hS hA rfl rfl rfl (by decide) rfl (eV (As := [.int q0]) (rest := []) C0 (kX4_keepValue l D cJ cZ mo a1 a2 a3 a4 a5 zp zr zh zx zy zi o12 o13 zl zpx zpy zip zvu zvv q0 H.size r15 o16 o17 h18) gX4_power_X4_keepValue rfl ⟨rfl, rfl⟩ hdX4_keepValue ⟨Nat.le_of_ble_eq_true rfl, Nat.le_of_ble_eq_true rfl⟩ 4 0 rfl rfl rfl hP hD hE hl rfl rfl (Nat.le_of_ble_eq_true rfl) dX4_power_62 ⟨Nat.zero_le _, Nat.zero_le _⟩) (fun H locs hP hD hS => ?_)
          have hP : va_P D vwCl [(mo, .inr (4, [.long zp, .long zr, .long zh, .ref a1, .ref a2, .ref a3, .ref a4, .ref a5, .long zx, .long zy, .int (bI zi), .long o12, .long o13, .int zl])), (a1, .inl (cJ, 16, .inr (.inl zpx))), (a2, .inl (cJ, 16, .inr (.inl zpy))), (a3, .inl (cZ, 16, .inl (fun i => bI (zip i)))), (a4, .inl (cJ, 8, .inr (.inl o16))), (a5, .inl (cJ, 8, .inr (.inl o17)))] H := hP
          have hD : va_D A [(mo, .inr (4, [.long zp, .long zr, .long zh, .ref a1, .ref a2, .ref a3, .ref a4, .ref a5, .long zx, .long zy, .int (bI zi), .long o12, .long o13, .int zl])), (a1, .inl (cJ, 16, .inr (.inl zpx))), (a2, .inl (cJ, 16, .inr (.inl zpy))), (a3, .inl (cZ, 16, .inl (fun i => bI (zip i)))), (a4, .inl (cJ, 8, .inr (.inl o16))), (a5, .inl (cJ, 8, .inr (.inl o17)))] := hD
          cases h
          exact rfI hx hb hr hlocks hP hD hS dX4_power_65
        · have h := ite_f c8 h
          refine lv_bipush (v := (-2)) hx hb dX4_power_32 (by decide) ?_
          cases h
          exact rfI hx hb hr hlocks hP hD hS dX4_power_34
  · have h := ite_t c1 h
    refine lv_bipush (v := (-3)) hx hb dX4_power_9 (by decide) ?_
    cases h
    exact rfI hx hb hr hlocks hP hD hS dX4_power_11
def fX4_value  (zp : Int64) (zvu : Nat → Int64) (zvv : Nat → Int64) (q0 : Int32) (q1 : Int32) : Option (Int32) :=
  if zp = 0 then
    some (-3)
  else
    (fX4_isValue q0).bind fun r2 =>
    if (bI r2) = 0 then
      some (-2)
    else
      (fX4_in q1.toInt64 0 1).bind fun r5 =>
      if (bI r5) = 0 then
        some (-2)
      else
        if q1 = 0 then
          if q0 < 0 ∨ 8 ≤ q0.toNatClampNeg then none else
          some ((zvu q0.toNatClampNeg).toInt32)
        else
          if q0 < 0 ∨ 8 ≤ q0.toNatClampNeg then none else
          some ((zvv q0.toNatClampNeg).toInt32)
abbrev rmX4_value : Room := { frames := 2, cells := 0, slots := 0, locals := 45 }
theorem lkX4_value_0 : (.fieldLink RX4 28 "PairingDeskModel" "p" "J" : Cond) ∈ wsX4_value := by decide +kernel
theorem lkX4_value_1 : (.fieldLink RX4 23 "PairingDeskModel" "vv" "[J" : Cond) ∈ wsX4_value := by decide +kernel
theorem lkX4_value_2 : (.fieldLink RX4 20 "PairingDeskModel" "vu" "[J" : Cond) ∈ wsX4_value := by decide +kernel
theorem iwX4_value_4 : ∀ w ∈ wsX40, w ∈ wsX4_value := by decide +kernel
theorem hdX4_value : KN yX4_value 2 := by decide +kernel
set_option maxHeartbeats 4000000 in
set_option maxRecDepth 100000 in
theorem kX4_value (l : Launch) (D : va_G) (cJ cZ : ClassId) (mo a1 a2 a3 a4 a5 : Nat) (zp : Int64) (zr : Int64) (zh : Int64) (zx : Int64) (zy : Int64) (zi : Bool) (zu : Int64) (zv : Int64) (zl : Int32) (zpx : Nat → Int64) (zpy : Nat → Int64) (zip : Nat → Bool) (zvu : Nat → Int64) (zvv : Nat → Int64) (q0 : Int32) (q1 : Int32) (rr : Int32) (h : fX4_value zp zvu zvv q0 q1 = some rr) : Met l yX4_value wsX4_value rmX4_value (PP D cJ cZ [.ref mo, .int q0, .int q1] [(mo, .inr (4, [.long zp, .long zr, .long zh, .ref a1, .ref a2, .ref a3, .ref a4, .ref a5, .long zx, .long zy, .int (bI zi), .long zu, .long zv, .int zl])), (a1, .inl (cJ, 16, .inr (.inl zpx))), (a2, .inl (cJ, 16, .inr (.inl zpy))), (a3, .inl (cZ, 16, .inl (fun i => bI (zip i)))), (a4, .inl (cJ, 8, .inr (.inl zvu))), (a5, .inl (cJ, 8, .inr (.inl zvv)))]) (SI rr) 0 0 (fun _ => False) := by
  refine Met.ofW (cc := cX4_value) (maxL := 3) (ret := some .int) (by decide) rfl ?_
  intro pg e s m args below meth c s₁ B hml hv
  obtain ⟨rfl, hP, hE⟩ := hv
  have hx := B.exec
  have hb := B.bytes
  have hr := B.returns
  have hlocks := B.notSynchronized
  have C0 : CallFix pg m c cX4_value 3 s ([.ref mo, .int q0, .int q1] : List Value).toArray wsX4_value RX4 := ⟨hx, hb, hml, findClass_of_methodNamed B.named, atoms_spec (ws := wsX4_value) B.pre⟩
  have hown := C0.2.2.2.1
  have hts := C0.2.2.2.2
  have hl := lv_entry ([.ref mo, .int q0, .int q1]) (n := 3) (Nat.le_of_ble_eq_true rfl)
  rw [lg_entry_eq]
  generalize (lg_sl ([.ref mo, .int q0, .int q1]) ++ List.replicate (3 - (lg_sl ([.ref mo, .int q0, .int q1])).length) Slot.unset).toArray = ls at hl ⊢
  have hl : lv_has ls 3 [(0, .ref mo), (1, .int q0), (2, .int q1)] := hl
  unfold fX4_value at h
  refine lv_aload_n hx hb dX4_value_0 rfl (lv_at hl 0 rfl) ?_
  refine va_get (D := D) (ci := 4) (v := .long zp) (C := RX4) (T := TX4) (N := 14) hx hb hts iwX4_value_4 hown hE.1 hP 0 rfl rfl 0 (by decide) (hts _ lkX4_value_0) (fun _ h9 => h9) rfl dX4_value_1 ?_
  refine lv_lconst (v := 0) hx hb dX4_value_4 (by decide) ?_
  refine lc_ne (tgt := 12) hx hb dX4_value_5 dX4_value_6 (by decide) (fun c1 => ?_) (fun c1 => ?_)
  · have h := ite_f c1 h
    refine lv_iload_n hx hb dX4_value_12 rfl (lv_at hl 1 rfl) ?_
    obtain ⟨r2, h3, h⟩ := bind_s h
    refine ki (kS (As := [.int q0]) (rest := []) C0 (kX4_isValue l D cJ cZ q0 r2 h3) gX4_value_X4_isValue rfl ⟨rfl, rfl⟩ hdX4_isValue ⟨Nat.le_of_ble_eq_true rfl, Nat.le_of_ble_eq_true rfl⟩ (hP.sub [] rfl) hE hl rfl rfl (Nat.le_of_ble_eq_true rfl) dX4_value_13 (Nat.zero_le _) (Nat.zero_le _)) ?_
    refine lv_if_eq (tgt := 29) hx hb dX4_value_16 (by decide) (fun c4 => ?_) (fun c4 => ?_)
    · have h := ite_t c4 h
      refine lv_bipush (v := (-2)) hx hb dX4_value_29 (by decide) ?_
      exact reI hx hb hr hlocks h dX4_value_31
    · have h := ite_f c4 h
      refine lv_iload_n hx hb dX4_value_19 rfl (lv_at hl 2 rfl) ?_
      refine lv_i2l (v := q1.toInt64) hx hb dX4_value_20 rfl ?_
      refine lv_lconst (v := 0) hx hb dX4_value_21 (by decide) ?_
      refine lv_lconst (v := 1) hx hb dX4_value_22 (by decide) ?_
      obtain ⟨r5, h6, h⟩ := bind_s h
      refine ki (kS (As := [.long q1.toInt64, .long 0, .long 1]) (rest := []) C0 (kX4_in l D cJ cZ q1.toInt64 0 1 r5 h6) gX4_value_X4_in rfl ⟨rfl, rfl⟩ hdX4_in ⟨Nat.le_of_ble_eq_true rfl, Nat.le_of_ble_eq_true rfl⟩ (hP.sub [] rfl) hE hl rfl rfl (Nat.le_of_ble_eq_true rfl) dX4_value_23 (Nat.zero_le _) (Nat.zero_le _)) ?_
      refine lv_if_ne (tgt := 32) hx hb dX4_value_26 (by decide) (fun c7 => ?_) (fun c7 => ?_)
      · have h := ite_f c7 h
        refine lv_iload_n hx hb dX4_value_32 rfl (lv_at hl 2 rfl) ?_
        refine lv_if_ne (tgt := 45) hx hb dX4_value_33 (by decide) (fun c8 => ?_) (fun c8 => ?_)
        · have h := ite_f c8 h
          refine lv_aload_n hx hb dX4_value_45 rfl (lv_at hl 0 rfl) ?_
          refine va_get (D := D) (ci := 4) (v := .ref a5) (C := RX4) (T := TX4) (N := 14) hx hb hts iwX4_value_4 hown hE.1 hP 0 rfl rfl 7 (by decide) (hts _ lkX4_value_1) (fun _ h9 => h9) rfl dX4_value_46 ?_
          refine lv_iload_n hx hb dX4_value_49 rfl (lv_at hl 1 rfl) ?_
          obtain ⟨c9, h⟩ := ite_n h
          refine va_lald hx hb hE.1 hP 5 0 rfl rfl c9 dX4_value_50 ?_
          refine lv_l2i (v := (zvv q0.toNatClampNeg).toInt32) hx hb dX4_value_51 rfl ?_
          exact reI hx hb hr hlocks h dX4_value_52
        · have h := ite_t c8 h
          refine lv_aload_n hx hb dX4_value_36 rfl (lv_at hl 0 rfl) ?_
          refine va_get (D := D) (ci := 4) (v := .ref a4) (C := RX4) (T := TX4) (N := 14) hx hb hts iwX4_value_4 hown hE.1 hP 0 rfl rfl 6 (by decide) (hts _ lkX4_value_2) (fun _ h9 => h9) rfl dX4_value_37 ?_
          refine lv_iload_n hx hb dX4_value_40 rfl (lv_at hl 1 rfl) ?_
          obtain ⟨c10, h⟩ := ite_n h
          refine va_lald hx hb hE.1 hP 4 0 rfl rfl c10 dX4_value_41 ?_
          refine lv_goto (tgt := 51) hx hb dX4_value_42 (by decide) ?_
          refine lv_l2i (v := (zvu q0.toNatClampNeg).toInt32) hx hb dX4_value_51 rfl ?_
          exact reI hx hb hr hlocks h dX4_value_52
      · have h := ite_t c7 h
        refine lv_bipush (v := (-2)) hx hb dX4_value_29 (by decide) ?_
        exact reI hx hb hr hlocks h dX4_value_31
  · have h := ite_t c1 h
    refine lv_bipush (v := (-3)) hx hb dX4_value_9 (by decide) ?_
    exact reI hx hb hr hlocks h dX4_value_11
