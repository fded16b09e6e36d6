def fX3_pair (N : Nat) (zp : Int64) (zr : Int64) (zS : Nat → Int64) (zV : Nat → Int64) (q0 : Int32) (q1 : Int32) (q2 : Int32) : Option (Int32 × (Nat → Int64)) :=
  (fX3_isValue q0).bind fun r1 =>
  if (bI r1) = 0 then
    some ((-2), zV)
  else
    (fX3_isSlot q1).bind fun r4 =>
    if (bI r4) = 0 then
      some ((-2), zV)
    else
      (fX3_isSlot q2).bind fun r7 =>
      if (bI r7) = 0 then
        some ((-2), zV)
      else
        if q1 < 0 ∨ 16 ≤ q1.toNatClampNeg then none else
        (fX1_takes N zp zr (zS q1.toNatClampNeg)).bind fun r11 =>
        if (bI r11) = 0 then
          some ((-1), zV)
        else
          if q2 < 0 ∨ 16 ≤ q2.toNatClampNeg then none else
          (fX1_takes N zp zr (zS q2.toNatClampNeg)).bind fun r15 =>
          if (bI r15) = 0 then
            some ((-1), zV)
          else
            (fX1_of N zp zr (zS q1.toNatClampNeg) (zS q2.toNatClampNeg)).bind fun r18 =>
            if q0 < 0 ∨ 8 ≤ q0.toNatClampNeg then none else
            bnd (vp_updL zV q0.toNatClampNeg r18) fun w21 =>
            (fX1_linesOf zr (zS q1.toNatClampNeg) (zS q2.toNatClampNeg)).bind fun r22 =>
            some (r22, w21)
abbrev rmX3_pair : Room := { frames := 5, cells := 0, slots := 0, locals := 149 }
theorem lkX3_pair_0 : (.fieldLink RX3 42 "PairingDesk" "pairing" "LPairingDesk$Pairing;" : Cond) ∈ wsX3_pair := by decide +kernel
theorem lkX3_pair_1 : (.fieldLink RX3 9 "PairingDesk" "slots" "[J" : Cond) ∈ wsX3_pair := by decide +kernel
theorem lkX3_pair_2 : (.fieldLink RX3 13 "PairingDesk" "values" "[J" : Cond) ∈ wsX3_pair := by decide +kernel
theorem iwX3_pair_3 : ∀ w ∈ wsX30, w ∈ wsX3_pair := by decide +kernel
theorem hdX3_pair : KN yX3_pair 3 := by decide +kernel
set_option maxHeartbeats 4000000 in
set_option maxRecDepth 100000 in
theorem kX3_pair (l : Launch) (D : va_G) (cJ cZ : ClassId) (dk so vo po co fo : Nat) (N : Nat) (zp : Int64) (zr : Int64) (zh : Int64) (zb : Int64) (zt : Int32) (zS : Nat → Int64) (zV : Nat → Int64) (q0 : Int32) (q1 : Int32) (q2 : Int32) (sz : Nat) (rr : Int32) (ozV : Nat → Int64) (h : fX3_pair N zp zr zS zV q0 q1 q2 = some (rr, ozV)) : Met l yX3_pair wsX3_pair rmX3_pair (PE D cJ cZ [.ref dk, .int q0, .int q1, .int q2] [(dk, .inr (3, [.ref so, .ref vo, .ref co, .ref po])), (so, .inl (cJ, 16, .inr (.inl zS))), (vo, .inl (cJ, 8, .inr (.inl zV))), (po, .inr (1, [.ref co, .long zp, .long zr])), (co, .inr (0, [.ref fo, .long zp, .long zr, .long zh, .long zb, .int zt])), (fo, .inr (2, [.long zp]))] sz) (QE D (some (.int rr)) [(dk, .inr (3, [.ref so, .ref vo, .ref co, .ref po])), (so, .inl (cJ, 16, .inr (.inl zS))), (vo, .inl (cJ, 8, .inr (.inl ozV))), (po, .inr (1, [.ref co, .long zp, .long zr])), (co, .inr (0, [.ref fo, .long zp, .long zr, .long zh, .long zb, .int zt])), (fo, .inr (2, [.long zp]))] (va_A [(dk, .inr (3, [.ref so, .ref vo, .ref co, .ref po])), (so, .inl (cJ, 16, .inr (.inl zS))), (vo, .inl (cJ, 8, .inr (.inl zV))), (po, .inr (1, [.ref co, .long zp, .long zr])), (co, .inr (0, [.ref fo, .long zp, .long zr, .long zh, .long zb, .int zt])), (fo, .inr (2, [.long zp]))] sz)) 0 0 (va_A [(dk, .inr (3, [.ref so, .ref vo, .ref co, .ref po])), (so, .inl (cJ, 16, .inr (.inl zS))), (vo, .inl (cJ, 8, .inr (.inl zV))), (po, .inr (1, [.ref co, .long zp, .long zr])), (co, .inr (0, [.ref fo, .long zp, .long zr, .long zh, .long zb, .int zt])), (fo, .inr (2, [.long zp]))] sz) := by
  refine Met.ofW (cc := cX3_pair) (maxL := 4) (ret := some .int) (by decide) rfl ?_
  intro pg e s m args below meth c s₁ B hml hv
  obtain ⟨rfl, hsz, hP, hE, hD0⟩ := hv
  have hx := B.exec
  have hb := B.bytes
  have hr := B.returns
  have hlocks := B.notSynchronized
  have C0 : CallFix pg m c cX3_pair 4 s ([.ref dk, .int q0, .int q1, .int q2] : List Value).toArray wsX3_pair RX3 := ⟨hx, hb, hml, findClass_of_methodNamed B.named, atoms_spec (ws := wsX3_pair) B.pre⟩
  have hown := C0.2.2.2.1
  have hts := C0.2.2.2.2
  subst hsz
  have hD := hD0.self (sz := s.heap.size)
  generalize hAe : va_A [(dk, .inr (3, [.ref so, .ref vo, .ref co, .ref po])), (so, .inl (cJ, 16, .inr (.inl zS))), (vo, .inl (cJ, 8, .inr (.inl zV))), (po, .inr (1, [.ref co, .long zp, .long zr])), (co, .inr (0, [.ref fo, .long zp, .long zr, .long zh, .long zb, .int zt])), (fo, .inr (2, [.long zp]))] s.heap.size = A at hD ⊢
  have hA : ∀ q : Nat, s.heap.size ≤ q → A q := fun q h => by rw [← hAe]; exact Or.inr h
  have hS : va_S A s.heap s.heap [] := va_S.rf
  have hP : va_P D vwCl [(dk, .inr (3, [.ref so, .ref vo, .ref co, .ref po])), (so, .inl (cJ, 16, .inr (.inl zS))), (vo, .inl (cJ, 8, .inr (.inl zV))), (po, .inr (1, [.ref co, .long zp, .long zr])), (co, .inr (0, [.ref fo, .long zp, .long zr, .long zh, .long zb, .int zt])), (fo, .inr (2, [.long zp]))] s.heap := hP
  have hl := lv_entry ([.ref dk, .int q0, .int q1, .int q2]) (n := 4) (Nat.le_of_ble_eq_true rfl)
  rw [lg_entry_eq]
  generalize (lg_sl ([.ref dk, .int q0, .int q1, .int q2]) ++ List.replicate (4 - (lg_sl ([.ref dk, .int q0, .int q1, .int q2])).length) Slot.unset).toArray = ls at hl ⊢
  have hl : lv_has ls 4 [(0, .ref dk), (1, .int q0), (2, .int q1), (3, .int q2)] := hl
  suffices key : ∀ (H : Heap) (locs : List Loc), va_P D vwCl [(dk, .inr (3, [.ref so, .ref vo, .ref co, .ref po])), (so, .inl (cJ, 16, .inr (.inl zS))), (vo, .inl (cJ, 8, .inr (.inl zV))), (po, .inr (1, [.ref co, .long zp, .long zr])), (co, .inr (0, [.ref fo, .long zp, .long zr, .long zh, .long zb, .int zt])), (fo, .inr (2, [.long zp]))] H → va_D A [(dk, .inr (3, [.ref so, .ref vo, .ref co, .ref po])), (so, .inl (cJ, 16, .inr (.inl zS))), (vo, .inl (cJ, 8, .inr (.inl zV))), (po, .inr (1, [.ref co, .long zp, .long zr])), (co, .inr (0, [.ref fo, .long zp, .long zr, .long zh, .long zb, .int zt])), (fo, .inr (2, [.long zp]))] → va_S A s.heap H locs → W pg l e (headSpec wsX3_pair rmX3_pair).room s m ([.ref dk, .int q0, .int q1, .int q2] : List Value).toArray below meth c H locs 0 0 (MQ below (QE D (some (.int rr)) [(dk, .inr (3, [.ref so, .ref vo, .ref co, .ref po])), (so, .inl (cJ, 16, .inr (.inl zS))), (vo, .inl (cJ, 8, .inr (.inl ozV))), (po, .inr (1, [.ref co, .long zp, .long zr])), (co, .inr (0, [.ref fo, .long zp, .long zr, .long zh, .long zb, .int zt])), (fo, .inr (2, [.long zp]))] A) ([.ref dk, .int q0, .int q1, .int q2] : List Value).toArray s 0 0 A) (F0 m 0 ls []) from key s.heap [] hP hD hS
  intro H locs hP hD hS
  unfold fX3_pair at h
  refine lv_aload_n hx hb dX3_pair_0 rfl (lv_at hl 0 rfl) ?_
  refine va_get (D := D) (ci := 3) (v := .ref po) (C := RX3) (T := TX3) (N := 4) hx hb hts iwX3_pair_3 hown hE.1 hP 0 rfl rfl 3 (by decide) (hts _ lkX3_pair_0) (fun _ h9 => h9) rfl dX3_pair_1 ?_
  refine lv_ifnonnull (tgt := 10) hx hb dX3_pair_4 (by decide) ?_
  refine lv_iload_n hx hb dX3_pair_10 rfl (lv_at hl 1 rfl) ?_
  obtain ⟨r1, h2, h⟩ := bind_s h
  refine ki (kS (As := [.int q0]) (rest := []) C0 (kX3_isValue l D cJ cZ q0 r1 h2) gX3_pair_X3_isValue rfl ⟨rfl, rfl⟩ hdX3_isValue ⟨Nat.le_of_ble_eq_true rfl, Nat.le_of_ble_eq_true rfl⟩ (hP.sub [] rfl) hE hl rfl rfl (Nat.le_of_ble_eq_true rfl) dX3_pair_11 (Nat.zero_le _) (Nat.zero_le _)) ?_
  refine lv_if_eq (tgt := 31) hx hb dX3_pair_14 (by decide) (fun c3 => ?_) (fun c3 => ?_)
  · have h := ite_t c3 h
    refine lv_bipush (v := (-2)) hx hb dX3_pair_31 (by decide) ?_
    cases h
    exact rfI hx hb hr hlocks hP hD hS dX3_pair_33
  · have h := ite_f c3 h
    refine lv_iload_n hx hb dX3_pair_17 rfl (lv_at hl 2 rfl) ?_
    obtain ⟨r4, h5, h⟩ := bind_s h
    refine ki (kS (As := [.int q1]) (rest := []) C0 (kX3_isSlot l D cJ cZ q1 r4 h5) gX3_pair_X3_isSlot rfl ⟨rfl, rfl⟩ hdX3_isSlot ⟨Nat.le_of_ble_eq_true rfl, Nat.le_of_ble_eq_true rfl⟩ (hP.sub [] rfl) hE hl rfl rfl (Nat.le_of_ble_eq_true rfl) dX3_pair_18 (Nat.zero_le _) (Nat.zero_le _)) ?_
    refine lv_if_eq (tgt := 31) hx hb dX3_pair_21 (by decide) (fun c6 => ?_) (fun c6 => ?_)
    · have h := ite_t c6 h
      refine lv_bipush (v := (-2)) hx hb dX3_pair_31 (by decide) ?_
      cases h
      exact rfI hx hb hr hlocks hP hD hS dX3_pair_33
    · have h := ite_f c6 h
      refine lv_iload_n hx hb dX3_pair_24 rfl (lv_at hl 3 rfl) ?_
      obtain ⟨r7, h8, h⟩ := bind_s h
      refine ki (kS (As := [.int q2]) (rest := []) C0 (kX3_isSlot l D cJ cZ q2 r7 h8) gX3_pair_X3_isSlot rfl ⟨rfl, rfl⟩ hdX3_isSlot ⟨Nat.le_of_ble_eq_true rfl, Nat.le_of_ble_eq_true rfl⟩ (hP.sub [] rfl) hE hl rfl rfl (Nat.le_of_ble_eq_true rfl) dX3_pair_25 (Nat.zero_le _) (Nat.zero_le _)) ?_
      refine lv_if_ne (tgt := 34) hx hb dX3_pair_28 (by decide) (fun c9 => ?_) (fun c9 => ?_)
      · have h := ite_f c9 h
        refine lv_aload_n hx hb dX3_pair_34 rfl (lv_at hl 0 rfl) ?_
        refine va_get (D := D) (ci := 3) (v := .ref po) (C := RX3) (T := TX3) (N := 4) hx hb hts iwX3_pair_3 hown hE.1 hP 0 rfl rfl 3 (by decide) (hts _ lkX3_pair_0) (fun _ h9 => h9) rfl dX3_pair_35 ?_
        refine lv_aload_n hx hb dX3_pair_38 rfl (lv_at hl 0 rfl) ?_
        refine va_get (D := D) (ci := 3) (v := .ref so) (C := RX3) (T := TX3) (N := 4) hx hb hts iwX3_pair_3 hown hE.1 hP 0 rfl rfl 0 (by decide) (hts _ lkX3_pair_1) (fun _ h9 => h9) rfl dX3_pair_39 ?_
        refine lv_iload_n hx hb dX3_pair_42 rfl (lv_at hl 2 rfl) ?_
        obtain ⟨c10, h⟩ := ite_n h
        refine va_lald hx hb hE.1 hP 1 0 rfl rfl c10 dX3_pair_43 ?_
        obtain ⟨r11, h12, h⟩ := bind_s h
        refine ki (kV (As := [.long (zS q1.toNatClampNeg)]) (rest := []) C0 (kX1_takes l D cJ cZ po co fo N zp zr zh zb zt (zS q1.toNatClampNeg) r11 h12) gX3_pair_X1_takes rfl ⟨rfl, rfl⟩ hdX1_takes ⟨Nat.le_of_ble_eq_true rfl, Nat.le_of_ble_eq_true rfl⟩ 1 0 rfl rfl rfl (hP.sub [3, 4, 5] rfl) hE hl rfl rfl (Nat.le_of_ble_eq_true rfl) dX3_pair_44 (Nat.zero_le _) (Nat.zero_le _)) ?_
        refine lv_if_eq (tgt := 66) hx hb dX3_pair_47 (by decide) (fun c13 => ?_) (fun c13 => ?_)
        · have h := ite_t c13 h
          refine lv_iconst (v := (-1)) hx hb dX3_pair_66 (by decide) ?_
          cases h
          exact rfI hx hb hr hlocks hP hD hS dX3_pair_67
        · have h := ite_f c13 h
          refine lv_aload_n hx hb dX3_pair_50 rfl (lv_at hl 0 rfl) ?_
          refine va_get (D := D) (ci := 3) (v := .ref po) (C := RX3) (T := TX3) (N := 4) hx hb hts iwX3_pair_3 hown hE.1 hP 0 rfl rfl 3 (by decide) (hts _ lkX3_pair_0) (fun _ h9 => h9) rfl dX3_pair_51 ?_
          refine lv_aload_n hx hb dX3_pair_54 rfl (lv_at hl 0 rfl) ?_
          refine va_get (D := D) (ci := 3) (v := .ref so) (C := RX3) (T := TX3) (N := 4) hx hb hts iwX3_pair_3 hown hE.1 hP 0 rfl rfl 0 (by decide) (hts _ lkX3_pair_1) (fun _ h9 => h9) rfl dX3_pair_55 ?_
          refine lv_iload_n hx hb dX3_pair_58 rfl (lv_at hl 3 rfl) ?_
          obtain ⟨c14, h⟩ := ite_n h
          refine va_lald hx hb hE.1 hP 1 0 rfl rfl c14 dX3_pair_59 ?_
          obtain ⟨r15, h16, h⟩ := bind_s h
          refine ki (kV (As := [.long (zS q2.toNatClampNeg)]) (rest := []) C0 (kX1_takes l D cJ cZ po co fo N zp zr zh zb zt (zS q2.toNatClampNeg) r15 h16) gX3_pair_X1_takes rfl ⟨rfl, rfl⟩ hdX1_takes ⟨Nat.le_of_ble_eq_true rfl, Nat.le_of_ble_eq_true rfl⟩ 1 0 rfl rfl rfl (hP.sub [3, 4, 5] rfl) hE hl rfl rfl (Nat.le_of_ble_eq_true rfl) dX3_pair_60 (Nat.zero_le _) (Nat.zero_le _)) ?_
          refine lv_if_ne (tgt := 68) hx hb dX3_pair_63 (by decide) (fun c17 => ?_) (fun c17 => ?_)
          · have h := ite_f c17 h
            refine lv_aload_n hx hb dX3_pair_68 rfl (lv_at hl 0 rfl) ?_
            refine va_get (D := D) (ci := 3) (v := .ref vo) (C := RX3) (T := TX3) (N := 4) hx hb hts iwX3_pair_3 hown hE.1 hP 0 rfl rfl 1 (by decide) (hts _ lkX3_pair_2) (fun _ h9 => h9) rfl dX3_pair_69 ?_
            refine lv_iload_n hx hb dX3_pair_72 rfl (lv_at hl 1 rfl) ?_
            refine lv_aload_n hx hb dX3_pair_73 rfl (lv_at hl 0 rfl) ?_
            refine va_get (D := D) (ci := 3) (v := .ref po) (C := RX3) (T := TX3) (N := 4) hx hb hts iwX3_pair_3 hown hE.1 hP 0 rfl rfl 3 (by decide) (hts _ lkX3_pair_0) (fun _ h9 => h9) rfl dX3_pair_74 ?_
            refine lv_aload_n hx hb dX3_pair_77 rfl (lv_at hl 0 rfl) ?_
            refine va_get (D := D) (ci := 3) (v := .ref so) (C := RX3) (T := TX3) (N := 4) hx hb hts iwX3_pair_3 hown hE.1 hP 0 rfl rfl 0 (by decide) (hts _ lkX3_pair_1) (fun _ h9 => h9) rfl dX3_pair_78 ?_
            refine lv_iload_n hx hb dX3_pair_81 rfl (lv_at hl 2 rfl) ?_
            refine va_lald hx hb hE.1 hP 1 0 rfl rfl c10 dX3_pair_82 ?_
            refine lv_aload_n hx hb dX3_pair_83 rfl (lv_at hl 0 rfl) ?_
            refine va_get (D := D) (ci := 3) (v := .ref so) (C := RX3) (T := TX3) (N := 4) hx hb hts iwX3_pair_3 hown hE.1 hP 0 rfl rfl 0 (by decide) (hts _ lkX3_pair_1) (fun _ h9 => h9) rfl dX3_pair_84 ?_
            refine lv_iload_n hx hb dX3_pair_87 rfl (lv_at hl 3 rfl) ?_
            refine va_lald hx hb hE.1 hP 1 0 rfl rfl c14 dX3_pair_88 ?_
            obtain ⟨r18, h19, h⟩ := bind_s h
            refine kl (kV (As := [.long (zS q1.toNatClampNeg), .long (zS q2.toNatClampNeg)]) (rest := [.int q0, .ref vo]) C0 (kX1_of l D cJ cZ po co fo N zp zr zh zb zt (zS q1.toNatClampNeg) (zS q2.toNatClampNeg) r18 h19) gX3_pair_X1_of rfl ⟨rfl, rfl⟩ hdX1_of ⟨Nat.le_of_ble_eq_true rfl, Nat.le_of_ble_eq_true rfl⟩ 1 0 rfl rfl rfl (hP.sub [3, 4, 5] rfl) hE hl rfl rfl (Nat.le_of_ble_eq_true rfl) dX3_pair_89 (Nat.zero_le _) (Nat.zero_le _)) ?_
            obtain ⟨c20, h⟩ := ite_n h
            refine va_last hx hb hE.1 hP hD hS 2 0 rfl rfl c20 dX3_pair_92 (fun H locs hP hD hS => ?_)
            have hP : va_P D vwCl [(dk, .inr (3, [.ref so, .ref vo, .ref co, .ref po])), (so, .inl (cJ, 16, .inr (.inl zS))), (vo, .inl (cJ, 8, .inr (.inl (vp_updL zV q0.toNatClampNeg r18)))), (po, .inr (1, [.ref co, .long zp, .long zr])), (co, .inr (0, [.ref fo, .long zp, .long zr, .long zh, .long zb, .int zt])), (fo, .inr (2, [.long zp]))] H := hP
            have hD : va_D A [(dk, .inr (3, [.ref so, .ref vo, .ref co, .ref po])), (so, .inl (cJ, 16, .inr (.inl zS))), (vo, .inl (cJ, 8, .inr (.inl (vp_updL zV q0.toNatClampNeg r18)))), (po, .inr (1, [.ref co, .long zp, .long zr])), (co, .inr (0, [.ref fo, .long zp, .long zr, .long zh, .long zb, .int zt])), (fo, .inr (2, [.long zp]))] := hD
            obtain ⟨w21, ew21, h⟩ := bnd_s h
            rw [← ew21] at hP hD
            refine lv_aload_n hx hb dX3_pair_93 rfl (lv_at hl 0 rfl) ?_
            refine va_get (D := D) (ci := 3) (v := .ref po) (C := RX3) (T := TX3) (N := 4) hx hb hts iwX3_pair_3 hown hE.1 hP 0 rfl rfl 3 (by decide) (hts _ lkX3_pair_0) (fun _ h9 => h9) rfl dX3_pair_94 ?_
            refine lv_aload_n hx hb dX3_pair_97 rfl (lv_at hl 0 rfl) ?_
            refine va_get (D := D) (ci := 3) (v := .ref so) (C := RX3) (T := TX3) (N := 4) hx hb hts iwX3_pair_3 hown hE.1 hP 0 rfl rfl 0 (by decide) (hts _ lkX3_pair_1) (fun _ h9 => h9) rfl dX3_pair_98 ?_
            refine lv_iload_n hx hb dX3_pair_101 rfl (lv_at hl 2 rfl) ?_
            refine va_lald hx hb hE.1 hP 1 0 rfl rfl c10 dX3_pair_102 ?_
            refine lv_aload_n hx hb dX3_pair_103 rfl (lv_at hl 0 rfl) ?_
            refine va_get (D := D) (ci := 3) (v := .ref so) (C := RX3) (T := TX3) (N := 4) hx hb hts iwX3_pair_3 hown hE.1 hP 0 rfl rfl 0 (by decide) (hts _ lkX3_pair_1) (fun _ h9 => h9) rfl dX3_pair_104 ?_
            refine lv_iload_n hx hb dX3_pair_107 rfl (lv_at hl 3 rfl) ?_
            refine va_lald hx hb hE.1 hP 1 0 rfl rfl c14 dX3_pair_108 ?_
            obtain ⟨r22, h23, h⟩ := bind_s h
            refine ki (kV (As := [.long (zS q1.toNatClampNeg), .long (zS q2.toNatClampNeg)]) (rest := []) C0 (kX1_linesOf l D cJ cZ po co fo zp zr zh zb zt (zS q1.toNatClampNeg) (zS q2.toNatClampNeg) r22 h23) gX3_pair_X1_linesOf rfl ⟨rfl, rfl⟩ hdX1_linesOf ⟨Nat.le_of_ble_eq_true rfl, Nat.le_of_ble_eq_true rfl⟩ 1 0 rfl rfl rfl (hP.sub [3, 4, 5] rfl) hE hl rfl rfl (Nat.le_of_ble_eq_true rfl) dX3_pair_109 (Nat.zero_le _) (Nat.zero_le _)) ?_
            cases h
            exact rfI hx hb hr hlocks hP hD hS dX3_pair_112
          · have h := ite_t c17 h
            refine lv_iconst (v := (-1)) hx hb dX3_pair_66 (by decide) ?_
            cases h
            exact rfI hx hb hr hlocks hP hD hS dX3_pair_67
      · have h := ite_t c9 h
        refine lv_bipush (v := (-2)) hx hb dX3_pair_31 (by decide) ?_
        cases h
        exact rfI hx hb hr hlocks hP hD hS dX3_pair_33
def fX3_multiply  (zp : Int64) (zV : Nat → Int64) (q0 : Int32) (q1 : Int32) (q2 : Int32) : Option (Int32 × (Nat → Int64)) :=
  (fX3_isValue q0).bind fun r1 =>
  if (bI r1) = 0 then
    some ((-2), zV)
  else
    (fX3_isValue q1).bind fun r4 =>
    if (bI r4) = 0 then
      some ((-2), zV)
    else
      (fX3_isValue q2).bind fun r7 =>
      if (bI r7) = 0 then
        some ((-2), zV)
      else
        if q1 < 0 ∨ 8 ≤ q1.toNatClampNeg then none else
        if q2 < 0 ∨ 8 ≤ q2.toNatClampNeg then none else
        (fX1_product zp (zV q1.toNatClampNeg) (zV q2.toNatClampNeg)).bind fun r12 =>
        if q0 < 0 ∨ 8 ≤ q0.toNatClampNeg then none else
        bnd (vp_updL zV q0.toNatClampNeg r12) fun w15 =>
        if (w15 q0.toNatClampNeg) = 2147483648 then
          some (1, w15)
        else
          some (0, w15)
abbrev rmX3_multiply : Room := { frames := 2, cells := 0, slots := 0, locals := 53 }
theorem lkX3_multiply_0 : (.fieldLink RX3 42 "PairingDesk" "pairing" "LPairingDesk$Pairing;" : Cond) ∈ wsX3_multiply := by decide +kernel
theorem lkX3_multiply_1 : (.fieldLink RX3 13 "PairingDesk" "values" "[J" : Cond) ∈ wsX3_multiply := by decide +kernel
theorem lkX3_multiply_2 : (.constantLong RX3 131 (2147483648) : Cond) ∈ wsX3_multiply := by decide +kernel
theorem iwX3_multiply_3 : ∀ w ∈ wsX30, w ∈ wsX3_multiply := by decide +kernel
theorem hdX3_multiply : KN yX3_multiply 3 := by decide +kernel
set_option maxHeartbeats 4000000 in
set_option maxRecDepth 100000 in
theorem kX3_multiply (l : Launch) (D : va_G) (cJ cZ : ClassId) (dk so vo po co fo : Nat) (zp : Int64) (zr : Int64) (zh : Int64) (zb : Int64) (zt : Int32) (zS : Nat → Int64) (zV : Nat → Int64) (q0 : Int32) (q1 : Int32) (q2 : Int32) (sz : Nat) (rr : Int32) (ozV : Nat → Int64) (h : fX3_multiply zp zV q0 q1 q2 = some (rr, ozV)) : Met l yX3_multiply wsX3_multiply rmX3_multiply (PE D cJ cZ [.ref dk, .int q0, .int q1, .int q2] [(dk, .inr (3, [.ref so, .ref vo, .ref co, .ref po])), (so, .inl (cJ, 16, .inr (.inl zS))), (vo, .inl (cJ, 8, .inr (.inl zV))), (po, .inr (1, [.ref co, .long zp, .long zr])), (co, .inr (0, [.ref fo, .long zp, .long zr, .long zh, .long zb, .int zt])), (fo, .inr (2, [.long zp]))] sz) (QE D (some (.int rr)) [(dk, .inr (3, [.ref so, .ref vo, .ref co, .ref po])), (so, .inl (cJ, 16, .inr (.inl zS))), (vo, .inl (cJ, 8, .inr (.inl ozV))), (po, .inr (1, [.ref co, .long zp, .long zr])), (co, .inr (0, [.ref fo, .long zp, .long zr, .long zh, .long zb, .int zt])), (fo, .inr (2, [.long zp]))] (va_A [(dk, .inr (3, [.ref so, .ref vo, .ref co, .ref po])), (so, .inl (cJ, 16, .inr (.inl zS))), (vo, .inl (cJ, 8, .inr (.inl zV))), (po, .inr (1, [.ref co, .long zp, .long zr])), (co, .inr (0, [.ref fo, .long zp, .long zr, .long zh, .long zb, .int zt])), (fo, .inr (2, [.long zp]))] sz)) 0 0 (va_A [(dk, .inr (3, [.ref so, .ref vo, .ref co, .ref po])), (so, .inl (cJ, 16, .inr (.inl zS))), (vo, .inl (cJ, 8, .inr (.inl zV))), (po, .inr (1, [.ref co, .long zp, .long zr])), (co, .inr (0, [.ref fo, .long zp, .long zr, .long zh, .long zb, .int zt])), (fo, .inr (2, [.long zp]))] sz) := by
  refine Met.ofW (cc := cX3_multiply) (maxL := 4) (ret := some .int) (by decide) rfl ?_
  intro pg e s m args below meth c s₁ B hml hv
  obtain ⟨rfl, hsz, hP, hE, hD0⟩ := hv
  have hx := B.exec
  have hb := B.bytes
  have hr := B.returns
  have hlocks := B.notSynchronized
  have C0 : CallFix pg m c cX3_multiply 4 s ([.ref dk, .int q0, .int q1, .int q2] : List Value).toArray wsX3_multiply RX3 := ⟨hx, hb, hml, findClass_of_methodNamed B.named, atoms_spec (ws := wsX3_multiply) B.pre⟩
  have hown := C0.2.2.2.1
  have hts := C0.2.2.2.2
  subst hsz
  have hD := hD0.self (sz := s.heap.size)
  generalize hAe : va_A [(dk, .inr (3, [.ref so, .ref vo, .ref co, .ref po])), (so, .inl (cJ, 16, .inr (.inl zS))), (vo, .inl (cJ, 8, .inr (.inl zV))), (po, .inr (1, [.ref co, .long zp, .long zr])), (co, .inr (0, [.ref fo, .long zp, .long zr, .long zh, .long zb, .int zt])), (fo, .inr (2, [.long zp]))] s.heap.size = A at hD ⊢
  have hA : ∀ q : Nat, s.heap.size ≤ q → A q := fun q h => by rw [← hAe]; exact Or.inr h
  have hS : va_S A s.heap s.heap [] := va_S.rf
  have hP : va_P D vwCl [(dk, .inr (3, [.ref so, .ref vo, .ref co, .ref po])), (so, .inl (cJ, 16, .inr (.inl zS))), (vo, .inl (cJ, 8, .inr (.inl zV))), (po, .inr (1, [.ref co, .long zp, .long zr])), (co, .inr (0, [.ref fo, .long zp, .long zr, .long zh, .long zb, .int zt])), (fo, .inr (2, [.long zp]))] s.heap := hP
  have hl := lv_entry ([.ref dk, .int q0, .int q1, .int q2]) (n := 4) (Nat.le_of_ble_eq_true rfl)
  rw [lg_entry_eq]
  generalize (lg_sl ([.ref dk, .int q0, .int q1, .int q2]) ++ List.replicate (4 - (lg_sl ([.ref dk, .int q0, .int q1, .int q2])).length) Slot.unset).toArray = ls at hl ⊢
  have hl : lv_has ls 4 [(0, .ref dk), (1, .int q0), (2, .int q1), (3, .int q2)] := hl
  suffices key : ∀ (H : Heap) (locs : List Loc), va_P D vwCl [(dk, .inr (3, [.ref so, .ref vo, .ref co, .ref po])), (so, .inl (cJ, 16, .inr (.inl zS))), (vo, .inl (cJ, 8, .inr (.inl zV))), (po, .inr (1, [.ref co, .long zp, .long zr])), (co, .inr (0, [.ref fo, .long zp, .long zr, .long zh, .long zb, .int zt])), (fo, .inr (2, [.long zp]))] H → va_D A [(dk, .inr (3, [.ref so, .ref vo, .ref co, .ref po])), (so, .inl (cJ, 16, .inr (.inl zS))), (vo, .inl (cJ, 8, .inr (.inl zV))), (po, .inr (1, [.ref co, .long zp, .long zr])), (co, .inr (0, [.ref fo, .long zp, .long zr, .long zh, .long zb, .int zt])), (fo, .inr (2, [.long zp]))] → va_S A s.heap H locs → W pg l e (headSpec wsX3_multiply rmX3_multiply).room s m ([.ref dk, .int q0, .int q1, .int q2] : List Value).toArray below meth c H locs 0 0 (MQ below (QE D (some (.int rr)) [(dk, .inr (3, [.ref so, .ref vo, .ref co, .ref po])), (so, .inl (cJ, 16, .inr (.inl zS))), (vo, .inl (cJ, 8, .inr (.inl ozV))), (po, .inr (1, [.ref co, .long zp, .long zr])), (co, .inr (0, [.ref fo, .long zp, .long zr, .long zh, .long zb, .int zt])), (fo, .inr (2, [.long zp]))] A) ([.ref dk, .int q0, .int q1, .int q2] : List Value).toArray s 0 0 A) (F0 m 0 ls []) from key s.heap [] hP hD hS
  intro H locs hP hD hS
  unfold fX3_multiply at h
  refine lv_aload_n hx hb dX3_multiply_0 rfl (lv_at hl 0 rfl) ?_
  refine va_get (D := D) (ci := 3) (v := .ref po) (C := RX3) (T := TX3) (N := 4) hx hb hts iwX3_multiply_3 hown hE.1 hP 0 rfl rfl 3 (by decide) (hts _ lkX3_multiply_0) (fun _ h9 => h9) rfl dX3_multiply_1 ?_
  refine lv_ifnonnull (tgt := 10) hx hb dX3_multiply_4 (by decide) ?_
  refine lv_iload_n hx hb dX3_multiply_10 rfl (lv_at hl 1 rfl) ?_
  obtain ⟨r1, h2, h⟩ := bind_s h
  refine ki (kS (As := [.int q0]) (rest := []) C0 (kX3_isValue l D cJ cZ q0 r1 h2) gX3_multiply_X3_isValue rfl ⟨rfl, rfl⟩ hdX3_isValue ⟨Nat.le_of_ble_eq_true rfl, Nat.le_of_ble_eq_true rfl⟩ (hP.sub [] rfl) hE hl rfl rfl (Nat.le_of_ble_eq_true rfl) dX3_multiply_11 (Nat.zero_le _) (Nat.zero_le _)) ?_
  refine lv_if_eq (tgt := 31) hx hb dX3_multiply_14 (by decide) (fun c3 => ?_) (fun c3 => ?_)
  · have h := ite_t c3 h
    refine lv_bipush (v := (-2)) hx hb dX3_multiply_31 (by decide) ?_
    cases h
    exact rfI hx hb hr hlocks hP hD hS dX3_multiply_33
  · have h := ite_f c3 h
    refine lv_iload_n hx hb dX3_multiply_17 rfl (lv_at hl 2 rfl) ?_
    obtain ⟨r4, h5, h⟩ := bind_s h
    refine ki (kS (As := [.int q1]) (rest := []) C0 (kX3_isValue l D cJ cZ q1 r4 h5) gX3_multiply_X3_isValue rfl ⟨rfl, rfl⟩ hdX3_isValue ⟨Nat.le_of_ble_eq_true rfl, Nat.le_of_ble_eq_true rfl⟩ (hP.sub [] rfl) hE hl rfl rfl (Nat.le_of_ble_eq_true rfl) dX3_multiply_18 (Nat.zero_le _) (Nat.zero_le _)) ?_
    refine lv_if_eq (tgt := 31) hx hb dX3_multiply_21 (by decide) (fun c6 => ?_) (fun c6 => ?_)
    · have h := ite_t c6 h
      refine lv_bipush (v := (-2)) hx hb dX3_multiply_31 (by decide) ?_
      cases h
      exact rfI hx hb hr hlocks hP hD hS dX3_multiply_33
    · have h := ite_f c6 h
      refine lv_iload_n hx hb dX3_multiply_24 rfl (lv_at hl 3 rfl) ?_
      obtain ⟨r7, h8, h⟩ := bind_s h
      refine ki (kS (As := [.int q2]) (rest := []) C0 (kX3_isValue l D cJ cZ q2 r7 h8) gX3_multiply_X3_isValue rfl ⟨rfl, rfl⟩ hdX3_isValue ⟨Nat.le_of_ble_eq_true rfl, Nat.le_of_ble_eq_true rfl⟩ (hP.sub [] rfl) hE hl rfl rfl (Nat.le_of_ble_eq_true rfl) dX3_multiply_25 (Nat.zero_le _) (Nat.zero_le _)) ?_
      refine lv_if_ne (tgt := 34) hx hb dX3_multiply_28 (by decide) (fun c9 => ?_) (fun c9 => ?_)
      · have h := ite_f c9 h
        refine lv_aload_n hx hb dX3_multiply_34 rfl (lv_at hl 0 rfl) ?_
        refine va_get (D := D) (ci := 3) (v := .ref vo) (C := RX3) (T := TX3) (N := 4) hx hb hts iwX3_multiply_3 hown hE.1 hP 0 rfl rfl 1 (by decide) (hts _ lkX3_multiply_1) (fun _ h9 => h9) rfl dX3_multiply_35 ?_
        refine lv_iload_n hx hb dX3_multiply_38 rfl (lv_at hl 1 rfl) ?_
        refine lv_aload_n hx hb dX3_multiply_39 rfl (lv_at hl 0 rfl) ?_
        refine va_get (D := D) (ci := 3) (v := .ref po) (C := RX3) (T := TX3) (N := 4) hx hb hts iwX3_multiply_3 hown hE.1 hP 0 rfl rfl 3 (by decide) (hts _ lkX3_multiply_0) (fun _ h9 => h9) rfl dX3_multiply_40 ?_
        refine lv_aload_n hx hb dX3_multiply_43 rfl (lv_at hl 0 rfl) ?_
        refine va_get (D := D) (ci := 3) (v := .ref vo) (C := RX3) (T := TX3) (N := 4) hx hb hts iwX3_multiply_3 hown hE.1 hP 0 rfl rfl 1 (by decide) (hts _ lkX3_multiply_1) (fun _ h9 => h9) rfl dX3_multiply_44 ?_
        refine lv_iload_n hx hb dX3_multiply_47 rfl (lv_at hl 2 rfl) ?_
        obtain ⟨c10, h⟩ := ite_n h
        refine va_lald hx hb hE.1 hP 2 0 rfl rfl c10 dX3_multiply_48 ?_
        refine lv_aload_n hx hb dX3_multiply_49 rfl (lv_at hl 0 rfl) ?_
        refine va_get (D := D) (ci := 3) (v := .ref vo) (C := RX3) (T := TX3) (N := 4) hx hb hts iwX3_multiply_3 hown hE.1 hP 0 rfl rfl 1 (by decide) (hts _ lkX3_multiply_1) (fun _ h9 => h9) rfl dX3_multiply_50 ?_
        refine lv_iload_n hx hb dX3_multiply_53 rfl (lv_at hl 3 rfl) ?_
        obtain ⟨c11, h⟩ := ite_n h
        refine va_lald hx hb hE.1 hP 2 0 rfl rfl c11 dX3_multiply_54 ?_
        obtain ⟨r12, h13, h⟩ := bind_s h
        refine kl (kV (As := [.long (zV q1.toNatClampNeg), .long (zV q2.toNatClampNeg)]) (rest := [.int q0, .ref vo]) C0 (kX1_product l D cJ cZ po co fo zp zr zh zb zt (zV q1.toNatClampNeg) (zV q2.toNatClampNeg) r12 h13) gX3_multiply_X1_product rfl ⟨rfl, rfl⟩ hdX1_product ⟨Nat.le_of_ble_eq_true rfl, Nat.le_of_ble_eq_true rfl⟩ 1 0 rfl rfl rfl (hP.sub [3, 4, 5] rfl) hE hl rfl rfl (Nat.le_of_ble_eq_true rfl) dX3_multiply_55 (Nat.zero_le _) (Nat.zero_le _)) ?_
        obtain ⟨c14, h⟩ := ite_n h
        refine va_last hx hb hE.1 hP hD hS 2 0 rfl rfl c14 dX3_multiply_58 (fun H locs hP hD hS => ?_)
        have hP : va_P D vwCl [(dk, .inr (3, [.ref so, .ref vo, .ref co, .ref po])), (so, .inl (cJ, 16, .inr (.inl zS))), (vo, .inl (cJ, 8, .inr (.inl (vp_updL zV q0.toNatClampNeg r12)))), (po, .inr (1, [.ref co, .long zp, .long zr])), (co, .inr (0, [.ref fo, .long zp, .long zr, .long zh, .long zb, .int zt])), (fo, .inr (2, [.long zp]))] H := hP
        have hD : va_D A [(dk, .inr (3, [.ref so, .ref vo, .ref co, .ref po])), (so, .inl (cJ, 16, .inr (.inl zS))), (vo, .inl (cJ, 8, .inr (.inl (vp_updL zV q0.toNatClampNeg r12)))), (po, .inr (1, [.ref co, .long zp, .long zr])), (co, .inr (0, [.ref fo, .long zp, .long zr, .long zh, .long zb, .int zt])), (fo, .inr (2, [.long zp]))] := hD
        obtain ⟨w15, ew15, h⟩ := bnd_s h
        rw [← ew15] at hP hD
        refine lv_aload_n hx hb dX3_multiply_59 rfl (lv_at hl 0 rfl) ?_
        refine va_get (D := D) (ci := 3) (v := .ref vo) (C := RX3) (T := TX3) (N := 4) hx hb hts iwX3_multiply_3 hown hE.1 hP 0 rfl rfl 1 (by decide) (hts _ lkX3_multiply_1) (fun _ h9 => h9) rfl dX3_multiply_60 ?_
        refine lv_iload_n hx hb dX3_multiply_63 rfl (lv_at hl 1 rfl) ?_
        refine va_lald hx hb hE.1 hP 2 0 rfl rfl c14 dX3_multiply_64 ?_
        refine lv_ldc2 (v := 2147483648) hx hb hown (hts _ lkX3_multiply_2) dX3_multiply_65 ?_
        refine lc_ne (tgt := 76) hx hb dX3_multiply_68 dX3_multiply_69 (by decide) (fun c16 => ?_) (fun c16 => ?_)
        · have h := ite_f c16 h
          refine lv_iconst (v := 0) hx hb dX3_multiply_76 (by decide) ?_
          cases h
          exact rfI hx hb hr hlocks hP hD hS dX3_multiply_77
        · have h := ite_t c16 h
          refine lv_iconst (v := 1) hx hb dX3_multiply_72 (by decide) ?_
          refine lv_goto (tgt := 77) hx hb dX3_multiply_73 (by decide) ?_
          cases h
          exact rfI hx hb hr hlocks hP hD hS dX3_multiply_77
      · have h := ite_t c9 h
        refine lv_bipush (v := (-2)) hx hb dX3_multiply_31 (by decide) ?_
        cases h
        exact rfI hx hb hr hlocks hP hD hS dX3_multiply_33
def fX3_power (N : Nat) (zp : Int64) (zV : Nat → Int64) (q0 : Int32) (q1 : Int32) (q2 : Int64) : Option (Int32 × (Nat → Int64)) :=
  (fX3_isValue q0).bind fun r1 =>
  if (bI r1) = 0 then
    some ((-2), zV)
  else
    (fX3_isValue q1).bind fun r4 =>
    if (bI r4) = 0 then
      some ((-2), zV)
    else
      if 0 ≤ q2 then
        if q1 < 0 ∨ 8 ≤ q1.toNatClampNeg then none else
        (fX1_raised N zp (zV q1.toNatClampNeg) q2).bind fun r9 =>
        if q0 < 0 ∨ 8 ≤ q0.toNatClampNeg then none else
        bnd (vp_updL zV q0.toNatClampNeg r9) fun w12 =>
        if (w12 q0.toNatClampNeg) = 2147483648 then
          some (1, w12)
        else
          some (0, w12)
      else
        some ((-2), zV)
abbrev rmX3_power : Room := { frames := 3, cells := 0, slots := 0, locals := 83 }
theorem lkX3_power_0 : (.fieldLink RX3 42 "PairingDesk" "pairing" "LPairingDesk$Pairing;" : Cond) ∈ wsX3_power := by decide +kernel
theorem lkX3_power_1 : (.fieldLink RX3 13 "PairingDesk" "values" "[J" : Cond) ∈ wsX3_power := by decide +kernel
theorem lkX3_power_2 : (.constantLong RX3 131 (2147483648) : Cond) ∈ wsX3_power := by decide +kernel
theorem iwX3_power_3 : ∀ w ∈ wsX30, w ∈ wsX3_power := by decide +kernel
theorem hdX3_power : KN yX3_power 3 := by decide +kernel
set_option maxHeartbeats 4000000 in
set_option maxRecDepth 100000 in
theorem kX3_power (l : Launch) (D : va_G) (cJ cZ : ClassId) (dk so vo po co fo : Nat) (N : Nat) (zp : Int64) (zr : Int64) (zh : Int64) (zb : Int64) (zt : Int32) (zS : Nat → Int64) (zV : Nat → Int64) (q0 : Int32) (q1 : Int32) (q2 : Int64) (sz : Nat) (rr : Int32) (ozV : Nat → Int64) (h : fX3_power N zp zV q0 q1 q2 = some (rr, ozV)) : Met l yX3_power wsX3_power rmX3_power (PE D cJ cZ [.ref dk, .int q0, .int q1, .long q2] [(dk, .inr (3, [.ref so, .ref vo, .ref co, .ref po])), (so, .inl (cJ, 16, .inr (.inl zS))), (vo, .inl (cJ, 8, .inr (.inl zV))), (po, .inr (1, [.ref co, .long zp, .long zr])), (co, .inr (0, [.ref fo, .long zp, .long zr, .long zh, .long zb, .int zt])), (fo, .inr (2, [.long zp]))] sz) (QE D (some (.int rr)) [(dk, .inr (3, [.ref so, .ref vo, .ref co, .ref po])), (so, .inl (cJ, 16, .inr (.inl zS))), (vo, .inl (cJ, 8, .inr (.inl ozV))), (po, .inr (1, [.ref co, .long zp, .long zr])), (co, .inr (0, [.ref fo, .long zp, .long zr, .long zh, .long zb, .int zt])), (fo, .inr (2, [.long zp]))] (va_A [(dk, .inr (3, [.ref so, .ref vo, .ref co, .ref po])), (so, .inl (cJ, 16, .inr (.inl zS))), (vo, .inl (cJ, 8, .inr (.inl zV))), (po, .inr (1, [.ref co, .long zp, .long zr])), (co, .inr (0, [.ref fo, .long zp, .long zr, .long zh, .long zb, .int zt])), (fo, .inr (2, [.long zp]))] sz)) 0 0 (va_A [(dk, .inr (3, [.ref so, .ref vo, .ref co, .ref po])), (so, .inl (cJ, 16, .inr (.inl zS))), (vo, .inl (cJ, 8, .inr (.inl zV))), (po, .inr (1, [.ref co, .long zp, .long zr])), (co, .inr (0, [.ref fo, .long zp, .long zr, .long zh, .long zb, .int zt])), (fo, .inr (2, [.long zp]))] sz) := by
  refine Met.ofW (cc := cX3_power) (maxL := 5) (ret := some .int) (by decide) rfl ?_
  intro pg e s m args below meth c s₁ B hml hv
  obtain ⟨rfl, hsz, hP, hE, hD0⟩ := hv
  have hx := B.exec
  have hb := B.bytes
  have hr := B.returns
  have hlocks := B.notSynchronized
  have C0 : CallFix pg m c cX3_power 5 s ([.ref dk, .int q0, .int q1, .long q2] : List Value).toArray wsX3_power RX3 := ⟨hx, hb, hml, findClass_of_methodNamed B.named, atoms_spec (ws := wsX3_power) B.pre⟩
  have hown := C0.2.2.2.1
  have hts := C0.2.2.2.2
  subst hsz
  have hD := hD0.self (sz := s.heap.size)
  generalize hAe : va_A [(dk, .inr (3, [.ref so, .ref vo, .ref co, .ref po])), (so, .inl (cJ, 16, .inr (.inl zS))), (vo, .inl (cJ, 8, .inr (.inl zV))), (po, .inr (1, [.ref co, .long zp, .long zr])), (co, .inr (0, [.ref fo, .long zp, .long zr, .long zh, .long zb, .int zt])), (fo, .inr (2, [.long zp]))] s.heap.size = A at hD ⊢
  have hA : ∀ q : Nat, s.heap.size ≤ q → A q := fun q h => by rw [← hAe]; exact Or.inr h
  have hS : va_S A s.heap s.heap [] := va_S.rf
  have hP : va_P D vwCl [(dk, .inr (3, [.ref so, .ref vo, .ref co, .ref po])), (so, .inl (cJ, 16, .inr (.inl zS))), (vo, .inl (cJ, 8, .inr (.inl zV))), (po, .inr (1, [.ref co, .long zp, .long zr])), (co, .inr (0, [.ref fo, .long zp, .long zr, .long zh, .long zb, .int zt])), (fo, .inr (2, [.long zp]))] s.heap := hP
  have hl := lv_entry ([.ref dk, .int q0, .int q1, .long q2]) (n := 5) (Nat.le_of_ble_eq_true rfl)
  rw [lg_entry_eq]
  generalize (lg_sl ([.ref dk, .int q0, .int q1, .long q2]) ++ List.replicate (5 - (lg_sl ([.ref dk, .int q0, .int q1, .long q2])).length) Slot.unset).toArray = ls at hl ⊢
  have hl : lv_has ls 5 [(0, .ref dk), (1, .int q0), (2, .int q1), (3, .long q2)] := hl
  suffices key : ∀ (H : Heap) (locs : List Loc), va_P D vwCl [(dk, .inr (3, [.ref so, .ref vo, .ref co, .ref po])), (so, .inl (cJ, 16, .inr (.inl zS))), (vo, .inl (cJ, 8, .inr (.inl zV))), (po, .inr (1, [.ref co, .long zp, .long zr])), (co, .inr (0, [.ref fo, .long zp, .long zr, .long zh, .long zb, .int zt])), (fo, .inr (2, [.long zp]))] H → va_D A [(dk, .inr (3, [.ref so, .ref vo, .ref co, .ref po])), (so, .inl (cJ, 16, .inr (.inl zS))), (vo, .inl (cJ, 8, .inr (.inl zV))), (po, .inr (1, [.ref co, .long zp, .long zr])), (co, .inr (0, [.ref fo, .long zp, .long zr, .long zh, .long zb, .int zt])), (fo, .inr (2, [.long zp]))] → va_S A s.heap H locs → W pg l e (headSpec wsX3_power rmX3_power).room s m ([.ref dk, .int q0, .int q1, .long q2] : List Value).toArray below meth c H locs 0 0 (MQ below (QE D (some (.int rr)) [(dk, .inr (3, [.ref so, .ref vo, .ref co, .ref po])), (so, .inl (cJ, 16, .inr (.inl zS))), (vo, .inl (cJ, 8, .inr (.inl ozV))), (po, .inr (1, [.ref co, .long zp, .long zr])), (co, .inr (0, [.ref fo, .long zp, .long zr, .long zh, .long zb, .int zt])), (fo, .inr (2, [.long zp]))] A) ([.ref dk, .int q0, .int q1, .long q2] : List Value).toArray s 0 0 A) (F0 m 0 ls []) from key s.heap [] hP hD hS
  intro H locs hP hD hS
  unfold fX3_power at h
  refine lv_aload_n hx hb dX3_power_0 rfl (lv_at hl 0 rfl) ?_
  refine va_get (D := D) (ci := 3) (v := .ref po) (C := RX3) (T := TX3) (N := 4) hx hb hts iwX3_power_3 hown hE.1 hP 0 rfl rfl 3 (by decide) (hts _ lkX3_power_0) (fun _ h9 => h9) rfl dX3_power_1 ?_
  refine lv_ifnonnull (tgt := 10) hx hb dX3_power_4 (by decide) ?_
  refine lv_iload_n hx hb dX3_power_10 rfl (lv_at hl 1 rfl) ?_
  obtain ⟨r1, h2, h⟩ := bind_s h
  refine ki (kS (As := [.int q0]) (rest := []) C0 (kX3_isValue l D cJ cZ q0 r1 h2) gX3_power_X3_isValue rfl ⟨rfl, rfl⟩ hdX3_isValue ⟨Nat.le_of_ble_eq_true rfl, Nat.le_of_ble_eq_true rfl⟩ (hP.sub [] rfl) hE hl rfl rfl (Nat.le_of_ble_eq_true rfl) dX3_power_11 (Nat.zero_le _) (Nat.zero_le _)) ?_
  refine lv_if_eq (tgt := 30) hx hb dX3_power_14 (by decide) (fun c3 => ?_) (fun c3 => ?_)
  · have h := ite_t c3 h
    refine lv_bipush (v := (-2)) hx hb dX3_power_30 (by decide) ?_
    cases h
    exact rfI hx hb hr hlocks hP hD hS dX3_power_32
  · have h := ite_f c3 h
    refine lv_iload_n hx hb dX3_power_17 rfl (lv_at hl 2 rfl) ?_
    obtain ⟨r4, h5, h⟩ := bind_s h
    refine ki (kS (As := [.int q1]) (rest := []) C0 (kX3_isValue l D cJ cZ q1 r4 h5) gX3_power_X3_isValue rfl ⟨rfl, rfl⟩ hdX3_isValue ⟨Nat.le_of_ble_eq_true rfl, Nat.le_of_ble_eq_true rfl⟩ (hP.sub [] rfl) hE hl rfl rfl (Nat.le_of_ble_eq_true rfl) dX3_power_18 (Nat.zero_le _) (Nat.zero_le _)) ?_
    refine lv_if_eq (tgt := 30) hx hb dX3_power_21 (by decide) (fun c6 => ?_) (fun c6 => ?_)
    · have h := ite_t c6 h
      refine lv_bipush (v := (-2)) hx hb dX3_power_30 (by decide) ?_
      cases h
      exact rfI hx hb hr hlocks hP hD hS dX3_power_32
    · have h := ite_f c6 h
      refine lv_lload_n hx hb dX3_power_24 rfl (lv_at hl 3 rfl) ?_
      refine lv_lconst (v := 0) hx hb dX3_power_25 (by decide) ?_
      refine lc_ge (tgt := 33) hx hb dX3_power_26 dX3_power_27 (by decide) (fun c7 => ?_) (fun c7 => ?_)
      · have h := ite_t c7 h
        refine lv_aload_n hx hb dX3_power_33 rfl (lv_at hl 0 rfl) ?_
        refine va_get (D := D) (ci := 3) (v := .ref vo) (C := RX3) (T := TX3) (N := 4) hx hb hts iwX3_power_3 hown hE.1 hP 0 rfl rfl 1 (by decide) (hts _ lkX3_power_1) (fun _ h9 => h9) rfl dX3_power_34 ?_
        refine lv_iload_n hx hb dX3_power_37 rfl (lv_at hl 1 rfl) ?_
        refine lv_aload_n hx hb dX3_power_38 rfl (lv_at hl 0 rfl) ?_
        refine va_get (D := D) (ci := 3) (v := .ref po) (C := RX3) (T := TX3) (N := 4) hx hb hts iwX3_power_3 hown hE.1 hP 0 rfl rfl 3 (by decide) (hts _ lkX3_power_0) (fun _ h9 => h9) rfl dX3_power_39 ?_
        refine lv_aload_n hx hb dX3_power_42 rfl (lv_at hl 0 rfl) ?_
        refine va_get (D := D) (ci := 3) (v := .ref vo) (C := RX3) (T := TX3) (N := 4) hx hb hts iwX3_power_3 hown hE.1 hP 0 rfl rfl 1 (by decide) (hts _ lkX3_power_1) (fun _ h9 => h9) rfl dX3_power_43 ?_
        refine lv_iload_n hx hb dX3_power_46 rfl (lv_at hl 2 rfl) ?_
        obtain ⟨c8, h⟩ := ite_n h
        refine va_lald hx hb hE.1 hP 2 0 rfl rfl c8 dX3_power_47 ?_
        refine lv_lload_n hx hb dX3_power_48 rfl (lv_at hl 3 rfl) ?_
        obtain ⟨r9, h10, h⟩ := bind_s h
        refine kl (kV (As := [.long (zV q1.toNatClampNeg), .long q2]) (rest := [.int q0, .ref vo]) C0 (kX1_raised l D cJ cZ po co fo N zp zr zh zb zt (zV q1.toNatClampNeg) q2 r9 h10) gX3_power_X1_raised rfl ⟨rfl, rfl⟩ hdX1_raised ⟨Nat.le_of_ble_eq_true rfl, Nat.le_of_ble_eq_true rfl⟩ 1 0 rfl rfl rfl (hP.sub [3, 4, 5] rfl) hE hl rfl rfl (Nat.le_of_ble_eq_true rfl) dX3_power_49 (Nat.zero_le _) (Nat.zero_le _)) ?_
        obtain ⟨c11, h⟩ := ite_n h
        refine va_last hx hb hE.1 hP hD hS 2 0 rfl rfl c11 dX3_power_52 (fun H locs hP hD hS => ?_)
        have hP : va_P D vwCl [(dk, .inr (3, [.ref so, .ref vo, .ref co, .ref po])), (so, .inl (cJ, 16, .inr (.inl zS))), (vo, .inl (cJ, 8, .inr (.inl (vp_updL zV q0.toNatClampNeg r9)))), (po, .inr (1, [.ref co, .long zp, .long zr])), (co, .inr (0, [.ref fo, .long zp, .long zr, .long zh, .long zb, .int zt])), (fo, .inr (2, [.long zp]))] H := hP
        have hD : va_D A [(dk, .inr (3, [.ref so, .ref vo, .ref co, .ref po])), (so, .inl (cJ, 16, .inr (.inl zS))), (vo, .inl (cJ, 8, .inr (.inl (vp_updL zV q0.toNatClampNeg r9)))), (po, .inr (1, [.ref co, .long zp, .long zr])), (co, .inr (0, [.ref fo, .long zp, .long zr, .long zh, .long zb, .int zt])), (fo, .inr (2, [.long zp]))] := hD
        obtain ⟨w12, ew12, h⟩ := bnd_s h
        rw [← ew12] at hP hD
        refine lv_aload_n hx hb dX3_power_53 rfl (lv_at hl 0 rfl) ?_
        refine va_get (D := D) (ci := 3) (v := .ref vo) (C := RX3) (T := TX3) (N := 4) hx hb hts iwX3_power_3 hown hE.1 hP 0 rfl rfl 1 (by decide) (hts _ lkX3_power_1) (fun _ h9 => h9) rfl dX3_power_54 ?_
        refine lv_iload_n hx hb dX3_power_57 rfl (lv_at hl 1 rfl) ?_
        refine va_lald hx hb hE.1 hP 2 0 rfl rfl c11 dX3_power_58 ?_
        refine lv_ldc2 (v := 2147483648) hx hb hown (hts _ lkX3_power_2) dX3_power_59 ?_
        refine lc_ne (tgt := 70) hx hb dX3_power_62 dX3_power_63 (by decide) (fun c13 => ?_) (fun c13 => ?_)
        · have h := ite_f c13 h
          refine lv_iconst (v := 0) hx hb dX3_power_70 (by decide) ?_
          cases h
          exact rfI hx hb hr hlocks hP hD hS dX3_power_71
        · have h := ite_t c13 h
          refine lv_iconst (v := 1) hx hb dX3_power_66 (by decide) ?_
          refine lv_goto (tgt := 71) hx hb dX3_power_67 (by decide) ?_
          cases h
          exact rfI hx hb hr hlocks hP hD hS dX3_power_71
      · have h := ite_f c7 h
        refine lv_bipush (v := (-2)) hx hb dX3_power_30 (by decide) ?_
        cases h
        exact rfI hx hb hr hlocks hP hD hS dX3_power_32
def fX3_value  (zV : Nat → Int64) (q0 : Int32) (q1 : Int32) : Option (Int32) :=
  (fX3_isValue q0).bind fun r1 =>
  if (bI r1) = 0 then
    some (-2)
  else
    (fX3_isHalf q1).bind fun r4 =>
    if (bI r4) = 0 then
      some (-2)
    else
      if q0 < 0 ∨ 8 ≤ q0.toNatClampNeg then none else
      (fX3_half (zV q0.toNatClampNeg) q1).bind fun r8 =>
      some r8
abbrev rmX3_value : Room := { frames := 2, cells := 0, slots := 0, locals := 43 }
theorem lkX3_value_0 : (.fieldLink RX3 42 "PairingDesk" "pairing" "LPairingDesk$Pairing;" : Cond) ∈ wsX3_value := by decide +kernel
theorem lkX3_value_1 : (.fieldLink RX3 13 "PairingDesk" "values" "[J" : Cond) ∈ wsX3_value := by decide +kernel
theorem iwX3_value_3 : ∀ w ∈ wsX30, w ∈ wsX3_value := by decide +kernel
theorem hdX3_value : KN yX3_value 2 := by decide +kernel
set_option maxHeartbeats 4000000 in
set_option maxRecDepth 100000 in
theorem kX3_value (l : Launch) (D : va_G) (cJ cZ : ClassId) (dk so vo po co fo : Nat) (zp : Int64) (zr : Int64) (zh : Int64) (zb : Int64) (zt : Int32) (zS : Nat → Int64) (zV : Nat → Int64) (q0 : Int32) (q1 : Int32) (rr : Int32) (h : fX3_value zV q0 q1 = some rr) : Met l yX3_value wsX3_value rmX3_value (PP D cJ cZ [.ref dk, .int q0, .int q1] [(dk, .inr (3, [.ref so, .ref vo, .ref co, .ref po])), (so, .inl (cJ, 16, .inr (.inl zS))), (vo, .inl (cJ, 8, .inr (.inl zV))), (po, .inr (1, [.ref co, .long zp, .long zr])), (co, .inr (0, [.ref fo, .long zp, .long zr, .long zh, .long zb, .int zt])), (fo, .inr (2, [.long zp]))]) (SI rr) 0 0 (fun _ => False) := by
  refine Met.ofW (cc := cX3_value) (maxL := 3) (ret := some .int) (by decide) rfl ?_
  intro pg e s m args below meth c s₁ B hml hv
  obtain ⟨rfl, hP, hE⟩ := hv
  have hx := B.exec
  have hb := B.bytes
  have hr := B.returns
  have hlocks := B.notSynchronized
  have C0 : CallFix pg m c cX3_value 3 s ([.ref dk, .int q0, .int q1] : List Value).toArray wsX3_value RX3 := ⟨hx, hb, hml, findClass_of_methodNamed B.named, atoms_spec (ws := wsX3_value) B.pre⟩
  have hown := C0.2.2.2.1
  have hts := C0.2.2.2.2
  have hl := lv_entry ([.ref dk, .int q0, .int q1]) (n := 3) (Nat.le_of_ble_eq_true rfl)
  rw [lg_entry_eq]
  generalize (lg_sl ([.ref dk, .int q0, .int q1]) ++ List.replicate (3 - (lg_sl ([.ref dk, .int q0, .int q1])).length) Slot.unset).toArray = ls at hl ⊢
  have hl : lv_has ls 3 [(0, .ref dk), (1, .int q0), (2, .int q1)] := hl
  unfold fX3_value at h
  refine lv_aload_n hx hb dX3_value_0 rfl (lv_at hl 0 rfl) ?_
  refine va_get (D := D) (ci := 3) (v := .ref po) (C := RX3) (T := TX3) (N := 4) hx hb hts iwX3_value_3 hown hE.1 hP 0 rfl rfl 3 (by decide) (hts _ lkX3_value_0) (fun _ h9 => h9) rfl dX3_value_1 ?_
  refine lv_ifnonnull (tgt := 10) hx hb dX3_value_4 (by decide) ?_
  refine lv_iload_n hx hb dX3_value_10 rfl (lv_at hl 1 rfl) ?_
  obtain ⟨r1, h2, h⟩ := bind_s h
  refine ki (kS (As := [.int q0]) (rest := []) C0 (kX3_isValue l D cJ cZ q0 r1 h2) gX3_value_X3_isValue rfl ⟨rfl, rfl⟩ hdX3_isValue ⟨Nat.le_of_ble_eq_true rfl, Nat.le_of_ble_eq_true rfl⟩ (hP.sub [] rfl) hE hl rfl rfl (Nat.le_of_ble_eq_true rfl) dX3_value_11 (Nat.zero_le _) (Nat.zero_le _)) ?_
  refine lv_if_eq (tgt := 24) hx hb dX3_value_14 (by decide) (fun c3 => ?_) (fun c3 => ?_)
  · have h := ite_t c3 h
    refine lv_bipush (v := (-2)) hx hb dX3_value_24 (by decide) ?_
    exact reI hx hb hr hlocks h dX3_value_26
  · have h := ite_f c3 h
    refine lv_iload_n hx hb dX3_value_17 rfl (lv_at hl 2 rfl) ?_
    obtain ⟨r4, h5, h⟩ := bind_s h
    refine ki (kS (As := [.int q1]) (rest := []) C0 (kX3_isHalf l D cJ cZ q1 r4 h5) gX3_value_X3_isHalf rfl ⟨rfl, rfl⟩ hdX3_isHalf ⟨Nat.le_of_ble_eq_true rfl, Nat.le_of_ble_eq_true rfl⟩ (hP.sub [] rfl) hE hl rfl rfl (Nat.le_of_ble_eq_true rfl) dX3_value_18 (Nat.zero_le _) (Nat.zero_le _)) ?_
    refine lv_if_ne (tgt := 27) hx hb dX3_value_21 (by decide) (fun c6 => ?_) (fun c6 => ?_)
    · have h := ite_f c6 h
      refine lv_aload_n hx hb dX3_value_27 rfl (lv_at hl 0 rfl) ?_
      refine va_get (D := D) (ci := 3) (v := .ref vo) (C := RX3) (T := TX3) (N := 4) hx hb hts iwX3_value_3 hown hE.1 hP 0 rfl rfl 1 (by decide) (hts _ lkX3_value_1) (fun _ h9 => h9) rfl dX3_value_28 ?_
      refine lv_iload_n hx hb dX3_value_31 rfl (lv_at hl 1 rfl) ?_
      obtain ⟨c7, h⟩ := ite_n h
      refine va_lald hx hb hE.1 hP 2 0 rfl rfl c7 dX3_value_32 ?_
      refine lv_iload_n hx hb dX3_value_33 rfl (lv_at hl 2 rfl) ?_
      obtain ⟨r8, h9, h⟩ := bind_s h
      refine ki (kS (As := [.long (zV q0.toNatClampNeg), .int q1]) (rest := []) C0 (kX3_half l D cJ cZ (zV q0.toNatClampNeg) q1 r8 h9) gX3_value_X3_half rfl ⟨rfl, rfl⟩ hdX3_half ⟨Nat.le_of_ble_eq_true rfl, Nat.le_of_ble_eq_true rfl⟩ (hP.sub [] rfl) hE hl rfl rfl (Nat.le_of_ble_eq_true rfl) dX3_value_34 (Nat.zero_le _) (Nat.zero_le _)) ?_
      exact reI hx hb hr hlocks h dX3_value_37
    · have h := ite_t c6 h
      refine lv_bipush (v := (-2)) hx hb dX3_value_24 (by decide) ?_
      exact reI hx hb hr hlocks h dX3_value_26
def fX3_open (N : Nat) (zp : Int64) (zr : Int64) (zb : Int64) (zS : Nat → Int64) (q0 : Int32) (q1 : Int32) : Option (Int32 × (Nat → Int64)) :=
  (fX3_isSlot q0).bind fun r1 =>
  if (bI r1) = 0 then
    some ((-2), zS)
  else
    (fX0_isKey zr q1).bind fun r4 =>
    if (bI r4) = 0 then
      some ((-2), zS)
    else
      (fX0_multiple N zp q1.toInt64 zb).bind fun r7 =>
      if q0 < 0 ∨ 16 ≤ q0.toNatClampNeg then none else
      bnd (vp_updL zS q0.toNatClampNeg r7) fun w10 =>
      some (1, w10)
abbrev rmX3_open : Room := { frames := 4, cells := 0, slots := 0, locals := 127 }
theorem lkX3_open_0 : (.fieldLink RX3 33 "PairingDesk" "curve" "LPairingDesk$Curve;" : Cond) ∈ wsX3_open := by decide +kernel
theorem lkX3_open_1 : (.fieldLink RX3 9 "PairingDesk" "slots" "[J" : Cond) ∈ wsX3_open := by decide +kernel
theorem lkX3_open_2 : (.fieldLink RX3 139 "PairingDesk$Curve" "base" "J" : Cond) ∈ wsX3_open := by decide +kernel
theorem iwX3_open_0 : ∀ w ∈ wsX00, w ∈ wsX3_open := by decide +kernel
theorem iwX3_open_3 : ∀ w ∈ wsX30, w ∈ wsX3_open := by decide +kernel
theorem hdX3_open : KN yX3_open 2 := by decide +kernel
set_option maxHeartbeats 4000000 in
set_option maxRecDepth 100000 in
theorem kX3_open (l : Launch) (D : va_G) (cJ cZ : ClassId) (dk so vo po co fo : Nat) (N : Nat) (zp : Int64) (zr : Int64) (zh : Int64) (zb : Int64) (zt : Int32) (zS : Nat → Int64) (zV : Nat → Int64) (q0 : Int32) (q1 : Int32) (sz : Nat) (rr : Int32) (ozS : Nat → Int64) (h : fX3_open N zp zr zb zS q0 q1 = some (rr, ozS)) : Met l yX3_open wsX3_open rmX3_open (PE D cJ cZ [.ref dk, .int q0, .int q1] [(dk, .inr (3, [.ref so, .ref vo, .ref co, .ref po])), (so, .inl (cJ, 16, .inr (.inl zS))), (vo, .inl (cJ, 8, .inr (.inl zV))), (po, .inr (1, [.ref co, .long zp, .long zr])), (co, .inr (0, [.ref fo, .long zp, .long zr, .long zh, .long zb, .int zt])), (fo, .inr (2, [.long zp]))] sz) (QE D (some (.int rr)) [(dk, .inr (3, [.ref so, .ref vo, .ref co, .ref po])), (so, .inl (cJ, 16, .inr (.inl ozS))), (vo, .inl (cJ, 8, .inr (.inl zV))), (po, .inr (1, [.ref co, .long zp, .long zr])), (co, .inr (0, [.ref fo, .long zp, .long zr, .long zh, .long zb, .int zt])), (fo, .inr (2, [.long zp]))] (va_A [(dk, .inr (3, [.ref so, .ref vo, .ref co, .ref po])), (so, .inl (cJ, 16, .inr (.inl zS))), (vo, .inl (cJ, 8, .inr (.inl zV))), (po, .inr (1, [.ref co, .long zp, .long zr])), (co, .inr (0, [.ref fo, .long zp, .long zr, .long zh, .long zb, .int zt])), (fo, .inr (2, [.long zp]))] sz)) 0 0 (va_A [(dk, .inr (3, [.ref so, .ref vo, .ref co, .ref po])), (so, .inl (cJ, 16, .inr (.inl zS))), (vo, .inl (cJ, 8, .inr (.inl zV))), (po, .inr (1, [.ref co, .long zp, .long zr])), (co, .inr (0, [.ref fo, .long zp, .long zr, .long zh, .long zb, .int zt])), (fo, .inr (2, [.long zp]))] sz) := by
  refine Met.ofW (cc := cX3_open) (maxL := 3) (ret := some .int) (by decide) rfl ?_
  intro pg e s m args below meth c s₁ B hml hv
  obtain ⟨rfl, hsz, hP, hE, hD0⟩ := hv
  have hx := B.exec
  have hb := B.bytes
  have hr := B.returns
  have hlocks := B.notSynchronized
  have C0 : CallFix pg m c cX3_open 3 s ([.ref dk, .int q0, .int q1] : List Value).toArray wsX3_open RX3 := ⟨hx, hb, hml, findClass_of_methodNamed B.named, atoms_spec (ws := wsX3_open) B.pre⟩
  have hown := C0.2.2.2.1
  have hts := C0.2.2.2.2
  subst hsz
  have hD := hD0.self (sz := s.heap.size)
  generalize hAe : va_A [(dk, .inr (3, [.ref so, .ref vo, .ref co, .ref po])), (so, .inl (cJ, 16, .inr (.inl zS))), (vo, .inl (cJ, 8, .inr (.inl zV))), (po, .inr (1, [.ref co, .long zp, .long zr])), (co, .inr (0, [.ref fo, .long zp, .long zr, .long zh, .long zb, .int zt])), (fo, .inr (2, [.long zp]))] s.heap.size = A at hD ⊢
  have hA : ∀ q : Nat, s.heap.size ≤ q → A q := fun q h => by rw [← hAe]; exact Or.inr h
  have hS : va_S A s.heap s.heap [] := va_S.rf
  have hP : va_P D vwCl [(dk, .inr (3, [.ref so, .ref vo, .ref co, .ref po])), (so, .inl (cJ, 16, .inr (.inl zS))), (vo, .inl (cJ, 8, .inr (.inl zV))), (po, .inr (1, [.ref co, .long zp, .long zr])), (co, .inr (0, [.ref fo, .long zp, .long zr, .long zh, .long zb, .int zt])), (fo, .inr (2, [.long zp]))] s.heap := hP
  have hl := lv_entry ([.ref dk, .int q0, .int q1]) (n := 3) (Nat.le_of_ble_eq_true rfl)
  rw [lg_entry_eq]
  generalize (lg_sl ([.ref dk, .int q0, .int q1]) ++ List.replicate (3 - (lg_sl ([.ref dk, .int q0, .int q1])).length) Slot.unset).toArray = ls at hl ⊢
  have hl : lv_has ls 3 [(0, .ref dk), (1, .int q0), (2, .int q1)] := hl
  suffices key : ∀ (H : Heap) (locs : List Loc), va_P D vwCl [(dk, .inr (3, [.ref so, .ref vo, .ref co, .ref po])), (so, .inl (cJ, 16, .inr (.inl zS))), (vo, .inl (cJ, 8, .inr (.inl zV))), (po, .inr (1, [.ref co, .long zp, .long zr])), (co, .inr (0, [.ref fo, .long zp, .long zr, .long zh, .long zb, .int zt])), (fo, .inr (2, [.long zp]))] H → va_D A [(dk, .inr (3, [.ref so, .ref vo, .ref co, .ref po])), (so, .inl (cJ, 16, .inr (.inl zS))), (vo, .inl (cJ, 8, .inr (.inl zV))), (po, .inr (1, [.ref co, .long zp, .long zr])), (co, .inr (0, [.ref fo, .long zp, .long zr, .long zh, .long zb, .int zt])), (fo, .inr (2, [.long zp]))] → va_S A s.heap H locs → W pg l e (headSpec wsX3_open rmX3_open).room s m ([.ref dk, .int q0, .int q1] : List Value).toArray below meth c H locs 0 0 (MQ below (QE D (some (.int rr)) [(dk, .inr (3, [.ref so, .ref vo, .ref co, .ref po])), (so, .inl (cJ, 16, .inr (.inl ozS))), (vo, .inl (cJ, 8, .inr (.inl zV))), (po, .inr (1, [.ref co, .long zp, .long zr])), (co, .inr (0, [.ref fo, .long zp, .long zr, .long zh, .long zb, .int zt])), (fo, .inr (2, [.long zp]))] A) ([.ref dk, .int q0, .int q1] : List Value).toArray s 0 0 A) (F0 m 0 ls []) from key s.heap [] hP hD hS
  intro H locs hP hD hS
  unfold fX3_open at h
  refine lv_aload_n hx hb dX3_open_0 rfl (lv_at hl 0 rfl) ?_
  refine va_get (D := D) (ci := 3) (v := .ref co) (C := RX3) (T := TX3) (N := 4) hx hb hts iwX3_open_3 hown hE.1 hP 0 rfl rfl 2 (by decide) (hts _ lkX3_open_0) (fun _ h9 => h9) rfl dX3_open_1 ?_
  refine lv_ifnonnull (tgt := 10) hx hb dX3_open_4 (by decide) ?_
  refine lv_iload_n hx hb dX3_open_10 rfl (lv_at hl 1 rfl) ?_
  obtain ⟨r1, h2, h⟩ := bind_s h
  refine ki (kS (As := [.int q0]) (rest := []) C0 (kX3_isSlot l D cJ cZ q0 r1 h2) gX3_open_X3_isSlot rfl ⟨rfl, rfl⟩ hdX3_isSlot ⟨Nat.le_of_ble_eq_true rfl, Nat.le_of_ble_eq_true rfl⟩ (hP.sub [] rfl) hE hl rfl rfl (Nat.le_of_ble_eq_true rfl) dX3_open_11 (Nat.zero_le _) (Nat.zero_le _)) ?_
  refine lv_if_eq (tgt := 28) hx hb dX3_open_14 (by decide) (fun c3 => ?_) (fun c3 => ?_)
  · have h := ite_t c3 h
    refine lv_bipush (v := (-2)) hx hb dX3_open_28 (by decide) ?_
    cases h
    exact rfI hx hb hr hlocks hP hD hS dX3_open_30
  · have h := ite_f c3 h
    refine lv_aload_n hx hb dX3_open_17 rfl (lv_at hl 0 rfl) ?_
    refine va_get (D := D) (ci := 3) (v := .ref co) (C := RX3) (T := TX3) (N := 4) hx hb hts iwX3_open_3 hown hE.1 hP 0 rfl rfl 2 (by decide) (hts _ lkX3_open_0) (fun _ h9 => h9) rfl dX3_open_18 ?_
    refine lv_iload_n hx hb dX3_open_21 rfl (lv_at hl 2 rfl) ?_
    obtain ⟨r4, h5, h⟩ := bind_s h
    refine ki (kV (As := [.int q1]) (rest := []) C0 (kX0_isKey l D cJ cZ co fo zp zr zh zb zt q1 r4 h5) gX3_open_X0_isKey rfl ⟨rfl, rfl⟩ hdX0_isKey ⟨Nat.le_of_ble_eq_true rfl, Nat.le_of_ble_eq_true rfl⟩ 0 0 rfl rfl rfl (hP.sub [4, 5] rfl) hE hl rfl rfl (Nat.le_of_ble_eq_true rfl) dX3_open_22 (Nat.zero_le _) (Nat.zero_le _)) ?_
    refine lv_if_ne (tgt := 31) hx hb dX3_open_25 (by decide) (fun c6 => ?_) (fun c6 => ?_)
    · have h := ite_f c6 h
      refine lv_aload_n hx hb dX3_open_31 rfl (lv_at hl 0 rfl) ?_
      refine va_get (D := D) (ci := 3) (v := .ref so) (C := RX3) (T := TX3) (N := 4) hx hb hts iwX3_open_3 hown hE.1 hP 0 rfl rfl 0 (by decide) (hts _ lkX3_open_1) (fun _ h9 => h9) rfl dX3_open_32 ?_
      refine lv_iload_n hx hb dX3_open_35 rfl (lv_at hl 1 rfl) ?_
      refine lv_aload_n hx hb dX3_open_36 rfl (lv_at hl 0 rfl) ?_
      refine va_get (D := D) (ci := 3) (v := .ref co) (C := RX3) (T := TX3) (N := 4) hx hb hts iwX3_open_3 hown hE.1 hP 0 rfl rfl 2 (by decide) (hts _ lkX3_open_0) (fun _ h9 => h9) rfl dX3_open_37 ?_
      refine lv_iload_n hx hb dX3_open_40 rfl (lv_at hl 2 rfl) ?_
      refine lv_i2l (v := q1.toInt64) hx hb dX3_open_41 rfl ?_
      refine lv_aload_n hx hb dX3_open_42 rfl (lv_at hl 0 rfl) ?_
      refine va_get (D := D) (ci := 3) (v := .ref co) (C := RX3) (T := TX3) (N := 4) hx hb hts iwX3_open_3 hown hE.1 hP 0 rfl rfl 2 (by decide) (hts _ lkX3_open_0) (fun _ h9 => h9) rfl dX3_open_43 ?_
      refine va_get (D := D) (ci := 0) (v := .long zb) (C := RX0) (T := TX0) (N := 6) hx hb hts iwX3_open_0 hown hE.1 hP 4 rfl rfl 4 (by decide) (hts _ lkX3_open_2) (fun _ h9 => h9) rfl dX3_open_46 ?_
      obtain ⟨r7, h8, h⟩ := bind_s h
      refine kl (kV (As := [.long q1.toInt64, .long zb]) (rest := [.int q0, .ref so]) C0 (kX0_multiple l D cJ cZ co fo N zp zr zh zb zt q1.toInt64 zb r7 h8) gX3_open_X0_multiple rfl ⟨rfl, rfl⟩ hdX0_multiple ⟨Nat.le_of_ble_eq_true rfl, Nat.le_of_ble_eq_true rfl⟩ 0 0 rfl rfl rfl (hP.sub [4, 5] rfl) hE hl rfl rfl (Nat.le_of_ble_eq_true rfl) dX3_open_49 (Nat.zero_le _) (Nat.zero_le _)) ?_
      obtain ⟨c9, h⟩ := ite_n h
      refine va_last hx hb hE.1 hP hD hS 1 0 rfl rfl c9 dX3_open_52 (fun H locs hP hD hS => ?_)
      have hP : va_P D vwCl [(dk, .inr (3, [.ref so, .ref vo, .ref co, .ref po])), (so, .inl (cJ, 16, .inr (.inl (vp_updL zS q0.toNatClampNeg r7)))), (vo, .inl (cJ, 8, .inr (.inl zV))), (po, .inr (1, [.ref co, .long zp, .long zr])), (co, .inr (0, [.ref fo, .long zp, .long zr, .long zh, .long zb, .int zt])), (fo, .inr (2, [.long zp]))] H := hP
      have hD : va_D A [(dk, .inr (3, [.ref so, .ref vo, .ref co, .ref po])), (so, .inl (cJ, 16, .inr (.inl (vp_updL zS q0.toNatClampNeg r7)))), (vo, .inl (cJ, 8, .inr (.inl zV))), (po, .inr (1, [.ref co, .long zp, .long zr])), (co, .inr (0, [.ref fo, .long zp, .long zr, .long zh, .long zb, .int zt])), (fo, .inr (2, [.long zp]))] := hD
      obtain ⟨w10, ew10, h⟩ := bnd_s h
      rw [← ew10] at hP hD
      refine lv_iconst (v := 1) hx hb dX3_open_53 (by decide) ?_
      cases h
      exact rfI hx hb hr hlocks hP hD hS dX3_open_54
    · have h := ite_t c6 h
      refine lv_bipush (v := (-2)) hx hb dX3_open_28 (by decide) ?_
      cases h
      exact rfI hx hb hr hlocks hP hD hS dX3_open_30
def fX3_sign (N : Nat) (zp : Int64) (zr : Int64) (zh : Int64) (zt : Int32) (zS : Nat → Int64) (q0 : Int32) (q1 : Int32) (q2 : Int64) : Option (Int32 × Int32 × (Nat → Int64)) :=
  (fX3_isSlot q0).bind fun r1 =>
  if (bI r1) = 0 then
    some ((-2), zt, zS)
  else
    (fX0_isKey zr q1).bind fun r4 =>
    if (bI r4) = 0 then
      some ((-2), zt, zS)
    else
      (fX0_turned N zp zh zt q2).bind fun (r7, o8) =>
      (fX0_multiple N zp q1.toInt64 r7).bind fun r10 =>
      if q0 < 0 ∨ 16 ≤ q0.toNatClampNeg then none else
      bnd (vp_updL zS q0.toNatClampNeg r10) fun w13 =>
      some (1, o8, w13)
abbrev rmX3_sign : Room := { frames := 5, cells := 0, slots := 0, locals := 156 }
theorem lkX3_sign_0 : (.fieldLink RX3 33 "PairingDesk" "curve" "LPairingDesk$Curve;" : Cond) ∈ wsX3_sign := by decide +kernel
theorem lkX3_sign_1 : (.fieldLink RX3 9 "PairingDesk" "slots" "[J" : Cond) ∈ wsX3_sign := by decide +kernel
theorem iwX3_sign_3 : ∀ w ∈ wsX30, w ∈ wsX3_sign := by decide +kernel
theorem hdX3_sign : KN yX3_sign 3 := by decide +kernel
set_option maxHeartbeats 4000000 in
set_option maxRecDepth 100000 in
theorem kX3_sign (l : Launch) (D : va_G) (cJ cZ : ClassId) (dk so vo po co fo : Nat) (N : Nat) (zp : Int64) (zr : Int64) (zh : Int64) (zb : Int64) (zt : Int32) (zS : Nat → Int64) (zV : Nat → Int64) (q0 : Int32) (q1 : Int32) (q2 : Int64) (sz : Nat) (rr : Int32) (ozt : Int32) (ozS : Nat → Int64) (h : fX3_sign N zp zr zh zt zS q0 q1 q2 = some (rr, ozt, ozS)) : Met l yX3_sign wsX3_sign rmX3_sign (PE D cJ cZ [.ref dk, .int q0, .int q1, .long q2] [(dk, .inr (3, [.ref so, .ref vo, .ref co, .ref po])), (so, .inl (cJ, 16, .inr (.inl zS))), (vo, .inl (cJ, 8, .inr (.inl zV))), (po, .inr (1, [.ref co, .long zp, .long zr])), (co, .inr (0, [.ref fo, .long zp, .long zr, .long zh, .long zb, .int zt])), (fo, .inr (2, [.long zp]))] sz) (QE D (some (.int rr)) [(dk, .inr (3, [.ref so, .ref vo, .ref co, .ref po])), (so, .inl (cJ, 16, .inr (.inl ozS))), (vo, .inl (cJ, 8, .inr (.inl zV))), (po, .inr (1, [.ref co, .long zp, .long zr])), (co, .inr (0, [.ref fo, .long zp, .long zr, .long zh, .long zb, .int ozt])), (fo, .inr (2, [.long zp]))] (va_A [(dk, .inr (3, [.ref so, .ref vo, .ref co, .ref po])), (so, .inl (cJ, 16, .inr (.inl zS))), (vo, .inl (cJ, 8, .inr (.inl zV))), (po, .inr (1, [.ref co, .long zp, .long zr])), (co, .inr (0, [.ref fo, .long zp, .long zr, .long zh, .long zb, .int zt])), (fo, .inr (2, [.long zp]))] sz)) 0 0 (va_A [(dk, .inr (3, [.ref so, .ref vo, .ref co, .ref po])), (so, .inl (cJ, 16, .inr (.inl zS))), (vo, .inl (cJ, 8, .inr (.inl zV))), (po, .inr (1, [.ref co, .long zp, .long zr])), (co, .inr (0, [.ref fo, .long zp, .long zr, .long zh, .long zb, .int zt])), (fo, .inr (2, [.long zp]))] sz) := by
  refine Met.ofW (cc := cX3_sign) (maxL := 5) (ret := some .int) (by decide) rfl ?_
  intro pg e s m args below meth c s₁ B hml hv
  obtain ⟨rfl, hsz, hP, hE, hD0⟩ := hv
  have hx := B.exec
  have hb := B.bytes
  have hr := B.returns
  have hlocks := B.notSynchronized
  have C0 : CallFix pg m c cX3_sign 5 s ([.ref dk, .int q0, .int q1, .long q2] : List Value).toArray wsX3_sign RX3 := ⟨hx, hb, hml, findClass_of_methodNamed B.named, atoms_spec (ws := wsX3_sign) B.pre⟩
  have hown := C0.2.2.2.1
  have hts := C0.2.2.2.2
  subst hsz
  have hD := hD0.self (sz := s.heap.size)
  generalize hAe : va_A [(dk, .inr (3, [.ref so, .ref vo, .ref co, .ref po])), (so, .inl (cJ, 16, .inr (.inl zS))), (vo, .inl (cJ, 8, .inr (.inl zV))), (po, .inr (1, [.ref co, .long zp, .long zr])), (co, .inr (0, [.ref fo, .long zp, .long zr, .long zh, .long zb, .int zt])), (fo, .inr (2, [.long zp]))] s.heap.size = A at hD ⊢
  have hA : ∀ q : Nat, s.heap.size ≤ q → A q := fun q h => by rw [← hAe]; exact Or.inr h
  have hS : va_S A s.heap s.heap [] := va_S.rf
  have hP : va_P D vwCl [(dk, .inr (3, [.ref so, .ref vo, .ref co, .ref po])), (so, .inl (cJ, 16, .inr (.inl zS))), (vo, .inl (cJ, 8, .inr (.inl zV))), (po, .inr (1, [.ref co, .long zp, .long zr])), (co, .inr (0, [.ref fo, .long zp, .long zr, .long zh, .long zb, .int zt])), (fo, .inr (2, [.long zp]))] s.heap := hP
  have hl := lv_entry ([.ref dk, .int q0, .int q1, .long q2]) (n := 5) (Nat.le_of_ble_eq_true rfl)
  rw [lg_entry_eq]
  generalize (lg_sl ([.ref dk, .int q0, .int q1, .long q2]) ++ List.replicate (5 - (lg_sl ([.ref dk, .int q0, .int q1, .long q2])).length) Slot.unset).toArray = ls at hl ⊢
  have hl : lv_has ls 5 [(0, .ref dk), (1, .int q0), (2, .int q1), (3, .long q2)] := hl
  suffices key : ∀ (H : Heap) (locs : List Loc), va_P D vwCl [(dk, .inr (3, [.ref so, .ref vo, .ref co, .ref po])), (so, .inl (cJ, 16, .inr (.inl zS))), (vo, .inl (cJ, 8, .inr (.inl zV))), (po, .inr (1, [.ref co, .long zp, .long zr])), (co, .inr (0, [.ref fo, .long zp, .long zr, .long zh, .long zb, .int zt])), (fo, .inr (2, [.long zp]))] H → va_D A [(dk, .inr (3, [.ref so, .ref vo, .ref co, .ref po])), (so, .inl (cJ, 16, .inr (.inl zS))), (vo, .inl (cJ, 8, .inr (.inl zV))), (po, .inr (1, [.ref co, .long zp, .long zr])), (co, .inr (0, [.ref fo, .long zp, .long zr, .long zh, .long zb, .int zt])), (fo, .inr (2, [.long zp]))] → va_S A s.heap H locs → W pg l e (headSpec wsX3_sign rmX3_sign).room s m ([.ref dk, .int q0, .int q1, .long q2] : List Value).toArray below meth c H locs 0 0 (MQ below (QE D (some (.int rr)) [(dk, .inr (3, [.ref so, .ref vo, .ref co, .ref po])), (so, .inl (cJ, 16, .inr (.inl ozS))), (vo, .inl (cJ, 8, .inr (.inl zV))), (po, .inr (1, [.ref co, .long zp, .long zr])), (co, .inr (0, [.ref fo, .long zp, .long zr, .long zh, .long zb, .int ozt])), (fo, .inr (2, [.long zp]))] A) ([.ref dk, .int q0, .int q1, .long q2] : List Value).toArray s 0 0 A) (F0 m 0 ls []) from key s.heap [] hP hD hS
  intro H locs hP hD hS
  unfold fX3_sign at h
  refine lv_aload_n hx hb dX3_sign_0 rfl (lv_at hl 0 rfl) ?_
  refine va_get (D := D) (ci := 3) (v := .ref co) (C := RX3) (T := TX3) (N := 4) hx hb hts iwX3_sign_3 hown hE.1 hP 0 rfl rfl 2 (by decide) (hts _ lkX3_sign_0) (fun _ h9 => h9) rfl dX3_sign_1 ?_
  refine lv_ifnonnull (tgt := 10) hx hb dX3_sign_4 (by decide) ?_
  refine lv_iload_n hx hb dX3_sign_10 rfl (lv_at hl 1 rfl) ?_
  obtain ⟨r1, h2, h⟩ := bind_s h
  refine ki (kS (As := [.int q0]) (rest := []) C0 (kX3_isSlot l D cJ cZ q0 r1 h2) gX3_sign_X3_isSlot rfl ⟨rfl, rfl⟩ hdX3_isSlot ⟨Nat.le_of_ble_eq_true rfl, Nat.le_of_ble_eq_true rfl⟩ (hP.sub [] rfl) hE hl rfl rfl (Nat.le_of_ble_eq_true rfl) dX3_sign_11 (Nat.zero_le _) (Nat.zero_le _)) ?_
  refine lv_if_eq (tgt := 28) hx hb dX3_sign_14 (by decide) (fun c3 => ?_) (fun c3 => ?_)
  · have h := ite_t c3 h
    refine lv_bipush (v := (-2)) hx hb dX3_sign_28 (by decide) ?_
    cases h
    exact rfI hx hb hr hlocks hP hD hS dX3_sign_30
  · have h := ite_f c3 h
    refine lv_aload_n hx hb dX3_sign_17 rfl (lv_at hl 0 rfl) ?_
    refine va_get (D := D) (ci := 3) (v := .ref co) (C := RX3) (T := TX3) (N := 4) hx hb hts iwX3_sign_3 hown hE.1 hP 0 rfl rfl 2 (by decide) (hts _ lkX3_sign_0) (fun _ h9 => h9) rfl dX3_sign_18 ?_
    refine lv_iload_n hx hb dX3_sign_21 rfl (lv_at hl 2 rfl) ?_
    obtain ⟨r4, h5, h⟩ := bind_s h
    refine ki (kV (As := [.int q1]) (rest := []) C0 (kX0_isKey l D cJ cZ co fo zp zr zh zb zt q1 r4 h5) gX3_sign_X0_isKey rfl ⟨rfl, rfl⟩ hdX0_isKey ⟨Nat.le_of_ble_eq_true rfl, Nat.le_of_ble_eq_true rfl⟩ 0 0 rfl rfl rfl (hP.sub [4, 5] rfl) hE hl rfl rfl (Nat.le_of_ble_eq_true rfl) dX3_sign_22 (Nat.zero_le _) (Nat.zero_le _)) ?_
    refine lv_if_ne (tgt := 31) hx hb dX3_sign_25 (by decide) (fun c6 => ?_) (fun c6 => ?_)
    · have h := ite_f c6 h
      refine lv_aload_n hx hb dX3_sign_31 rfl (lv_at hl 0 rfl) ?_
      refine va_get (D := D) (ci := 3) (v := .ref so) (C := RX3) (T := TX3) (N := 4) hx hb hts iwX3_sign_3 hown hE.1 hP 0 rfl rfl 0 (by decide) (hts _ lkX3_sign_1) (fun _ h9 => h9) rfl dX3_sign_32 ?_
      refine lv_iload_n hx hb dX3_sign_35 rfl (lv_at hl 1 rfl) ?_
      refine lv_aload_n hx hb dX3_sign_36 rfl (lv_at hl 0 rfl) ?_
      refine va_get (D := D) (ci := 3) (v := .ref co) (C := RX3) (T := TX3) (N := 4) hx hb hts iwX3_sign_3 hown hE.1 hP 0 rfl rfl 2 (by decide) (hts _ lkX3_sign_0) (fun _ h9 => h9) rfl dX3_sign_37 ?_
      refine lv_iload_n hx hb dX3_sign_40 rfl (lv_at hl 2 rfl) ?_
      refine lv_i2l (v := q1.toInt64) hx hb dX3_sign_41 rfl ?_
      refine lv_aload_n hx hb dX3_sign_42 rfl (lv_at hl 0 rfl) ?_
      refine va_get (D := D) (ci := 3) (v := .ref co) (C := RX3) (T := TX3) (N := 4) hx hb hts iwX3_sign_3 hown hE.1 hP 0 rfl rfl 2 (by decide) (hts _ lkX3_sign_0) (fun _ h9 => h9) rfl dX3_sign_43 ?_
      refine lv_lload_n hx hb dX3_sign_46 rfl (lv_at hl 3 rfl) ?_
      obtain ⟨⟨r7, o8⟩, h9, h⟩ := bind_s h
      try dsimp only at h
      refine kE (wc := [(co, .inr (0, [.ref fo, .long zp, .long zr, .long zh, .long zb, .int zt])), (fo, .inr (2, [.long zp]))]) (wr := [(dk, .inr (3, [.ref so, .ref vo, .ref co, .ref po])), (so, .inl (cJ, 16, .inr (.inl zS))), (vo, .inl (cJ, 8, .inr (.inl zV))), (po, .inr (1, [.ref co, .long zp, .long zr]))]) [4, 5] [0, 1, 2, 3] hP hD hS hA rfl rfl rfl (by decide) rfl (eV (As := [.long q2]) (rest := [.long q1.toInt64, .ref co, .int q0, .ref so]) C0 (kX0_turned l D cJ cZ co fo N zp zr zh zb zt q2 H.size r7 o8 h9) gX3_sign_X0_turned rfl ⟨rfl, rfl⟩ hdX0_turned ⟨Nat.le_of_ble_eq_true rfl, Nat.le_of_ble_eq_true rfl⟩ 0 0 rfl rfl rfl (hP.sub [4, 5] rfl) (hD.sub [4, 5] rfl rfl) hE hl rfl rfl (Nat.le_of_ble_eq_true rfl) dX3_sign_47 ⟨Nat.zero_le _, Nat.zero_le _⟩) (fun H locs hP hD hS => ?_)
      have hP : va_P D vwCl [(dk, .inr (3, [.ref so, .ref vo, .ref co, .ref po])), (so, .inl (cJ, 16, .inr (.inl zS))), (vo, .inl (cJ, 8, .inr (.inl zV))), (po, .inr (1, [.ref co, .long zp, .long zr])), (co, .inr (0, [.ref fo, .long zp, .long zr, .long zh, .long zb, .int o8])), (fo, .inr (2, [.long zp]))] H := hP.sub [0, 1, 2, 3, 4, 5] rfl
      have hD : va_D A [(dk, .inr (3, [.ref so, .ref vo, .ref co, .ref po])), (so, .inl (cJ, 16, .inr (.inl zS))), (vo, .inl (cJ, 8, .inr (.inl zV))), (po, .inr (1, [.ref co, .long zp, .long zr])), (co, .inr (0, [.ref fo, .long zp, .long zr, .long zh, .long zb, .int o8])), (fo, .inr (2, [.long zp]))] := hD.sub [0, 1, 2, 3, 4, 5] rfl rfl
      obtain ⟨r10, h11, h⟩ := bind_s h
      refine kl (kV (As := [.long q1.toInt64, .long r7]) (rest := [.int q0, .ref so]) C0 (kX0_multiple l D cJ cZ co fo N zp zr zh zb o8 q1.toInt64 r7 r10 h11) gX3_sign_X0_multiple rfl ⟨rfl, rfl⟩ hdX0_multiple ⟨Nat.le_of_ble_eq_true rfl, Nat.le_of_ble_eq_true rfl⟩ 0 0 rfl rfl rfl (hP.sub [4, 5] rfl) hE hl rfl rfl (Nat.le_of_ble_eq_true rfl) dX3_sign_50 (Nat.zero_le _) (Nat.zero_le _)) ?_
      obtain ⟨c12, h⟩ := ite_n h
      refine va_last hx hb hE.1 hP hD hS 1 0 rfl rfl c12 dX3_sign_53 (fun H locs hP hD hS => ?_)
      have hP : va_P D vwCl [(dk, .inr (3, [.ref so, .ref vo, .ref co, .ref po])), (so, .inl (cJ, 16, .inr (.inl (vp_updL zS q0.toNatClampNeg r10)))), (vo, .inl (cJ, 8, .inr (.inl zV))), (po, .inr (1, [.ref co, .long zp, .long zr])), (co, .inr (0, [.ref fo, .long zp, .long zr, .long zh, .long zb, .int o8])), (fo, .inr (2, [.long zp]))] H := hP
      have hD : va_D A [(dk, .inr (3, [.ref so, .ref vo, .ref co, .ref po])), (so, .inl (cJ, 16, .inr (.inl (vp_updL zS q0.toNatClampNeg r10)))), (vo, .inl (cJ, 8, .inr (.inl zV))), (po, .inr (1, [.ref co, .long zp, .long zr])), (co, .inr (0, [.ref fo, .long zp, .long zr, .long zh, .long zb, .int o8])), (fo, .inr (2, [.long zp]))] := hD
      obtain ⟨w13, ew13, h⟩ := bnd_s h
      rw [← ew13] at hP hD
      refine lv_iconst (v := 1) hx hb dX3_sign_54 (by decide) ?_
      cases h
      exact rfI hx hb hr hlocks hP hD hS dX3_sign_55
    · have h := ite_t c6 h
      refine lv_bipush (v := (-2)) hx hb dX3_sign_28 (by decide) ?_
      cases h
      exact rfI hx hb hr hlocks hP hD hS dX3_sign_30
def fX3_holds (N : Nat) (zp : Int64) (zr : Int64) (zh : Int64) (zb : Int64) (zt : Int32) (zS : Nat → Int64) (q0 : Int32) (q1 : Int64) (q2 : Int32) : Option (Int32 × Int32) :=
  (fX3_isSlot q0).bind fun r1 =>
  if (bI r1) = 0 then
    some ((-2), zt)
  else
    (fX3_isSlot q2).bind fun r4 =>
    if (bI r4) = 0 then
      some ((-2), zt)
    else
      if q2 < 0 ∨ 16 ≤ q2.toNatClampNeg then none else
      (fX1_agree N zp zr zh zb zt zS (zS q2.toNatClampNeg) q0 1 q1).bind fun (r8, o9) =>
      if (bI r8) = 0 then
        some (0, o9)
      else
        some (1, o9)
abbrev rmX3_holds : Room := { frames := 7, cells := 0, slots := 0, locals := 203 }
theorem lkX3_holds_0 : (.fieldLink RX3 42 "PairingDesk" "pairing" "LPairingDesk$Pairing;" : Cond) ∈ wsX3_holds := by decide +kernel
theorem lkX3_holds_1 : (.fieldLink RX3 9 "PairingDesk" "slots" "[J" : Cond) ∈ wsX3_holds := by decide +kernel
theorem iwX3_holds_3 : ∀ w ∈ wsX30, w ∈ wsX3_holds := by decide +kernel
theorem hdX3_holds : KN yX3_holds 3 := by decide +kernel
set_option maxHeartbeats 4000000 in
set_option maxRecDepth 100000 in
theorem kX3_holds (l : Launch) (D : va_G) (cJ cZ : ClassId) (dk so vo po co fo : Nat) (N : Nat) (zp : Int64) (zr : Int64) (zh : Int64) (zb : Int64) (zt : Int32) (zS : Nat → Int64) (zV : Nat → Int64) (q0 : Int32) (q1 : Int64) (q2 : Int32) (sz : Nat) (rr : Int32) (ozt : Int32) (h : fX3_holds N zp zr zh zb zt zS q0 q1 q2 = some (rr, ozt)) : Met l yX3_holds wsX3_holds rmX3_holds (PE D cJ cZ [.ref dk, .int q0, .long q1, .int q2] [(dk, .inr (3, [.ref so, .ref vo, .ref co, .ref po])), (so, .inl (cJ, 16, .inr (.inl zS))), (vo, .inl (cJ, 8, .inr (.inl zV))), (po, .inr (1, [.ref co, .long zp, .long zr])), (co, .inr (0, [.ref fo, .long zp, .long zr, .long zh, .long zb, .int zt])), (fo, .inr (2, [.long zp]))] sz) (QE D (some (.int rr)) [(dk, .inr (3, [.ref so, .ref vo, .ref co, .ref po])), (so, .inl (cJ, 16, .inr (.inl zS))), (vo, .inl (cJ, 8, .inr (.inl zV))), (po, .inr (1, [.ref co, .long zp, .long zr])), (co, .inr (0, [.ref fo, .long zp, .long zr, .long zh, .long zb, .int ozt])), (fo, .inr (2, [.long zp]))] (va_A [(dk, .inr (3, [.ref so, .ref vo, .ref co, .ref po])), (so, .inl (cJ, 16, .inr (.inl zS))), (vo, .inl (cJ, 8, .inr (.inl zV))), (po, .inr (1, [.ref co, .long zp, .long zr])), (co, .inr (0, [.ref fo, .long zp, .long zr, .long zh, .long zb, .int zt])), (fo, .inr (2, [.long zp]))] sz)) 0 0 (va_A [(dk, .inr (3, [.ref so, .ref vo, .ref co, .ref po])), (so, .inl (cJ, 16, .inr (.inl zS))), (vo, .inl (cJ, 8, .inr (.inl zV))), (po, .inr (1, [.ref co, .long zp, .long zr])), (co, .inr (0, [.ref fo, .long zp, .long zr, .long zh, .long zb, .int zt])), (fo, .inr (2, [.long zp]))] sz) := by
  refine Met.ofW (cc := cX3_holds) (maxL := 5) (ret := some .int) (by decide) rfl ?_
  intro pg e s m args below meth c s₁ B hml hv
  obtain ⟨rfl, hsz, hP, hE, hD0⟩ := hv
  have hx := B.exec
  have hb := B.bytes
  have hr := B.returns
  have hlocks := B.notSynchronized
  have C0 : CallFix pg m c cX3_holds 5 s ([.ref dk, .int q0, .long q1, .int q2] : List Value).toArray wsX3_holds RX3 := ⟨hx, hb, hml, findClass_of_methodNamed B.named, atoms_spec (ws := wsX3_holds) B.pre⟩
  have hown := C0.2.2.2.1
  have hts := C0.2.2.2.2
  subst hsz
  have hD := hD0.self (sz := s.heap.size)
  generalize hAe : va_A [(dk, .inr (3, [.ref so, .ref vo, .ref co, .ref po])), (so, .inl (cJ, 16, .inr (.inl zS))), (vo, .inl (cJ, 8, .inr (.inl zV))), (po, .inr (1, [.ref co, .long zp, .long zr])), (co, .inr (0, [.ref fo, .long zp, .long zr, .long zh, .long zb, .int zt])), (fo, .inr (2, [.long zp]))] s.heap.size = A at hD ⊢
  have hA : ∀ q : Nat, s.heap.size ≤ q → A q := fun q h => by rw [← hAe]; exact Or.inr h
  have hS : va_S A s.heap s.heap [] := va_S.rf
  have hP : va_P D vwCl [(dk, .inr (3, [.ref so, .ref vo, .ref co, .ref po])), (so, .inl (cJ, 16, .inr (.inl zS))), (vo, .inl (cJ, 8, .inr (.inl zV))), (po, .inr (1, [.ref co, .long zp, .long zr])), (co, .inr (0, [.ref fo, .long zp, .long zr, .long zh, .long zb, .int zt])), (fo, .inr (2, [.long zp]))] s.heap := hP
  have hl := lv_entry ([.ref dk, .int q0, .long q1, .int q2]) (n := 5) (Nat.le_of_ble_eq_true rfl)
  rw [lg_entry_eq]
  generalize (lg_sl ([.ref dk, .int q0, .long q1, .int q2]) ++ List.replicate (5 - (lg_sl ([.ref dk, .int q0, .long q1, .int q2])).length) Slot.unset).toArray = ls at hl ⊢
  have hl : lv_has ls 5 [(0, .ref dk), (1, .int q0), (2, .long q1), (4, .int q2)] := hl
  suffices key : ∀ (H : Heap) (locs : List Loc), va_P D vwCl [(dk, .inr (3, [.ref so, .ref vo, .ref co, .ref po])), (so, .inl (cJ, 16, .inr (.inl zS))), (vo, .inl (cJ, 8, .inr (.inl zV))), (po, .inr (1, [.ref co, .long zp, .long zr])), (co, .inr (0, [.ref fo, .long zp, .long zr, .long zh, .long zb, .int zt])), (fo, .inr (2, [.long zp]))] H → va_D A [(dk, .inr (3, [.ref so, .ref vo, .ref co, .ref po])), (so, .inl (cJ, 16, .inr (.inl zS))), (vo, .inl (cJ, 8, .inr (.inl zV))), (po, .inr (1, [.ref co, .long zp, .long zr])), (co, .inr (0, [.ref fo, .long zp, .long zr, .long zh, .long zb, .int zt])), (fo, .inr (2, [.long zp]))] → va_S A s.heap H locs → W pg l e (headSpec wsX3_holds rmX3_holds).room s m ([.ref dk, .int q0, .long q1, .int q2] : List Value).toArray below meth c H locs 0 0 (MQ below (QE D (some (.int rr)) [(dk, .inr (3, [.ref so, .ref vo, .ref co, .ref po])), (so, .inl (cJ, 16, .inr (.inl zS))), (vo, .inl (cJ, 8, .inr (.inl zV))), (po, .inr (1, [.ref co, .long zp, .long zr])), (co, .inr (0, [.ref fo, .long zp, .long zr, .long zh, .long zb, .int ozt])), (fo, .inr (2, [.long zp]))] A) ([.ref dk, .int q0, .long q1, .int q2] : List Value).toArray s 0 0 A) (F0 m 0 ls []) from key s.heap [] hP hD hS
  intro H locs hP hD hS
  unfold fX3_holds at h
  refine lv_aload_n hx hb dX3_holds_0 rfl (lv_at hl 0 rfl) ?_
  refine va_get (D := D) (ci := 3) (v := .ref po) (C := RX3) (T := TX3) (N := 4) hx hb hts iwX3_holds_3 hown hE.1 hP 0 rfl rfl 3 (by decide) (hts _ lkX3_holds_0) (fun _ h9 => h9) rfl dX3_holds_1 ?_
  refine lv_ifnonnull (tgt := 10) hx hb dX3_holds_4 (by decide) ?_
  refine lv_iload_n hx hb dX3_holds_10 rfl (lv_at hl 1 rfl) ?_
  obtain ⟨r1, h2, h⟩ := bind_s h
  refine ki (kS (As := [.int q0]) (rest := []) C0 (kX3_isSlot l D cJ cZ q0 r1 h2) gX3_holds_X3_isSlot rfl ⟨rfl, rfl⟩ hdX3_isSlot ⟨Nat.le_of_ble_eq_true rfl, Nat.le_of_ble_eq_true rfl⟩ (hP.sub [] rfl) hE hl rfl rfl (Nat.le_of_ble_eq_true rfl) dX3_holds_11 (Nat.zero_le _) (Nat.zero_le _)) ?_
  refine lv_if_eq (tgt := 25) hx hb dX3_holds_14 (by decide) (fun c3 => ?_) (fun c3 => ?_)
  · have h := ite_t c3 h
    refine lv_bipush (v := (-2)) hx hb dX3_holds_25 (by decide) ?_
    cases h
    exact rfI hx hb hr hlocks hP hD hS dX3_holds_27
  · have h := ite_f c3 h
    refine lv_iload hx hb dX3_holds_17 (lv_at hl 3 rfl) ?_
    obtain ⟨r4, h5, h⟩ := bind_s h
    refine ki (kS (As := [.int q2]) (rest := []) C0 (kX3_isSlot l D cJ cZ q2 r4 h5) gX3_holds_X3_isSlot rfl ⟨rfl, rfl⟩ hdX3_isSlot ⟨Nat.le_of_ble_eq_true rfl, Nat.le_of_ble_eq_true rfl⟩ (hP.sub [] rfl) hE hl rfl rfl (Nat.le_of_ble_eq_true rfl) dX3_holds_19 (Nat.zero_le _) (Nat.zero_le _)) ?_
    refine lv_if_ne (tgt := 28) hx hb dX3_holds_22 (by decide) (fun c6 => ?_) (fun c6 => ?_)
    · have h := ite_f c6 h
      refine lv_aload_n hx hb dX3_holds_28 rfl (lv_at hl 0 rfl) ?_
      refine va_get (D := D) (ci := 3) (v := .ref po) (C := RX3) (T := TX3) (N := 4) hx hb hts iwX3_holds_3 hown hE.1 hP 0 rfl rfl 3 (by decide) (hts _ lkX3_holds_0) (fun _ h9 => h9) rfl dX3_holds_29 ?_
      refine lv_aload_n hx hb dX3_holds_32 rfl (lv_at hl 0 rfl) ?_
      refine va_get (D := D) (ci := 3) (v := .ref so) (C := RX3) (T := TX3) (N := 4) hx hb hts iwX3_holds_3 hown hE.1 hP 0 rfl rfl 0 (by decide) (hts _ lkX3_holds_1) (fun _ h9 => h9) rfl dX3_holds_33 ?_
      refine lv_iload hx hb dX3_holds_36 (lv_at hl 3 rfl) ?_
      obtain ⟨c7, h⟩ := ite_n h
      refine va_lald hx hb hE.1 hP 1 0 rfl rfl c7 dX3_holds_38 ?_
      refine lv_aload_n hx hb dX3_holds_39 rfl (lv_at hl 0 rfl) ?_
      refine va_get (D := D) (ci := 3) (v := .ref so) (C := RX3) (T := TX3) (N := 4) hx hb hts iwX3_holds_3 hown hE.1 hP 0 rfl rfl 0 (by decide) (hts _ lkX3_holds_1) (fun _ h9 => h9) rfl dX3_holds_40 ?_
      refine lv_iload_n hx hb dX3_holds_43 rfl (lv_at hl 1 rfl) ?_
      refine lv_iconst (v := 1) hx hb dX3_holds_44 (by decide) ?_
      refine lv_lload_n hx hb dX3_holds_45 rfl (lv_at hl 2 rfl) ?_
      obtain ⟨⟨r8, o9⟩, h10, h⟩ := bind_s h
      try dsimp only at h
      refine kE (wc := [(po, .inr (1, [.ref co, .long zp, .long zr])), (co, .inr (0, [.ref fo, .long zp, .long zr, .long zh, .long zb, .int zt])), (fo, .inr (2, [.long zp])), (so, .inl (cJ, 16, .inr (.inl zS)))]) (wr := [(dk, .inr (3, [.ref so, .ref vo, .ref co, .ref po])), (vo, .inl (cJ, 8, .inr (.inl zV)))]) [3, 4, 5, 1] [0, 2] hP hD hS hA rfl rfl rfl (by decide) rfl (eV (As := [.long (zS q2.toNatClampNeg), .ref so, .int q0, .int 1, .long q1]) (rest := []) C0 (kX1_agree l D cJ cZ po co fo so N zp zr zh zb zt zS (zS q2.toNatClampNeg) q0 1 q1 H.size r8 o9 h10) gX3_holds_X1_agree rfl ⟨rfl, rfl⟩ hdX1_agree ⟨Nat.le_of_ble_eq_true rfl, Nat.le_of_ble_eq_true rfl⟩ 1 0 rfl rfl rfl (hP.sub [3, 4, 5, 1] rfl) (hD.sub [3, 4, 5, 1] rfl rfl) hE hl rfl rfl (Nat.le_of_ble_eq_true rfl) dX3_holds_46 ⟨Nat.zero_le _, Nat.zero_le _⟩) (fun H locs hP hD hS => ?_)
      have hP : va_P D vwCl [(dk, .inr (3, [.ref so, .ref vo, .ref co, .ref po])), (so, .inl (cJ, 16, .inr (.inl zS))), (vo, .inl (cJ, 8, .inr (.inl zV))), (po, .inr (1, [.ref co, .long zp, .long zr])), (co, .inr (0, [.ref fo, .long zp, .long zr, .long zh, .long zb, .int o9])), (fo, .inr (2, [.long zp]))] H := hP.sub [0, 5, 1, 2, 3, 4] rfl
      have hD : va_D A [(dk, .inr (3, [.ref so, .ref vo, .ref co, .ref po])), (so, .inl (cJ, 16, .inr (.inl zS))), (vo, .inl (cJ, 8, .inr (.inl zV))), (po, .inr (1, [.ref co, .long zp, .long zr])), (co, .inr (0, [.ref fo, .long zp, .long zr, .long zh, .long zb, .int o9])), (fo, .inr (2, [.long zp]))] := hD.sub [0, 5, 1, 2, 3, 4] rfl rfl
      refine lv_if_eq (tgt := 56) hx hb dX3_holds_49 (by decide) (fun c11 => ?_) (fun c11 => ?_)
      · have h := ite_t c11 h
        refine lv_iconst (v := 0) hx hb dX3_holds_56 (by decide) ?_
        cases h
        exact rfI hx hb hr hlocks hP hD hS dX3_holds_57
      · have h := ite_f c11 h
        refine lv_iconst (v := 1) hx hb dX3_holds_52 (by decide) ?_
        refine lv_goto (tgt := 57) hx hb dX3_holds_53 (by decide) ?_
        cases h
        exact rfI hx hb hr hlocks hP hD hS dX3_holds_57
    · have h := ite_t c6 h
      refine lv_bipush (v := (-2)) hx hb dX3_holds_25 (by decide) ?_
      cases h
      exact rfI hx hb hr hlocks hP hD hS dX3_holds_27
def fX3_holdsAll (N : Nat) (zp : Int64) (zr : Int64) (zh : Int64) (zb : Int64) (zt : Int32) (zS : Nat → Int64) (q0 : Int32) (q1 : Int32) (q2 : Int64) (q3 : Int32) : Option (Int32 × Int32) :=
  (fX3_isSlot q0).bind fun r1 =>
  if (bI r1) = 0 then
    some ((-2), zt)
  else
    if q1 < 1 then
      some ((-2), zt)
    else
      if 8 < q1 then
        some ((-2), zt)
      else
        if 16 < (q0 + q1) then
          some ((-2), zt)
        else
          (fX3_isSlot q3).bind fun r7 =>
          if (bI r7) = 0 then
            some ((-2), zt)
          else
            if q3 < 0 ∨ 16 ≤ q3.toNatClampNeg then none else
            (fX1_agree N zp zr zh zb zt zS (zS q3.toNatClampNeg) q0 q1 q2).bind fun (r11, o12) =>
            if (bI r11) = 0 then
              some (0, o12)
            else
              some (1, o12)
abbrev rmX3_holdsAll : Room := { frames := 7, cells := 0, slots := 0, locals := 203 }
theorem lkX3_holdsAll_0 : (.fieldLink RX3 42 "PairingDesk" "pairing" "LPairingDesk$Pairing;" : Cond) ∈ wsX3_holdsAll := by decide +kernel
theorem lkX3_holdsAll_1 : (.fieldLink RX3 9 "PairingDesk" "slots" "[J" : Cond) ∈ wsX3_holdsAll := by decide +kernel
theorem iwX3_holdsAll_3 : ∀ w ∈ wsX30, w ∈ wsX3_holdsAll := by decide +kernel
theorem hdX3_holdsAll : KN yX3_holdsAll 4 := by decide +kernel
set_option maxHeartbeats 4000000 in
set_option maxRecDepth 100000 in
theorem kX3_holdsAll (l : Launch) (D : va_G) (cJ cZ : ClassId) (dk so vo po co fo : Nat) (N : Nat) (zp : Int64) (zr : Int64) (zh : Int64) (zb : Int64) (zt : Int32) (zS : Nat → Int64) (zV : Nat → Int64) (q0 : Int32) (q1 : Int32) (q2 : Int64) (q3 : Int32) (sz : Nat) (rr : Int32) (ozt : Int32) (h : fX3_holdsAll N zp zr zh zb zt zS q0 q1 q2 q3 = some (rr, ozt)) : Met l yX3_holdsAll wsX3_holdsAll rmX3_holdsAll (PE D cJ cZ [.ref dk, .int q0, .int q1, .long q2, .int q3] [(dk, .inr (3, [.ref so, .ref vo, .ref co, .ref po])), (so, .inl (cJ, 16, .inr (.inl zS))), (vo, .inl (cJ, 8, .inr (.inl zV))), (po, .inr (1, [.ref co, .long zp, .long zr])), (co, .inr (0, [.ref fo, .long zp, .long zr, .long zh, .long zb, .int zt])), (fo, .inr (2, [.long zp]))] sz) (QE D (some (.int rr)) [(dk, .inr (3, [.ref so, .ref vo, .ref co, .ref po])), (so, .inl (cJ, 16, .inr (.inl zS))), (vo, .inl (cJ, 8, .inr (.inl zV))), (po, .inr (1, [.ref co, .long zp, .long zr])), (co, .inr (0, [.ref fo, .long zp, .long zr, .long zh, .long zb, .int ozt])), (fo, .inr (2, [.long zp]))] (va_A [(dk, .inr (3, [.ref so, .ref vo, .ref co, .ref po])), (so, .inl (cJ, 16, .inr (.inl zS))), (vo, .inl (cJ, 8, .inr (.inl zV))), (po, .inr (1, [.ref co, .long zp, .long zr])), (co, .inr (0, [.ref fo, .long zp, .long zr, .long zh, .long zb, .int zt])), (fo, .inr (2, [.long zp]))] sz)) 0 0 (va_A [(dk, .inr (3, [.ref so, .ref vo, .ref co, .ref po])), (so, .inl (cJ, 16, .inr (.inl zS))), (vo, .inl (cJ, 8, .inr (.inl zV))), (po, .inr (1, [.ref co, .long zp, .long zr])), (co, .inr (0, [.ref fo, .long zp, .long zr, .long zh, .long zb, .int zt])), (fo, .inr (2, [.long zp]))] sz) := by
  refine Met.ofW (cc := cX3_holdsAll) (maxL := 6) (ret := some .int) (by decide) rfl ?_
  intro pg e s m args below meth c s₁ B hml hv
  obtain ⟨rfl, hsz, hP, hE, hD0⟩ := hv
  have hx := B.exec
  have hb := B.bytes
  have hr := B.returns
  have hlocks := B.notSynchronized
  have C0 : CallFix pg m c cX3_holdsAll 6 s ([.ref dk, .int q0, .int q1, .long q2, .int q3] : List Value).toArray wsX3_holdsAll RX3 := ⟨hx, hb, hml, findClass_of_methodNamed B.named, atoms_spec (ws := wsX3_holdsAll) B.pre⟩
  have hown := C0.2.2.2.1
  have hts := C0.2.2.2.2
  subst hsz
  have hD := hD0.self (sz := s.heap.size)
  generalize hAe : va_A [(dk, .inr (3, [.ref so, .ref vo, .ref co, .ref po])), (so, .inl (cJ, 16, .inr (.inl zS))), (vo, .inl (cJ, 8, .inr (.inl zV))), (po, .inr (1, [.ref co, .long zp, .long zr])), (co, .inr (0, [.ref fo, .long zp, .long zr, .long zh, .long zb, .int zt])), (fo, .inr (2, [.long zp]))] s.heap.size = A at hD ⊢
  have hA : ∀ q : Nat, s.heap.size ≤ q → A q := fun q h => by rw [← hAe]; exact Or.inr h
  have hS : va_S A s.heap s.heap [] := va_S.rf
  have hP : va_P D vwCl [(dk, .inr (3, [.ref so, .ref vo, .ref co, .ref po])), (so, .inl (cJ, 16, .inr (.inl zS))), (vo, .inl (cJ, 8, .inr (.inl zV))), (po, .inr (1, [.ref co, .long zp, .long zr])), (co, .inr (0, [.ref fo, .long zp, .long zr, .long zh, .long zb, .int zt])), (fo, .inr (2, [.long zp]))] s.heap := hP
  have hl := lv_entry ([.ref dk, .int q0, .int q1, .long q2, .int q3]) (n := 6) (Nat.le_of_ble_eq_true rfl)
  rw [lg_entry_eq]
  generalize (lg_sl ([.ref dk, .int q0, .int q1, .long q2, .int q3]) ++ List.replicate (6 - (lg_sl ([.ref dk, .int q0, .int q1, .long q2, .int q3])).length) Slot.unset).toArray = ls at hl ⊢
  have hl : lv_has ls 6 [(0, .ref dk), (1, .int q0), (2, .int q1), (3, .long q2), (5, .int q3)] := hl
  suffices key : ∀ (H : Heap) (locs : List Loc), va_P D vwCl [(dk, .inr (3, [.ref so, .ref vo, .ref co, .ref po])), (so, .inl (cJ, 16, .inr (.inl zS))), (vo, .inl (cJ, 8, .inr (.inl zV))), (po, .inr (1, [.ref co, .long zp, .long zr])), (co, .inr (0, [.ref fo, .long zp, .long zr, .long zh, .long zb, .int zt])), (fo, .inr (2, [.long zp]))] H → va_D A [(dk, .inr (3, [.ref so, .ref vo, .ref co, .ref po])), (so, .inl (cJ, 16, .inr (.inl zS))), (vo, .inl (cJ, 8, .inr (.inl zV))), (po, .inr (1, [.ref co, .long zp, .long zr])), (co, .inr (0, [.ref fo, .long zp, .long zr, .long zh, .long zb, .int zt])), (fo, .inr (2, [.long zp]))] → va_S A s.heap H locs → W pg l e (headSpec wsX3_holdsAll rmX3_holdsAll).room s m ([.ref dk, .int q0, .int q1, .long q2, .int q3] : List Value).toArray below meth c H locs 0 0 (MQ below (QE D (some (.int rr)) [(dk, .inr (3, [.ref so, .ref vo, .ref co, .ref po])), (so, .inl (cJ, 16, .inr (.inl zS))), (vo, .inl (cJ, 8, .inr (.inl zV))), (po, .inr (1, [.ref co, .long zp, .long zr])), (co, .inr (0, [.ref fo, .long zp, .long zr, .long zh, .long zb, .int ozt])), (fo, .inr (2, [.long zp]))] A) ([.ref dk, .int q0, .int q1, .long q2, .int q3] : List Value).toArray s 0 0 A) (F0 m 0 ls []) from key s.heap [] hP hD hS
  intro H locs hP hD hS
  unfold fX3_holdsAll at h
  refine lv_aload_n hx hb dX3_holdsAll_0 rfl (lv_at hl 0 rfl) ?_
  refine va_get (D := D) (ci := 3) (v := .ref po) (C := RX3) (T := TX3) (N := 4) hx hb hts iwX3_holdsAll_3 hown hE.1 hP 0 rfl rfl 3 (by decide) (hts _ lkX3_holdsAll_0) (fun _ h9 => h9) rfl dX3_holdsAll_1 ?_
  refine lv_ifnonnull (tgt := 10) hx hb dX3_holdsAll_4 (by decide) ?_
  refine lv_iload_n hx hb dX3_holdsAll_10 rfl (lv_at hl 1 rfl) ?_
  obtain ⟨r1, h2, h⟩ := bind_s h
  refine ki (kS (As := [.int q0]) (rest := []) C0 (kX3_isSlot l D cJ cZ q0 r1 h2) gX3_holdsAll_X3_isSlot rfl ⟨rfl, rfl⟩ hdX3_isSlot ⟨Nat.le_of_ble_eq_true rfl, Nat.le_of_ble_eq_true rfl⟩ (hP.sub [] rfl) hE hl rfl rfl (Nat.le_of_ble_eq_true rfl) dX3_holdsAll_11 (Nat.zero_le _) (Nat.zero_le _)) ?_
  refine lv_if_eq (tgt := 44) hx hb dX3_holdsAll_14 (by decide) (fun c3 => ?_) (fun c3 => ?_)
  · have h := ite_t c3 h
    refine lv_bipush (v := (-2)) hx hb dX3_holdsAll_44 (by decide) ?_
    cases h
    exact rfI hx hb hr hlocks hP hD hS dX3_holdsAll_46
  · have h := ite_f c3 h
    refine lv_iload_n hx hb dX3_holdsAll_17 rfl (lv_at hl 2 rfl) ?_
    refine lv_iconst (v := 1) hx hb dX3_holdsAll_18 (by decide) ?_
    refine lv_icmp_lt (tgt := 44) hx hb dX3_holdsAll_19 (by decide) (fun c4 => ?_) (fun c4 => ?_)
    · have h := ite_t c4 h
      refine lv_bipush (v := (-2)) hx hb dX3_holdsAll_44 (by decide) ?_
      cases h
      exact rfI hx hb hr hlocks hP hD hS dX3_holdsAll_46
    · have h := ite_f c4 h
      refine lv_iload_n hx hb dX3_holdsAll_22 rfl (lv_at hl 2 rfl) ?_
      refine lv_bipush (v := 8) hx hb dX3_holdsAll_23 (by decide) ?_
      refine lv_icmp_gt (tgt := 44) hx hb dX3_holdsAll_25 (by decide) (fun c5 => ?_) (fun c5 => ?_)
      · have h := ite_t c5 h
        refine lv_bipush (v := (-2)) hx hb dX3_holdsAll_44 (by decide) ?_
        cases h
        exact rfI hx hb hr hlocks hP hD hS dX3_holdsAll_46
      · have h := ite_f c5 h
        refine lv_iload_n hx hb dX3_holdsAll_28 rfl (lv_at hl 1 rfl) ?_
        refine lv_iload_n hx hb dX3_holdsAll_29 rfl (lv_at hl 2 rfl) ?_
        refine lv_iadd hx hb dX3_holdsAll_30 ?_
        refine lv_bipush (v := 16) hx hb dX3_holdsAll_31 (by decide) ?_
        refine lv_icmp_gt (tgt := 44) hx hb dX3_holdsAll_33 (by decide) (fun c6 => ?_) (fun c6 => ?_)
        · have h := ite_t c6 h
          refine lv_bipush (v := (-2)) hx hb dX3_holdsAll_44 (by decide) ?_
          cases h
          exact rfI hx hb hr hlocks hP hD hS dX3_holdsAll_46
        · have h := ite_f c6 h
          refine lv_iload hx hb dX3_holdsAll_36 (lv_at hl 4 rfl) ?_
          obtain ⟨r7, h8, h⟩ := bind_s h
          refine ki (kS (As := [.int q3]) (rest := []) C0 (kX3_isSlot l D cJ cZ q3 r7 h8) gX3_holdsAll_X3_isSlot rfl ⟨rfl, rfl⟩ hdX3_isSlot ⟨Nat.le_of_ble_eq_true rfl, Nat.le_of_ble_eq_true rfl⟩ (hP.sub [] rfl) hE hl rfl rfl (Nat.le_of_ble_eq_true rfl) dX3_holdsAll_38 (Nat.zero_le _) (Nat.zero_le _)) ?_
          refine lv_if_ne (tgt := 47) hx hb dX3_holdsAll_41 (by decide) (fun c9 => ?_) (fun c9 => ?_)
          · have h := ite_f c9 h
            refine lv_aload_n hx hb dX3_holdsAll_47 rfl (lv_at hl 0 rfl) ?_
            refine va_get (D := D) (ci := 3) (v := .ref po) (C := RX3) (T := TX3) (N := 4) hx hb hts iwX3_holdsAll_3 hown hE.1 hP 0 rfl rfl 3 (by decide) (hts _ lkX3_holdsAll_0) (fun _ h9 => h9) rfl dX3_holdsAll_48 ?_
            refine lv_aload_n hx hb dX3_holdsAll_51 rfl (lv_at hl 0 rfl) ?_
            refine va_get (D := D) (ci := 3) (v := .ref so) (C := RX3) (T := TX3) (N := 4) hx hb hts iwX3_holdsAll_3 hown hE.1 hP 0 rfl rfl 0 (by decide) (hts _ lkX3_holdsAll_1) (fun _ h9 => h9) rfl dX3_holdsAll_52 ?_
            refine lv_iload hx hb dX3_holdsAll_55 (lv_at hl 4 rfl) ?_
            obtain ⟨c10, h⟩ := ite_n h
            refine va_lald hx hb hE.1 hP 1 0 rfl rfl c10 dX3_holdsAll_57 ?_
            refine lv_aload_n hx hb dX3_holdsAll_58 rfl (lv_at hl 0 rfl) ?_
            refine va_get (D := D) (ci := 3) (v := .ref so) (C := RX3) (T := TX3) (N := 4) hx hb hts iwX3_holdsAll_3 hown hE.1 hP 0 rfl rfl 0 (by decide) (hts _ lkX3_holdsAll_1) (fun _ h9 => h9) rfl dX3_holdsAll_59 ?_
            refine lv_iload_n hx hb dX3_holdsAll_62 rfl (lv_at hl 1 rfl) ?_
            refine lv_iload_n hx hb dX3_holdsAll_63 rfl (lv_at hl 2 rfl) ?_
            refine lv_lload_n hx hb dX3_holdsAll_64 rfl (lv_at hl 3 rfl) ?_
            obtain ⟨⟨r11, o12⟩, h13, h⟩ := bind_s h
            try dsimp only at h
            refine kE (wc := [(po, .inr (1, [.ref co, .long zp, .long zr])), (co, .inr (0, [.ref fo, .long zp, .long zr, .long zh, .long zb, .int zt])), (fo, .inr (2, [.long zp])), (so, .inl (cJ, 16, .inr (.inl zS)))]) (wr := [(dk, .inr (3, [.ref so, .ref vo, .ref co, .ref po])), (vo, .inl (cJ, 8, .inr (.inl zV)))]) [3, 4, 5, 1] [0, 2] hP hD hS hA rfl rfl rfl (by decide) rfl (eV (As := [.long (zS q3.toNatClampNeg), .ref so, .int q0, .int q1, .long q2]) (rest := []) C0 (kX1_agree l D cJ cZ po co fo so N zp zr zh zb zt zS (zS q3.toNatClampNeg) q0 q1 q2 H.size r11 o12 h13) gX3_holdsAll_X1_agree rfl ⟨rfl, rfl⟩ hdX1_agree ⟨Nat.le_of_ble_eq_true rfl, Nat.le_of_ble_eq_true rfl⟩ 1 0 rfl rfl rfl (hP.sub [3, 4, 5, 1] rfl) (hD.sub [3, 4, 5, 1] rfl rfl) hE hl rfl rfl (Nat.le_of_ble_eq_true rfl) dX3_holdsAll_65 ⟨Nat.zero_le _, Nat.zero_le _⟩) (fun H locs hP hD hS => ?_)
            have hP : va_P D vwCl [(dk, .inr (3, [.ref so, .ref vo, .ref co, .ref po])), (so, .inl (cJ, 16, .inr (.inl zS))), (vo, .inl (cJ, 8, .inr (.inl zV))), (po, .inr (1, [.ref co, .long zp, .long zr])), (co, .inr (0, [.ref fo, .long zp, .long zr, .long zh, .long zb, .int o12])), (fo, .inr (2, [.long zp]))] H := hP.sub [0, 5, 1, 2, 3, 4] rfl
            have hD : va_D A [(dk, .inr (3, [.ref so, .ref vo, .ref co, .ref po])), (so, .inl (cJ, 16, .inr (.inl zS))), (vo, .inl (cJ, 8, .inr (.inl zV))), (po, .inr (1, [.ref co, .long zp, .long zr])), (co, .inr (0, [.ref fo, .long zp, .long zr, .long zh, .long zb, .int o12])), (fo, .inr (2, [.long zp]))] := hD.sub [0, 5, 1, 2, 3, 4] rfl rfl
            refine lv_if_eq (tgt := 75) hx hb dX3_holdsAll_68 (by decide) (fun c14 => ?_) (fun c14 => ?_)
            · have h := ite_t c14 h
              refine lv_iconst (v := 0) hx hb dX3_holdsAll_75 (by decide) ?_
              cases h
              exact rfI hx hb hr hlocks hP hD hS dX3_holdsAll_76
            · have h := ite_f c14 h
              refine lv_iconst (v := 1) hx hb dX3_holdsAll_71 (by decide) ?_
              refine lv_goto (tgt := 76) hx hb dX3_holdsAll_72 (by decide) ?_
              cases h
              exact rfI hx hb hr hlocks hP hD hS dX3_holdsAll_76
          · have h := ite_t c9 h
            refine lv_bipush (v := (-2)) hx hb dX3_holdsAll_44 (by decide) ?_
            cases h
            exact rfI hx hb hr hlocks hP hD hS dX3_holdsAll_46
def fX3_digest_47 (N : Nat) (zS : Nat → Int64) (zV : Nat → Int64) : Nat → Int64 → Int32 → Option (Int64)
  | 0, _, _ => none
  | n + 1, l1, l3 =>
    if 8 ≤ l3 then
      some l1
    else
      if l3 < 0 ∨ 8 ≤ l3.toNatClampNeg then none else
      (fX3_upper (zV l3.toNatClampNeg)).bind fun r4 =>
      bnd ((31 * l1) + r4) fun w6 =>
      (fX3_lower (zV l3.toNatClampNeg)).bind fun r7 =>
      bnd ((31 * w6) + r7) fun w9 =>
      bnd (l3 + 1) fun w10 =>
      fX3_digest_47 N zS zV n w9 w10
def fX3_digest_17 (N : Nat) (zS : Nat → Int64) (zV : Nat → Int64) : Nat → Int64 → Int32 → Option (Int64)
  | 0, _, _ => none
  | n + 1, l1, l3 =>
    if 16 ≤ l3 then
      fX3_digest_47 N zS zV N l1 0
    else
      if l3 < 0 ∨ 16 ≤ l3.toNatClampNeg then none else
      (fX3_written (zS l3.toNatClampNeg)).bind fun r12 =>
      bnd ((31 * l1) + r12) fun w14 =>
      bnd (l3 + 1) fun w15 =>
      fX3_digest_17 N zS zV n w14 w15
def fX3_digest (N : Nat) (zS : Nat → Int64) (zV : Nat → Int64) : Option (Int64) :=
  fX3_digest_17 N zS zV N 17 0
abbrev rmX3_digest : Room := { frames := 2, cells := 0, slots := 0, locals := 42 }
theorem lkX3_digest_0 : (.fieldLink RX3 33 "PairingDesk" "curve" "LPairingDesk$Curve;" : Cond) ∈ wsX3_digest := by decide +kernel
theorem lkX3_digest_1 : (.constantLong RX3 146 (17) : Cond) ∈ wsX3_digest := by decide +kernel
theorem lkX3_digest_2 : (.constantLong RX3 148 (31) : Cond) ∈ wsX3_digest := by decide +kernel
theorem lkX3_digest_3 : (.fieldLink RX3 13 "PairingDesk" "values" "[J" : Cond) ∈ wsX3_digest := by decide +kernel
theorem lkX3_digest_4 : (.fieldLink RX3 9 "PairingDesk" "slots" "[J" : Cond) ∈ wsX3_digest := by decide +kernel
theorem iwX3_digest_3 : ∀ w ∈ wsX30, w ∈ wsX3_digest := by decide +kernel
theorem hdX3_digest : KN yX3_digest 0 := by decide +kernel
set_option maxHeartbeats 4000000 in
set_option maxRecDepth 100000 in
theorem kX3_digest (l : Launch) (D : va_G) (cJ cZ : ClassId) (dk so vo po co fo : Nat) (N : Nat) (zp : Int64) (zr : Int64) (zh : Int64) (zb : Int64) (zt : Int32) (zS : Nat → Int64) (zV : Nat → Int64) (rr : Int64) (h : fX3_digest N zS zV = some rr) : Met l yX3_digest wsX3_digest rmX3_digest (PP D cJ cZ [.ref dk] [(dk, .inr (3, [.ref so, .ref vo, .ref co, .ref po])), (so, .inl (cJ, 16, .inr (.inl zS))), (vo, .inl (cJ, 8, .inr (.inl zV))), (po, .inr (1, [.ref co, .long zp, .long zr])), (co, .inr (0, [.ref fo, .long zp, .long zr, .long zh, .long zb, .int zt])), (fo, .inr (2, [.long zp]))]) (SL rr) 0 0 (fun _ => False) := by
  refine Met.ofW (cc := cX3_digest) (maxL := 4) (ret := some .long) (by decide) rfl ?_
  intro pg e s m args below meth c s₁ B hml hv
  obtain ⟨rfl, hP, hE⟩ := hv
  have hx := B.exec
  have hb := B.bytes
  have hr := B.returns
  have hlocks := B.notSynchronized
  have C0 : CallFix pg m c cX3_digest 4 s ([.ref dk] : List Value).toArray wsX3_digest RX3 := ⟨hx, hb, hml, findClass_of_methodNamed B.named, atoms_spec (ws := wsX3_digest) B.pre⟩
  have hown := C0.2.2.2.1
  have hts := C0.2.2.2.2
  have hl := lv_entry ([.ref dk]) (n := 4) (Nat.le_of_ble_eq_true rfl)
  rw [lg_entry_eq]
  generalize (lg_sl ([.ref dk]) ++ List.replicate (4 - (lg_sl ([.ref dk])).length) Slot.unset).toArray = ls at hl ⊢
  have hl : lv_has ls 4 [(0, .ref dk)] := hl
  have loop47 : ∀ (n : Nat) (l1 : Int64) (l3 : Int32), fX3_digest_47 N zS zV n l1 l3 = some rr → ∀ ls : Array Slot, lv_has ls 4 [(0, .ref dk), (1, .long l1), (3, .int l3)] → W pg l e (headSpec wsX3_digest rmX3_digest).room s m ([.ref dk] : List Value).toArray below meth c s.heap [] 0 0 (MQ below (SL rr) ([.ref dk] : List Value).toArray s 0 0 (fun _ => False)) (F0 m 47 ls []) := by
    intro n
    induction n with
    | zero =>
      intro l1 l3 h
      cases h
    | succ n ih =>
      intro l1 l3 h ls hl
      rw [fX3_digest_47] at h
      refine lv_iload_n hx hb dX3_digest_47 rfl (lv_at hl 2 rfl) ?_
      refine lv_bipush (v := 8) hx hb dX3_digest_48 (by decide) ?_
      refine lv_icmp_ge (tgt := 91) hx hb dX3_digest_50 (by decide) (fun c2 => ?_) (fun c2 => ?_)
      · have h := ite_t c2 h
        refine lv_lload_n hx hb dX3_digest_91 rfl (lv_at hl 1 rfl) ?_
        exact reL hx hb hr hlocks h dX3_digest_92
      · have h := ite_f c2 h
        refine lv_ldc2 (v := 31) hx hb hown (hts _ lkX3_digest_2) dX3_digest_53 ?_
        refine lv_lload_n hx hb dX3_digest_56 rfl (lv_at hl 1 rfl) ?_
        refine lv_lmul hx hb dX3_digest_57 ?_
        refine lv_aload_n hx hb dX3_digest_58 rfl (lv_at hl 0 rfl) ?_
        refine va_get (D := D) (ci := 3) (v := .ref vo) (C := RX3) (T := TX3) (N := 4) hx hb hts iwX3_digest_3 hown hE.1 hP 0 rfl rfl 1 (by decide) (hts _ lkX3_digest_3) (fun _ h9 => h9) rfl dX3_digest_59 ?_
        refine lv_iload_n hx hb dX3_digest_62 rfl (lv_at hl 2 rfl) ?_
        obtain ⟨c3, h⟩ := ite_n h
        refine va_lald hx hb hE.1 hP 2 0 rfl rfl c3 dX3_digest_63 ?_
        obtain ⟨r4, h5, h⟩ := bind_s h
        refine kl (kS (As := [.long (zV l3.toNatClampNeg)]) (rest := [.long (31 * l1)]) C0 (kX3_upper l D cJ cZ (zV l3.toNatClampNeg) r4 h5) gX3_digest_X3_upper rfl ⟨rfl, rfl⟩ hdX3_upper ⟨Nat.le_of_ble_eq_true rfl, Nat.le_of_ble_eq_true rfl⟩ (hP.sub [] rfl) hE hl rfl rfl (Nat.le_of_ble_eq_true rfl) dX3_digest_64 (Nat.zero_le _) (Nat.zero_le _)) ?_
        refine lv_ladd hx hb dX3_digest_67 ?_
        obtain ⟨w6, ew6, h⟩ := bnd_s h
        refine tl ew6.symm ?_
        refine lv_lstore_n (lv' := [(1, .long w6), (0, .ref dk), (3, .int l3)]) hx hb dX3_digest_68 rfl hl (by decide) rfl (fun ls hl => ?_)
        refine lv_ldc2 (v := 31) hx hb hown (hts _ lkX3_digest_2) dX3_digest_69 ?_
        refine lv_lload_n hx hb dX3_digest_72 rfl (lv_at hl 0 rfl) ?_
        refine lv_lmul hx hb dX3_digest_73 ?_
        refine lv_aload_n hx hb dX3_digest_74 rfl (lv_at hl 1 rfl) ?_
        refine va_get (D := D) (ci := 3) (v := .ref vo) (C := RX3) (T := TX3) (N := 4) hx hb hts iwX3_digest_3 hown hE.1 hP 0 rfl rfl 1 (by decide) (hts _ lkX3_digest_3) (fun _ h9 => h9) rfl dX3_digest_75 ?_
        refine lv_iload_n hx hb dX3_digest_78 rfl (lv_at hl 2 rfl) ?_
        refine va_lald hx hb hE.1 hP 2 0 rfl rfl c3 dX3_digest_79 ?_
        obtain ⟨r7, h8, h⟩ := bind_s h
        refine kl (kS (As := [.long (zV l3.toNatClampNeg)]) (rest := [.long (31 * w6)]) C0 (kX3_lower l D cJ cZ (zV l3.toNatClampNeg) r7 h8) gX3_digest_X3_lower rfl ⟨rfl, rfl⟩ hdX3_lower ⟨Nat.le_of_ble_eq_true rfl, Nat.le_of_ble_eq_true rfl⟩ (hP.sub [] rfl) hE hl rfl rfl (Nat.le_of_ble_eq_true rfl) dX3_digest_80 (Nat.zero_le _) (Nat.zero_le _)) ?_
        refine lv_ladd hx hb dX3_digest_83 ?_
        obtain ⟨w9, ew9, h⟩ := bnd_s h
        refine tl ew9.symm ?_
        refine lv_lstore_n (lv' := [(1, .long w9), (0, .ref dk), (3, .int l3)]) hx hb dX3_digest_84 rfl hl (by decide) rfl (fun ls hl => ?_)
        obtain ⟨w10, ew10, h⟩ := bnd_s h
        refine lv_iinc (v := w10) (lv' := [(3, .int w10), (1, .long w9), (0, .ref dk)]) hx hb dX3_digest_85 hl (k := 2) rfl (by rw [ew10]; rfl) (by decide) rfl (fun ls hl => ?_)
        refine lv_goto (tgt := 47) hx hb dX3_digest_88 (by decide) ?_
        exact ih w9 w10 h ls (lv_sub hl [2, 1, 0] rfl)
  have loop17 : ∀ (n : Nat) (l1 : Int64) (l3 : Int32), fX3_digest_17 N zS zV n l1 l3 = some rr → ∀ ls : Array Slot, lv_has ls 4 [(0, .ref dk), (1, .long l1), (3, .int l3)] → W pg l e (headSpec wsX3_digest rmX3_digest).room s m ([.ref dk] : List Value).toArray below meth c s.heap [] 0 0 (MQ below (SL rr) ([.ref dk] : List Value).toArray s 0 0 (fun _ => False)) (F0 m 17 ls []) := by
    intro n
    induction n with
    | zero =>
      intro l1 l3 h
      cases h
    | succ n ih =>
      intro l1 l3 h ls hl
      rw [fX3_digest_17] at h
      refine lv_iload_n hx hb dX3_digest_17 rfl (lv_at hl 2 rfl) ?_
      refine lv_bipush (v := 16) hx hb dX3_digest_18 (by decide) ?_
      refine lv_icmp_ge (tgt := 45) hx hb dX3_digest_20 (by decide) (fun c1 => ?_) (fun c1 => ?_)
      · have h := ite_t c1 h
        refine lv_iconst (v := 0) hx hb dX3_digest_45 (by decide) ?_
        refine lv_istore_n (lv' := [(3, .int 0), (0, .ref dk), (1, .long l1)]) hx hb dX3_digest_46 rfl hl (by decide) rfl (fun ls hl => ?_)
        exact loop47 N l1 0 h ls (lv_sub hl [1, 2, 0] rfl)
      · have h := ite_f c1 h
        refine lv_ldc2 (v := 31) hx hb hown (hts _ lkX3_digest_2) dX3_digest_23 ?_
        refine lv_lload_n hx hb dX3_digest_26 rfl (lv_at hl 1 rfl) ?_
        refine lv_lmul hx hb dX3_digest_27 ?_
        refine lv_aload_n hx hb dX3_digest_28 rfl (lv_at hl 0 rfl) ?_
        refine va_get (D := D) (ci := 3) (v := .ref so) (C := RX3) (T := TX3) (N := 4) hx hb hts iwX3_digest_3 hown hE.1 hP 0 rfl rfl 0 (by decide) (hts _ lkX3_digest_4) (fun _ h9 => h9) rfl dX3_digest_29 ?_
        refine lv_iload_n hx hb dX3_digest_32 rfl (lv_at hl 2 rfl) ?_
        obtain ⟨c11, h⟩ := ite_n h
        refine va_lald hx hb hE.1 hP 1 0 rfl rfl c11 dX3_digest_33 ?_
        obtain ⟨r12, h13, h⟩ := bind_s h
        refine kl (kS (As := [.long (zS l3.toNatClampNeg)]) (rest := [.long (31 * l1)]) C0 (kX3_written l D cJ cZ (zS l3.toNatClampNeg) r12 h13) gX3_digest_X3_written rfl ⟨rfl, rfl⟩ hdX3_written ⟨Nat.le_of_ble_eq_true rfl, Nat.le_of_ble_eq_true rfl⟩ (hP.sub [] rfl) hE hl rfl rfl (Nat.le_of_ble_eq_true rfl) dX3_digest_34 (Nat.zero_le _) (Nat.zero_le _)) ?_
        refine lv_ladd hx hb dX3_digest_37 ?_
        obtain ⟨w14, ew14, h⟩ := bnd_s h
        refine tl ew14.symm ?_
        refine lv_lstore_n (lv' := [(1, .long w14), (0, .ref dk), (3, .int l3)]) hx hb dX3_digest_38 rfl hl (by decide) rfl (fun ls hl => ?_)
        obtain ⟨w15, ew15, h⟩ := bnd_s h
        refine lv_iinc (v := w15) (lv' := [(3, .int w15), (1, .long w14), (0, .ref dk)]) hx hb dX3_digest_39 hl (k := 2) rfl (by rw [ew15]; rfl) (by decide) rfl (fun ls hl => ?_)
        refine lv_goto (tgt := 17) hx hb dX3_digest_42 (by decide) ?_
        exact ih w14 w15 h ls (lv_sub hl [2, 1, 0] rfl)
  unfold fX3_digest at h
  refine lv_aload_n hx hb dX3_digest_0 rfl (lv_at hl 0 rfl) ?_
  refine va_get (D := D) (ci := 3) (v := .ref co) (C := RX3) (T := TX3) (N := 4) hx hb hts iwX3_digest_3 hown hE.1 hP 0 rfl rfl 2 (by decide) (hts _ lkX3_digest_0) (fun _ h9 => h9) rfl dX3_digest_1 ?_
  refine lv_ifnonnull (tgt := 11) hx hb dX3_digest_4 (by decide) ?_
  refine lv_ldc2 (v := 17) hx hb hown (hts _ lkX3_digest_1) dX3_digest_11 ?_
  refine lv_lstore_n (lv' := [(1, .long 17), (0, .ref dk)]) hx hb dX3_digest_14 rfl hl (by decide) rfl (fun ls hl => ?_)
  refine lv_iconst (v := 0) hx hb dX3_digest_15 (by decide) ?_
  refine lv_istore_n (lv' := [(3, .int 0), (1, .long 17), (0, .ref dk)]) hx hb dX3_digest_16 rfl hl (by decide) rfl (fun ls hl => ?_)
  exact loop17 N 17 0 h ls (lv_sub hl [2, 1, 0] rfl)
