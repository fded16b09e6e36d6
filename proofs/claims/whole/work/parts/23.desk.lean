def fX3_clearRows_25 (N : Nat) : Nat → Int32 → (Nat → Int64) → (Nat → Int64) → Option ((Nat → Int64) × (Nat → Int64))
  | 0, _, _, _ => none
  | n + 1, l1, zS, zV =>
    if 8 ≤ l1 then
      some (zS, zV)
    else
      if l1 < 0 ∨ 8 ≤ l1.toNatClampNeg then none else
      bnd (vp_updL zV l1.toNatClampNeg 2147483648) fun w4 =>
      bnd (l1 + 1) fun w5 =>
      fX3_clearRows_25 N n w5 zS w4
def fX3_clearRows_2 (N : Nat) : Nat → Int32 → (Nat → Int64) → (Nat → Int64) → Option ((Nat → Int64) × (Nat → Int64))
  | 0, _, _, _ => none
  | n + 1, l1, zS, zV =>
    if 16 ≤ l1 then
      fX3_clearRows_25 N N 0 zS zV
    else
      if l1 < 0 ∨ 16 ≤ l1.toNatClampNeg then none else
      bnd (vp_updL zS l1.toNatClampNeg (-1)) fun w7 =>
      bnd (l1 + 1) fun w8 =>
      fX3_clearRows_2 N n w8 w7 zV
def fX3_clearRows (N : Nat) (zS : Nat → Int64) (zV : Nat → Int64) : Option ((Nat → Int64) × (Nat → Int64)) :=
  fX3_clearRows_2 N N 0 zS zV
abbrev rmX3_clearRows : Room := { frames := 0, cells := 0, slots := 0, locals := 0 }
theorem lkX3_clearRows_0 : (.fieldLink RX3 13 "PairingDesk" "values" "[J" : Cond) ∈ wsX3_clearRows := by decide +kernel
theorem lkX3_clearRows_1 : (.constantLong RX3 131 (2147483648) : Cond) ∈ wsX3_clearRows := by decide +kernel
theorem lkX3_clearRows_2 : (.fieldLink RX3 9 "PairingDesk" "slots" "[J" : Cond) ∈ wsX3_clearRows := by decide +kernel
theorem lkX3_clearRows_3 : (.constantLong RX3 79 (-1) : Cond) ∈ wsX3_clearRows := by decide +kernel
theorem iwX3_clearRows_3 : ∀ w ∈ wsX30, w ∈ wsX3_clearRows := by decide +kernel
theorem hdX3_clearRows : KN yX3_clearRows 0 := by decide +kernel
set_option maxHeartbeats 4000000 in
set_option maxRecDepth 100000 in
theorem kX3_clearRows (l : Launch) (D : va_G) (cJ cZ : ClassId) (dk so vo : Nat) (N : Nat) (vc : Value) (vp : Value) (zS : Nat → Int64) (zV : Nat → Int64) (sz : Nat) (ozS : Nat → Int64) (ozV : Nat → Int64) (h : fX3_clearRows N zS zV = some (ozS, ozV)) : Met l yX3_clearRows wsX3_clearRows rmX3_clearRows (PE D cJ cZ [.ref dk] [(dk, .inr (3, [.ref so, .ref vo, vc, vp])), (so, .inl (cJ, 16, .inr (.inl zS))), (vo, .inl (cJ, 8, .inr (.inl zV)))] sz) (QE D (none) [(dk, .inr (3, [.ref so, .ref vo, vc, vp])), (so, .inl (cJ, 16, .inr (.inl ozS))), (vo, .inl (cJ, 8, .inr (.inl ozV)))] (va_A [(dk, .inr (3, [.ref so, .ref vo, vc, vp])), (so, .inl (cJ, 16, .inr (.inl zS))), (vo, .inl (cJ, 8, .inr (.inl zV)))] sz)) 0 0 (va_A [(dk, .inr (3, [.ref so, .ref vo, vc, vp])), (so, .inl (cJ, 16, .inr (.inl zS))), (vo, .inl (cJ, 8, .inr (.inl zV)))] sz) := by
  refine Met.ofW (cc := cX3_clearRows) (maxL := 2) (ret := none) (by decide) rfl ?_
  intro pg e s m args below meth c s₁ B hml hv
  obtain ⟨rfl, hsz, hP, hE, hD0⟩ := hv
  have hx := B.exec
  have hb := B.bytes
  have hr := B.returns
  have hlocks := B.notSynchronized
  have C0 : CallFix pg m c cX3_clearRows 2 s ([.ref dk] : List Value).toArray wsX3_clearRows RX3 := ⟨hx, hb, hml, findClass_of_methodNamed B.named, atoms_spec (ws := wsX3_clearRows) B.pre⟩
  have hown := C0.2.2.2.1
  have hts := C0.2.2.2.2
  subst hsz
  have hD := hD0.self (sz := s.heap.size)
  generalize hAe : va_A [(dk, .inr (3, [.ref so, .ref vo, vc, vp])), (so, .inl (cJ, 16, .inr (.inl zS))), (vo, .inl (cJ, 8, .inr (.inl zV)))] s.heap.size = A at hD ⊢
  have hA : ∀ q : Nat, s.heap.size ≤ q → A q := fun q h => by rw [← hAe]; exact Or.inr h
  have hS : va_S A s.heap s.heap [] := va_S.rf
  have hP : va_P D vwCl [(dk, .inr (3, [.ref so, .ref vo, vc, vp])), (so, .inl (cJ, 16, .inr (.inl zS))), (vo, .inl (cJ, 8, .inr (.inl zV)))] s.heap := hP
  have hl := lv_entry ([.ref dk]) (n := 2) (Nat.le_of_ble_eq_true rfl)
  rw [lg_entry_eq]
  generalize (lg_sl ([.ref dk]) ++ List.replicate (2 - (lg_sl ([.ref dk])).length) Slot.unset).toArray = ls at hl ⊢
  have hl : lv_has ls 2 [(0, .ref dk)] := hl
  have loop25 : ∀ (n : Nat) (l1 : Int32) (zS : Nat → Int64) (zV : Nat → Int64), fX3_clearRows_25 N n l1 zS zV = some (ozS, ozV) → ∀ (H : Heap) (locs : List Loc), va_P D vwCl [(dk, .inr (3, [.ref so, .ref vo, vc, vp])), (so, .inl (cJ, 16, .inr (.inl zS))), (vo, .inl (cJ, 8, .inr (.inl zV)))] H → va_D A [(dk, .inr (3, [.ref so, .ref vo, vc, vp])), (so, .inl (cJ, 16, .inr (.inl zS))), (vo, .inl (cJ, 8, .inr (.inl zV)))] → va_S A s.heap H locs → ∀ ls : Array Slot, lv_has ls 2 [(0, .ref dk), (1, .int l1)] → W pg l e (headSpec wsX3_clearRows rmX3_clearRows).room s m ([.ref dk] : List Value).toArray below meth c H locs 0 0 (MQ below (QE D (none) [(dk, .inr (3, [.ref so, .ref vo, vc, vp])), (so, .inl (cJ, 16, .inr (.inl ozS))), (vo, .inl (cJ, 8, .inr (.inl ozV)))] A) ([.ref dk] : List Value).toArray s 0 0 A) (F0 m 25 ls []) := by
    intro n
    induction n with
    | zero =>
      intro l1 zS zV h
      cases h
    | succ n ih =>
      intro l1 zS zV h H locs hP hD hS ls hl
      rw [fX3_clearRows_25] at h
      refine lv_iload_n hx hb dX3_clearRows_25 rfl (lv_at hl 1 rfl) ?_
      refine lv_bipush (v := 8) hx hb dX3_clearRows_26 (by decide) ?_
      refine lv_icmp_ge (tgt := 46) hx hb dX3_clearRows_28 (by decide) (fun c2 => ?_) (fun c2 => ?_)
      · have h := ite_t c2 h
        cases h
        exact rfV hx hb hr hlocks hP hD hS dX3_clearRows_46
      · have h := ite_f c2 h
        refine lv_aload_n hx hb dX3_clearRows_31 rfl (lv_at hl 0 rfl) ?_
        refine va_get (D := D) (ci := 3) (v := .ref vo) (C := RX3) (T := TX3) (N := 4) hx hb hts iwX3_clearRows_3 hown hE.1 hP 0 rfl rfl 1 (by decide) (hts _ lkX3_clearRows_0) (fun _ h9 => h9) rfl dX3_clearRows_32 ?_
        refine lv_iload_n hx hb dX3_clearRows_35 rfl (lv_at hl 1 rfl) ?_
        refine lv_ldc2 (v := 2147483648) hx hb hown (hts _ lkX3_clearRows_1) dX3_clearRows_36 ?_
        obtain ⟨c3, h⟩ := ite_n h
        refine va_last hx hb hE.1 hP hD hS 2 0 rfl rfl c3 dX3_clearRows_39 (fun H locs hP hD hS => ?_)
        have hP : va_P D vwCl [(dk, .inr (3, [.ref so, .ref vo, vc, vp])), (so, .inl (cJ, 16, .inr (.inl zS))), (vo, .inl (cJ, 8, .inr (.inl (vp_updL zV l1.toNatClampNeg 2147483648))))] H := hP
        have hD : va_D A [(dk, .inr (3, [.ref so, .ref vo, vc, vp])), (so, .inl (cJ, 16, .inr (.inl zS))), (vo, .inl (cJ, 8, .inr (.inl (vp_updL zV l1.toNatClampNeg 2147483648))))] := hD
        obtain ⟨w4, ew4, h⟩ := bnd_s h
        rw [← ew4] at hP hD
        obtain ⟨w5, ew5, h⟩ := bnd_s h
        refine lv_iinc (v := w5) (lv' := [(1, .int w5), (0, .ref dk)]) hx hb dX3_clearRows_40 hl (k := 1) rfl (by rw [ew5]; rfl) (by decide) rfl (fun ls hl => ?_)
        refine lv_goto (tgt := 25) hx hb dX3_clearRows_43 (by decide) ?_
        exact ih w5 zS w4 h H locs hP hD hS ls (lv_sub hl [1, 0] rfl)
  have loop2 : ∀ (n : Nat) (l1 : Int32) (zS : Nat → Int64) (zV : Nat → Int64), fX3_clearRows_2 N n l1 zS zV = some (ozS, ozV) → ∀ (H : Heap) (locs : List Loc), va_P D vwCl [(dk, .inr (3, [.ref so, .ref vo, vc, vp])), (so, .inl (cJ, 16, .inr (.inl zS))), (vo, .inl (cJ, 8, .inr (.inl zV)))] H → va_D A [(dk, .inr (3, [.ref so, .ref vo, vc, vp])), (so, .inl (cJ, 16, .inr (.inl zS))), (vo, .inl (cJ, 8, .inr (.inl zV)))] → va_S A s.heap H locs → ∀ ls : Array Slot, lv_has ls 2 [(0, .ref dk), (1, .int l1)] → W pg l e (headSpec wsX3_clearRows rmX3_clearRows).room s m ([.ref dk] : List Value).toArray below meth c H locs 0 0 (MQ below (QE D (none) [(dk, .inr (3, [.ref so, .ref vo, vc, vp])), (so, .inl (cJ, 16, .inr (.inl ozS))), (vo, .inl (cJ, 8, .inr (.inl ozV)))] A) ([.ref dk] : List Value).toArray s 0 0 A) (F0 m 2 ls []) := by
    intro n
    induction n with
    | zero =>
      intro l1 zS zV h
      cases h
    | succ n ih =>
      intro l1 zS zV h H locs hP hD hS ls hl
      rw [fX3_clearRows_2] at h
      refine lv_iload_n hx hb dX3_clearRows_2 rfl (lv_at hl 1 rfl) ?_
      refine lv_bipush (v := 16) hx hb dX3_clearRows_3 (by decide) ?_
      refine lv_icmp_ge (tgt := 23) hx hb dX3_clearRows_5 (by decide) (fun c1 => ?_) (fun c1 => ?_)
      · have h := ite_t c1 h
        refine lv_iconst (v := 0) hx hb dX3_clearRows_23 (by decide) ?_
        refine lv_istore_n (lv' := [(1, .int 0), (0, .ref dk)]) hx hb dX3_clearRows_24 rfl hl (by decide) rfl (fun ls hl => ?_)
        exact loop25 N 0 zS zV h H locs hP hD hS ls (lv_sub hl [1, 0] rfl)
      · have h := ite_f c1 h
        refine lv_aload_n hx hb dX3_clearRows_8 rfl (lv_at hl 0 rfl) ?_
        refine va_get (D := D) (ci := 3) (v := .ref so) (C := RX3) (T := TX3) (N := 4) hx hb hts iwX3_clearRows_3 hown hE.1 hP 0 rfl rfl 0 (by decide) (hts _ lkX3_clearRows_2) (fun _ h9 => h9) rfl dX3_clearRows_9 ?_
        refine lv_iload_n hx hb dX3_clearRows_12 rfl (lv_at hl 1 rfl) ?_
        refine lv_ldc2 (v := (-1)) hx hb hown (hts _ lkX3_clearRows_3) dX3_clearRows_13 ?_
        obtain ⟨c6, h⟩ := ite_n h
        refine va_last hx hb hE.1 hP hD hS 1 0 rfl rfl c6 dX3_clearRows_16 (fun H locs hP hD hS => ?_)
        have hP : va_P D vwCl [(dk, .inr (3, [.ref so, .ref vo, vc, vp])), (so, .inl (cJ, 16, .inr (.inl (vp_updL zS l1.toNatClampNeg (-1))))), (vo, .inl (cJ, 8, .inr (.inl zV)))] H := hP
        have hD : va_D A [(dk, .inr (3, [.ref so, .ref vo, vc, vp])), (so, .inl (cJ, 16, .inr (.inl (vp_updL zS l1.toNatClampNeg (-1))))), (vo, .inl (cJ, 8, .inr (.inl zV)))] := hD
        obtain ⟨w7, ew7, h⟩ := bnd_s h
        rw [← ew7] at hP hD
        obtain ⟨w8, ew8, h⟩ := bnd_s h
        refine lv_iinc (v := w8) (lv' := [(1, .int w8), (0, .ref dk)]) hx hb dX3_clearRows_17 hl (k := 1) rfl (by rw [ew8]; rfl) (by decide) rfl (fun ls hl => ?_)
        refine lv_goto (tgt := 2) hx hb dX3_clearRows_20 (by decide) ?_
        exact ih w8 w7 zV h H locs hP hD hS ls (lv_sub hl [1, 0] rfl)
  suffices key : ∀ (H : Heap) (locs : List Loc), va_P D vwCl [(dk, .inr (3, [.ref so, .ref vo, vc, vp])), (so, .inl (cJ, 16, .inr (.inl zS))), (vo, .inl (cJ, 8, .inr (.inl zV)))] H → va_D A [(dk, .inr (3, [.ref so, .ref vo, vc, vp])), (so, .inl (cJ, 16, .inr (.inl zS))), (vo, .inl (cJ, 8, .inr (.inl zV)))] → va_S A s.heap H locs → W pg l e (headSpec wsX3_clearRows rmX3_clearRows).room s m ([.ref dk] : List Value).toArray below meth c H locs 0 0 (MQ below (QE D (none) [(dk, .inr (3, [.ref so, .ref vo, vc, vp])), (so, .inl (cJ, 16, .inr (.inl ozS))), (vo, .inl (cJ, 8, .inr (.inl ozV)))] A) ([.ref dk] : List Value).toArray s 0 0 A) (F0 m 0 ls []) from key s.heap [] hP hD hS
  intro H locs hP hD hS
  unfold fX3_clearRows at h
  refine lv_iconst (v := 0) hx hb dX3_clearRows_0 (by decide) ?_
  refine lv_istore_n (lv' := [(1, .int 0), (0, .ref dk)]) hx hb dX3_clearRows_1 rfl hl (by decide) rfl (fun ls hl => ?_)
  exact loop2 N 0 zS zV h H locs hP hD hS ls (lv_sub hl [1, 0] rfl)
def fX3_told  (zp : Int64) (zr : Int64) (zh : Int64) (q0 : Int32) : Option (Int32) :=
  if q0 < 0 then
    some (-2)
  else
    if q0 ≤ 2 then
      if q0 = 0 then
        some zp.toInt32
      else
        if q0 = 1 then
          some zr.toInt32
        else
          some zh.toInt32
    else
      some (-2)
abbrev rmX3_told : Room := { frames := 0, cells := 0, slots := 0, locals := 0 }
theorem lkX3_told_0 : (.fieldLink RX3 33 "PairingDesk" "curve" "LPairingDesk$Curve;" : Cond) ∈ wsX3_told := by decide +kernel
theorem lkX3_told_1 : (.fieldLink RX3 46 "PairingDesk$Curve" "h" "J" : Cond) ∈ wsX3_told := by decide +kernel
theorem lkX3_told_2 : (.fieldLink RX3 53 "PairingDesk$Curve" "\x72" "J" : Cond) ∈ wsX3_told := by decide +kernel
theorem lkX3_told_3 : (.fieldLink RX3 50 "PairingDesk$Curve" "p" "J" : Cond) ∈ wsX3_told := by decide +kernel
theorem iwX3_told_0 : ∀ w ∈ wsX00, w ∈ wsX3_told := by decide +kernel
theorem iwX3_told_3 : ∀ w ∈ wsX30, w ∈ wsX3_told := by decide +kernel
theorem hdX3_told : KN yX3_told 1 := by decide +kernel
set_option maxHeartbeats 4000000 in
set_option maxRecDepth 100000 in
theorem kX3_told (l : Launch) (D : va_G) (cJ cZ : ClassId) (dk so vo po co fo : Nat) (zp : Int64) (zr : Int64) (zh : Int64) (zb : Int64) (zt : Int32) (zS : Nat → Int64) (zV : Nat → Int64) (q0 : Int32) (rr : Int32) (h : fX3_told zp zr zh q0 = some rr) : Met l yX3_told wsX3_told rmX3_told (PP D cJ cZ [.ref dk, .int q0] [(dk, .inr (3, [.ref so, .ref vo, .ref co, .ref po])), (so, .inl (cJ, 16, .inr (.inl zS))), (vo, .inl (cJ, 8, .inr (.inl zV))), (po, .inr (1, [.ref co, .long zp, .long zr])), (co, .inr (0, [.ref fo, .long zp, .long zr, .long zh, .long zb, .int zt])), (fo, .inr (2, [.long zp]))]) (SI rr) 0 0 (fun _ => False) := by
  refine Met.ofW (cc := cX3_told) (maxL := 2) (ret := some .int) (by decide) rfl ?_
  intro pg e s m args below meth c s₁ B hml hv
  obtain ⟨rfl, hP, hE⟩ := hv
  have hx := B.exec
  have hb := B.bytes
  have hr := B.returns
  have hlocks := B.notSynchronized
  have C0 : CallFix pg m c cX3_told 2 s ([.ref dk, .int q0] : List Value).toArray wsX3_told RX3 := ⟨hx, hb, hml, findClass_of_methodNamed B.named, atoms_spec (ws := wsX3_told) B.pre⟩
  have hown := C0.2.2.2.1
  have hts := C0.2.2.2.2
  have hl := lv_entry ([.ref dk, .int q0]) (n := 2) (Nat.le_of_ble_eq_true rfl)
  rw [lg_entry_eq]
  generalize (lg_sl ([.ref dk, .int q0]) ++ List.replicate (2 - (lg_sl ([.ref dk, .int q0])).length) Slot.unset).toArray = ls at hl ⊢
  have hl : lv_has ls 2 [(0, .ref dk), (1, .int q0)] := hl
  unfold fX3_told at h
  refine lv_iload_n hx hb dX3_told_0 rfl (lv_at hl 1 rfl) ?_
  refine lv_if_lt (tgt := 9) hx hb dX3_told_1 (by decide) (fun c1 => ?_) (fun c1 => ?_)
  · have h := ite_t c1 h
    refine lv_bipush (v := (-2)) hx hb dX3_told_9 (by decide) ?_
    exact reI hx hb hr hlocks h dX3_told_11
  · have h := ite_f c1 h
    refine lv_iload_n hx hb dX3_told_4 rfl (lv_at hl 1 rfl) ?_
    refine lv_iconst (v := 2) hx hb dX3_told_5 (by decide) ?_
    refine lv_icmp_le (tgt := 12) hx hb dX3_told_6 (by decide) (fun c2 => ?_) (fun c2 => ?_)
    · have h := ite_t c2 h
      refine lv_aload_n hx hb dX3_told_12 rfl (lv_at hl 0 rfl) ?_
      refine va_get (D := D) (ci := 3) (v := .ref co) (C := RX3) (T := TX3) (N := 4) hx hb hts iwX3_told_3 hown hE.1 hP 0 rfl rfl 2 (by decide) (hts _ lkX3_told_0) (fun _ h9 => h9) rfl dX3_told_13 ?_
      refine lv_ifnonnull (tgt := 22) hx hb dX3_told_16 (by decide) ?_
      refine lv_iload_n hx hb dX3_told_22 rfl (lv_at hl 1 rfl) ?_
      refine lv_if_ne (tgt := 36) hx hb dX3_told_23 (by decide) (fun c3 => ?_) (fun c3 => ?_)
      · have h := ite_f c3 h
        refine lv_iload_n hx hb dX3_told_36 rfl (lv_at hl 1 rfl) ?_
        refine lv_iconst (v := 1) hx hb dX3_told_37 (by decide) ?_
        refine lv_icmp_ne (tgt := 51) hx hb dX3_told_38 (by decide) (fun c4 => ?_) (fun c4 => ?_)
        · have h := ite_f c4 h
          refine lv_aload_n hx hb dX3_told_51 rfl (lv_at hl 0 rfl) ?_
          refine va_get (D := D) (ci := 3) (v := .ref co) (C := RX3) (T := TX3) (N := 4) hx hb hts iwX3_told_3 hown hE.1 hP 0 rfl rfl 2 (by decide) (hts _ lkX3_told_0) (fun _ h9 => h9) rfl dX3_told_52 ?_
          refine va_get (D := D) (ci := 0) (v := .long zh) (C := RX0) (T := TX0) (N := 6) hx hb hts iwX3_told_0 hown hE.1 hP 4 rfl rfl 3 (by decide) (hts _ lkX3_told_1) (fun _ h9 => h9) rfl dX3_told_55 ?_
          refine lv_l2i (v := zh.toInt32) hx hb dX3_told_58 rfl ?_
          exact reI hx hb hr hlocks h dX3_told_59
        · have h := ite_t c4 h
          refine lv_aload_n hx hb dX3_told_41 rfl (lv_at hl 0 rfl) ?_
          refine va_get (D := D) (ci := 3) (v := .ref co) (C := RX3) (T := TX3) (N := 4) hx hb hts iwX3_told_3 hown hE.1 hP 0 rfl rfl 2 (by decide) (hts _ lkX3_told_0) (fun _ h9 => h9) rfl dX3_told_42 ?_
          refine va_get (D := D) (ci := 0) (v := .long zr) (C := RX0) (T := TX0) (N := 6) hx hb hts iwX3_told_0 hown hE.1 hP 4 rfl rfl 2 (by decide) (hts _ lkX3_told_2) (fun _ h9 => h9) rfl dX3_told_45 ?_
          refine lv_goto (tgt := 58) hx hb dX3_told_48 (by decide) ?_
          refine lv_l2i (v := zr.toInt32) hx hb dX3_told_58 rfl ?_
          exact reI hx hb hr hlocks h dX3_told_59
      · have h := ite_t c3 h
        refine lv_aload_n hx hb dX3_told_26 rfl (lv_at hl 0 rfl) ?_
        refine va_get (D := D) (ci := 3) (v := .ref co) (C := RX3) (T := TX3) (N := 4) hx hb hts iwX3_told_3 hown hE.1 hP 0 rfl rfl 2 (by decide) (hts _ lkX3_told_0) (fun _ h9 => h9) rfl dX3_told_27 ?_
        refine va_get (D := D) (ci := 0) (v := .long zp) (C := RX0) (T := TX0) (N := 6) hx hb hts iwX3_told_0 hown hE.1 hP 4 rfl rfl 1 (by decide) (hts _ lkX3_told_3) (fun _ h9 => h9) rfl dX3_told_30 ?_
        refine lv_goto (tgt := 58) hx hb dX3_told_33 (by decide) ?_
        refine lv_l2i (v := zp.toInt32) hx hb dX3_told_58 rfl ?_
        exact reI hx hb hr hlocks h dX3_told_59
    · have h := ite_f c2 h
      refine lv_bipush (v := (-2)) hx hb dX3_told_9 (by decide) ?_
      exact reI hx hb hr hlocks h dX3_told_11
def fX3_root (N : Nat) (zp : Int64) (q0 : Int32) : Option (Int32) :=
  (fX2_has zp q0).bind fun r1 =>
  if (bI r1) = 0 then
    some (-2)
  else
    (fX2_evenRoot N zp q0.toInt64).bind fun r4 =>
    some r4.toInt32
abbrev rmX3_root : Room := { frames := 2, cells := 0, slots := 0, locals := 52 }
theorem lkX3_root_0 : (.fieldLink RX3 33 "PairingDesk" "curve" "LPairingDesk$Curve;" : Cond) ∈ wsX3_root := by decide +kernel
theorem lkX3_root_1 : (.fieldLink RX3 56 "PairingDesk$Curve" "field" "LPairingDesk$PrimeField;" : Cond) ∈ wsX3_root := by decide +kernel
theorem iwX3_root_0 : ∀ w ∈ wsX00, w ∈ wsX3_root := by decide +kernel
theorem iwX3_root_3 : ∀ w ∈ wsX30, w ∈ wsX3_root := by decide +kernel
theorem hdX3_root : KN yX3_root 1 := by decide +kernel
set_option maxHeartbeats 4000000 in
set_option maxRecDepth 100000 in
theorem kX3_root (l : Launch) (D : va_G) (cJ cZ : ClassId) (dk so vo po co fo : Nat) (N : Nat) (zp : Int64) (zr : Int64) (zh : Int64) (zb : Int64) (zt : Int32) (zS : Nat → Int64) (zV : Nat → Int64) (q0 : Int32) (rr : Int32) (h : fX3_root N zp q0 = some rr) : Met l yX3_root wsX3_root rmX3_root (PP D cJ cZ [.ref dk, .int q0] [(dk, .inr (3, [.ref so, .ref vo, .ref co, .ref po])), (so, .inl (cJ, 16, .inr (.inl zS))), (vo, .inl (cJ, 8, .inr (.inl zV))), (po, .inr (1, [.ref co, .long zp, .long zr])), (co, .inr (0, [.ref fo, .long zp, .long zr, .long zh, .long zb, .int zt])), (fo, .inr (2, [.long zp]))]) (SI rr) 0 0 (fun _ => False) := by
  refine Met.ofW (cc := cX3_root) (maxL := 2) (ret := some .int) (by decide) rfl ?_
  intro pg e s m args below meth c s₁ B hml hv
  obtain ⟨rfl, hP, hE⟩ := hv
  have hx := B.exec
  have hb := B.bytes
  have hr := B.returns
  have hlocks := B.notSynchronized
  have C0 : CallFix pg m c cX3_root 2 s ([.ref dk, .int q0] : List Value).toArray wsX3_root RX3 := ⟨hx, hb, hml, findClass_of_methodNamed B.named, atoms_spec (ws := wsX3_root) B.pre⟩
  have hown := C0.2.2.2.1
  have hts := C0.2.2.2.2
  have hl := lv_entry ([.ref dk, .int q0]) (n := 2) (Nat.le_of_ble_eq_true rfl)
  rw [lg_entry_eq]
  generalize (lg_sl ([.ref dk, .int q0]) ++ List.replicate (2 - (lg_sl ([.ref dk, .int q0])).length) Slot.unset).toArray = ls at hl ⊢
  have hl : lv_has ls 2 [(0, .ref dk), (1, .int q0)] := hl
  unfold fX3_root at h
  refine lv_aload_n hx hb dX3_root_0 rfl (lv_at hl 0 rfl) ?_
  refine va_get (D := D) (ci := 3) (v := .ref co) (C := RX3) (T := TX3) (N := 4) hx hb hts iwX3_root_3 hown hE.1 hP 0 rfl rfl 2 (by decide) (hts _ lkX3_root_0) (fun _ h9 => h9) rfl dX3_root_1 ?_
  refine lv_ifnonnull (tgt := 10) hx hb dX3_root_4 (by decide) ?_
  refine lv_aload_n hx hb dX3_root_10 rfl (lv_at hl 0 rfl) ?_
  refine va_get (D := D) (ci := 3) (v := .ref co) (C := RX3) (T := TX3) (N := 4) hx hb hts iwX3_root_3 hown hE.1 hP 0 rfl rfl 2 (by decide) (hts _ lkX3_root_0) (fun _ h9 => h9) rfl dX3_root_11 ?_
  refine va_get (D := D) (ci := 0) (v := .ref fo) (C := RX0) (T := TX0) (N := 6) hx hb hts iwX3_root_0 hown hE.1 hP 4 rfl rfl 0 (by decide) (hts _ lkX3_root_1) (fun _ h9 => h9) rfl dX3_root_14 ?_
  refine lv_iload_n hx hb dX3_root_17 rfl (lv_at hl 1 rfl) ?_
  obtain ⟨r1, h2, h⟩ := bind_s h
  refine ki (kV (As := [.int q0]) (rest := []) C0 (kX2_has l D cJ cZ fo zp q0 r1 h2) gX3_root_X2_has rfl ⟨rfl, rfl⟩ hdX2_has ⟨Nat.le_of_ble_eq_true rfl, Nat.le_of_ble_eq_true rfl⟩ 2 0 rfl rfl rfl (hP.sub [5] rfl) hE hl rfl rfl (Nat.le_of_ble_eq_true rfl) dX3_root_18 (Nat.zero_le _) (Nat.zero_le _)) ?_
  refine lv_if_ne (tgt := 27) hx hb dX3_root_21 (by decide) (fun c3 => ?_) (fun c3 => ?_)
  · have h := ite_f c3 h
    refine lv_aload_n hx hb dX3_root_27 rfl (lv_at hl 0 rfl) ?_
    refine va_get (D := D) (ci := 3) (v := .ref co) (C := RX3) (T := TX3) (N := 4) hx hb hts iwX3_root_3 hown hE.1 hP 0 rfl rfl 2 (by decide) (hts _ lkX3_root_0) (fun _ h9 => h9) rfl dX3_root_28 ?_
    refine va_get (D := D) (ci := 0) (v := .ref fo) (C := RX0) (T := TX0) (N := 6) hx hb hts iwX3_root_0 hown hE.1 hP 4 rfl rfl 0 (by decide) (hts _ lkX3_root_1) (fun _ h9 => h9) rfl dX3_root_31 ?_
    refine lv_iload_n hx hb dX3_root_34 rfl (lv_at hl 1 rfl) ?_
    refine lv_i2l (v := q0.toInt64) hx hb dX3_root_35 rfl ?_
    obtain ⟨r4, h5, h⟩ := bind_s h
    refine kl (kV (As := [.long q0.toInt64]) (rest := []) C0 (kX2_evenRoot l D cJ cZ fo N zp q0.toInt64 r4 h5) gX3_root_X2_evenRoot rfl ⟨rfl, rfl⟩ hdX2_evenRoot ⟨Nat.le_of_ble_eq_true rfl, Nat.le_of_ble_eq_true rfl⟩ 2 0 rfl rfl rfl (hP.sub [5] rfl) hE hl rfl rfl (Nat.le_of_ble_eq_true rfl) dX3_root_36 (Nat.zero_le _) (Nat.zero_le _)) ?_
    refine lv_l2i (v := r4.toInt32) hx hb dX3_root_39 rfl ?_
    exact reI hx hb hr hlocks h dX3_root_40
  · have h := ite_t c3 h
    refine lv_bipush (v := (-2)) hx hb dX3_root_24 (by decide) ?_
    exact reI hx hb hr hlocks h dX3_root_26
def fX3_point  (zp : Int64) (zS : Nat → Int64) (q0 : Int32) (q1 : Int32) (q2 : Int32) : Option (Int32 × (Nat → Int64)) :=
  (fX3_isSlot q0).bind fun r1 =>
  if (bI r1) = 0 then
    some ((-2), zS)
  else
    (fX2_has zp q1).bind fun r4 =>
    if (bI r4) = 0 then
      some ((-2), zS)
    else
      (fX2_has zp q2).bind fun r7 =>
      if (bI r7) = 0 then
        some ((-2), zS)
      else
        (fX0_passes zp q1.toInt64 q2.toInt64).bind fun r10 =>
        if (bI r10) = 0 then
          some ((-1), zS)
        else
          (fX3_joined q1.toInt64 q2.toInt64).bind fun r13 =>
          if q0 < 0 ∨ 16 ≤ q0.toNatClampNeg then none else
          bnd (vp_updL zS q0.toNatClampNeg r13) fun w16 =>
          some (1, w16)
abbrev rmX3_point : Room := { frames := 3, cells := 0, slots := 0, locals := 70 }
theorem lkX3_point_0 : (.fieldLink RX3 33 "PairingDesk" "curve" "LPairingDesk$Curve;" : Cond) ∈ wsX3_point := by decide +kernel
theorem lkX3_point_1 : (.fieldLink RX3 56 "PairingDesk$Curve" "field" "LPairingDesk$PrimeField;" : Cond) ∈ wsX3_point := by decide +kernel
theorem lkX3_point_2 : (.fieldLink RX3 9 "PairingDesk" "slots" "[J" : Cond) ∈ wsX3_point := by decide +kernel
theorem iwX3_point_0 : ∀ w ∈ wsX00, w ∈ wsX3_point := by decide +kernel
theorem iwX3_point_3 : ∀ w ∈ wsX30, w ∈ wsX3_point := by decide +kernel
theorem hdX3_point : KN yX3_point 3 := by decide +kernel
set_option maxHeartbeats 4000000 in
set_option maxRecDepth 100000 in
theorem kX3_point (l : Launch) (D : va_G) (cJ cZ : ClassId) (dk so vo po co fo : Nat) (zp : Int64) (zr : Int64) (zh : Int64) (zb : Int64) (zt : Int32) (zS : Nat → Int64) (zV : Nat → Int64) (q0 : Int32) (q1 : Int32) (q2 : Int32) (sz : Nat) (rr : Int32) (ozS : Nat → Int64) (h : fX3_point zp zS q0 q1 q2 = some (rr, ozS)) : Met l yX3_point wsX3_point rmX3_point (PE D cJ cZ [.ref dk, .int q0, .int q1, .int q2] [(dk, .inr (3, [.ref so, .ref vo, .ref co, .ref po])), (so, .inl (cJ, 16, .inr (.inl zS))), (vo, .inl (cJ, 8, .inr (.inl zV))), (po, .inr (1, [.ref co, .long zp, .long zr])), (co, .inr (0, [.ref fo, .long zp, .long zr, .long zh, .long zb, .int zt])), (fo, .inr (2, [.long zp]))] sz) (QE D (some (.int rr)) [(dk, .inr (3, [.ref so, .ref vo, .ref co, .ref po])), (so, .inl (cJ, 16, .inr (.inl ozS))), (vo, .inl (cJ, 8, .inr (.inl zV))), (po, .inr (1, [.ref co, .long zp, .long zr])), (co, .inr (0, [.ref fo, .long zp, .long zr, .long zh, .long zb, .int zt])), (fo, .inr (2, [.long zp]))] (va_A [(dk, .inr (3, [.ref so, .ref vo, .ref co, .ref po])), (so, .inl (cJ, 16, .inr (.inl zS))), (vo, .inl (cJ, 8, .inr (.inl zV))), (po, .inr (1, [.ref co, .long zp, .long zr])), (co, .inr (0, [.ref fo, .long zp, .long zr, .long zh, .long zb, .int zt])), (fo, .inr (2, [.long zp]))] sz)) 0 0 (va_A [(dk, .inr (3, [.ref so, .ref vo, .ref co, .ref po])), (so, .inl (cJ, 16, .inr (.inl zS))), (vo, .inl (cJ, 8, .inr (.inl zV))), (po, .inr (1, [.ref co, .long zp, .long zr])), (co, .inr (0, [.ref fo, .long zp, .long zr, .long zh, .long zb, .int zt])), (fo, .inr (2, [.long zp]))] sz) := by
  refine Met.ofW (cc := cX3_point) (maxL := 4) (ret := some .int) (by decide) rfl ?_
  intro pg e s m args below meth c s₁ B hml hv
  obtain ⟨rfl, hsz, hP, hE, hD0⟩ := hv
  have hx := B.exec
  have hb := B.bytes
  have hr := B.returns
  have hlocks := B.notSynchronized
  have C0 : CallFix pg m c cX3_point 4 s ([.ref dk, .int q0, .int q1, .int q2] : List Value).toArray wsX3_point RX3 := ⟨hx, hb, hml, findClass_of_methodNamed B.named, atoms_spec (ws := wsX3_point) B.pre⟩
  have hown := C0.2.2.2.1
  have hts := C0.2.2.2.2
  subst hsz
  have hD := hD0.self (sz := s.heap.size)
  generalize hAe : va_A [(dk, .inr (3, [.ref so, .ref vo, .ref co, .ref po])), (so, .inl (cJ, 16, .inr (.inl zS))), (vo, .inl (cJ, 8, .inr (.inl zV))), (po, .inr (1, [.ref co, .long zp, .long zr])), (co, .inr (0, [.ref fo, .long zp, .long zr, .long zh, .long zb, .int zt])), (fo, .inr (2, [.long zp]))] s.heap.size = A at hD ⊢
  have hA : ∀ q : Nat, s.heap.size ≤ q → A q := fun q h => by rw [← hAe]; exact Or.inr h
  have hS : va_S A s.heap s.heap [] := va_S.rf
  have hP : va_P D vwCl [(dk, .inr (3, [.ref so, .ref vo, .ref co, .ref po])), (so, .inl (cJ, 16, .inr (.inl zS))), (vo, .inl (cJ, 8, .inr (.inl zV))), (po, .inr (1, [.ref co, .long zp, .long zr])), (co, .inr (0, [.ref fo, .long zp, .long zr, .long zh, .long zb, .int zt])), (fo, .inr (2, [.long zp]))] s.heap := hP
  have hl := lv_entry ([.ref dk, .int q0, .int q1, .int q2]) (n := 4) (Nat.le_of_ble_eq_true rfl)
  rw [lg_entry_eq]
  generalize (lg_sl ([.ref dk, .int q0, .int q1, .int q2]) ++ List.replicate (4 - (lg_sl ([.ref dk, .int q0, .int q1, .int q2])).length) Slot.unset).toArray = ls at hl ⊢
  have hl : lv_has ls 4 [(0, .ref dk), (1, .int q0), (2, .int q1), (3, .int q2)] := hl
  suffices key : ∀ (H : Heap) (locs : List Loc), va_P D vwCl [(dk, .inr (3, [.ref so, .ref vo, .ref co, .ref po])), (so, .inl (cJ, 16, .inr (.inl zS))), (vo, .inl (cJ, 8, .inr (.inl zV))), (po, .inr (1, [.ref co, .long zp, .long zr])), (co, .inr (0, [.ref fo, .long zp, .long zr, .long zh, .long zb, .int zt])), (fo, .inr (2, [.long zp]))] H → va_D A [(dk, .inr (3, [.ref so, .ref vo, .ref co, .ref po])), (so, .inl (cJ, 16, .inr (.inl zS))), (vo, .inl (cJ, 8, .inr (.inl zV))), (po, .inr (1, [.ref co, .long zp, .long zr])), (co, .inr (0, [.ref fo, .long zp, .long zr, .long zh, .long zb, .int zt])), (fo, .inr (2, [.long zp]))] → va_S A s.heap H locs → W pg l e (headSpec wsX3_point rmX3_point).room s m ([.ref dk, .int q0, .int q1, .int q2] : List Value).toArray below meth c H locs 0 0 (MQ below (QE D (some (.int rr)) [(dk, .inr (3, [.ref so, .ref vo, .ref co, .ref po])), (so, .inl (cJ, 16, .inr (.inl ozS))), (vo, .inl (cJ, 8, .inr (.inl zV))), (po, .inr (1, [.ref co, .long zp, .long zr])), (co, .inr (0, [.ref fo, .long zp, .long zr, .long zh, .long zb, .int zt])), (fo, .inr (2, [.long zp]))] A) ([.ref dk, .int q0, .int q1, .int q2] : List Value).toArray s 0 0 A) (F0 m 0 ls []) from key s.heap [] hP hD hS
  intro H locs hP hD hS
  unfold fX3_point at h
  refine lv_aload_n hx hb dX3_point_0 rfl (lv_at hl 0 rfl) ?_
  refine va_get (D := D) (ci := 3) (v := .ref co) (C := RX3) (T := TX3) (N := 4) hx hb hts iwX3_point_3 hown hE.1 hP 0 rfl rfl 2 (by decide) (hts _ lkX3_point_0) (fun _ h9 => h9) rfl dX3_point_1 ?_
  refine lv_ifnonnull (tgt := 10) hx hb dX3_point_4 (by decide) ?_
  refine lv_iload_n hx hb dX3_point_10 rfl (lv_at hl 1 rfl) ?_
  obtain ⟨r1, h2, h⟩ := bind_s h
  refine ki (kS (As := [.int q0]) (rest := []) C0 (kX3_isSlot l D cJ cZ q0 r1 h2) gX3_point_X3_isSlot rfl ⟨rfl, rfl⟩ hdX3_isSlot ⟨Nat.le_of_ble_eq_true rfl, Nat.le_of_ble_eq_true rfl⟩ (hP.sub [] rfl) hE hl rfl rfl (Nat.le_of_ble_eq_true rfl) dX3_point_11 (Nat.zero_le _) (Nat.zero_le _)) ?_
  refine lv_if_eq (tgt := 45) hx hb dX3_point_14 (by decide) (fun c3 => ?_) (fun c3 => ?_)
  · have h := ite_t c3 h
    refine lv_bipush (v := (-2)) hx hb dX3_point_45 (by decide) ?_
    cases h
    exact rfI hx hb hr hlocks hP hD hS dX3_point_47
  · have h := ite_f c3 h
    refine lv_aload_n hx hb dX3_point_17 rfl (lv_at hl 0 rfl) ?_
    refine va_get (D := D) (ci := 3) (v := .ref co) (C := RX3) (T := TX3) (N := 4) hx hb hts iwX3_point_3 hown hE.1 hP 0 rfl rfl 2 (by decide) (hts _ lkX3_point_0) (fun _ h9 => h9) rfl dX3_point_18 ?_
    refine va_get (D := D) (ci := 0) (v := .ref fo) (C := RX0) (T := TX0) (N := 6) hx hb hts iwX3_point_0 hown hE.1 hP 4 rfl rfl 0 (by decide) (hts _ lkX3_point_1) (fun _ h9 => h9) rfl dX3_point_21 ?_
    refine lv_iload_n hx hb dX3_point_24 rfl (lv_at hl 2 rfl) ?_
    obtain ⟨r4, h5, h⟩ := bind_s h
    refine ki (kV (As := [.int q1]) (rest := []) C0 (kX2_has l D cJ cZ fo zp q1 r4 h5) gX3_point_X2_has rfl ⟨rfl, rfl⟩ hdX2_has ⟨Nat.le_of_ble_eq_true rfl, Nat.le_of_ble_eq_true rfl⟩ 2 0 rfl rfl rfl (hP.sub [5] rfl) hE hl rfl rfl (Nat.le_of_ble_eq_true rfl) dX3_point_25 (Nat.zero_le _) (Nat.zero_le _)) ?_
    refine lv_if_eq (tgt := 45) hx hb dX3_point_28 (by decide) (fun c6 => ?_) (fun c6 => ?_)
    · have h := ite_t c6 h
      refine lv_bipush (v := (-2)) hx hb dX3_point_45 (by decide) ?_
      cases h
      exact rfI hx hb hr hlocks hP hD hS dX3_point_47
    · have h := ite_f c6 h
      refine lv_aload_n hx hb dX3_point_31 rfl (lv_at hl 0 rfl) ?_
      refine va_get (D := D) (ci := 3) (v := .ref co) (C := RX3) (T := TX3) (N := 4) hx hb hts iwX3_point_3 hown hE.1 hP 0 rfl rfl 2 (by decide) (hts _ lkX3_point_0) (fun _ h9 => h9) rfl dX3_point_32 ?_
      refine va_get (D := D) (ci := 0) (v := .ref fo) (C := RX0) (T := TX0) (N := 6) hx hb hts iwX3_point_0 hown hE.1 hP 4 rfl rfl 0 (by decide) (hts _ lkX3_point_1) (fun _ h9 => h9) rfl dX3_point_35 ?_
      refine lv_iload_n hx hb dX3_point_38 rfl (lv_at hl 3 rfl) ?_
      obtain ⟨r7, h8, h⟩ := bind_s h
      refine ki (kV (As := [.int q2]) (rest := []) C0 (kX2_has l D cJ cZ fo zp q2 r7 h8) gX3_point_X2_has rfl ⟨rfl, rfl⟩ hdX2_has ⟨Nat.le_of_ble_eq_true rfl, Nat.le_of_ble_eq_true rfl⟩ 2 0 rfl rfl rfl (hP.sub [5] rfl) hE hl rfl rfl (Nat.le_of_ble_eq_true rfl) dX3_point_39 (Nat.zero_le _) (Nat.zero_le _)) ?_
      refine lv_if_ne (tgt := 48) hx hb dX3_point_42 (by decide) (fun c9 => ?_) (fun c9 => ?_)
      · have h := ite_f c9 h
        refine lv_aload_n hx hb dX3_point_48 rfl (lv_at hl 0 rfl) ?_
        refine va_get (D := D) (ci := 3) (v := .ref co) (C := RX3) (T := TX3) (N := 4) hx hb hts iwX3_point_3 hown hE.1 hP 0 rfl rfl 2 (by decide) (hts _ lkX3_point_0) (fun _ h9 => h9) rfl dX3_point_49 ?_
        refine lv_iload_n hx hb dX3_point_52 rfl (lv_at hl 2 rfl) ?_
        refine lv_i2l (v := q1.toInt64) hx hb dX3_point_53 rfl ?_
        refine lv_iload_n hx hb dX3_point_54 rfl (lv_at hl 3 rfl) ?_
        refine lv_i2l (v := q2.toInt64) hx hb dX3_point_55 rfl ?_
        obtain ⟨r10, h11, h⟩ := bind_s h
        refine ki (kV (As := [.long q1.toInt64, .long q2.toInt64]) (rest := []) C0 (kX0_passes l D cJ cZ co fo zp zr zh zb zt q1.toInt64 q2.toInt64 r10 h11) gX3_point_X0_passes rfl ⟨rfl, rfl⟩ hdX0_passes ⟨Nat.le_of_ble_eq_true rfl, Nat.le_of_ble_eq_true rfl⟩ 0 0 rfl rfl rfl (hP.sub [4, 5] rfl) hE hl rfl rfl (Nat.le_of_ble_eq_true rfl) dX3_point_56 (Nat.zero_le _) (Nat.zero_le _)) ?_
        refine lv_if_ne (tgt := 64) hx hb dX3_point_59 (by decide) (fun c12 => ?_) (fun c12 => ?_)
        · have h := ite_f c12 h
          refine lv_aload_n hx hb dX3_point_64 rfl (lv_at hl 0 rfl) ?_
          refine va_get (D := D) (ci := 3) (v := .ref so) (C := RX3) (T := TX3) (N := 4) hx hb hts iwX3_point_3 hown hE.1 hP 0 rfl rfl 0 (by decide) (hts _ lkX3_point_2) (fun _ h9 => h9) rfl dX3_point_65 ?_
          refine lv_iload_n hx hb dX3_point_68 rfl (lv_at hl 1 rfl) ?_
          refine lv_iload_n hx hb dX3_point_69 rfl (lv_at hl 2 rfl) ?_
          refine lv_i2l (v := q1.toInt64) hx hb dX3_point_70 rfl ?_
          refine lv_iload_n hx hb dX3_point_71 rfl (lv_at hl 3 rfl) ?_
          refine lv_i2l (v := q2.toInt64) hx hb dX3_point_72 rfl ?_
          obtain ⟨r13, h14, h⟩ := bind_s h
          refine kl (kS (As := [.long q1.toInt64, .long q2.toInt64]) (rest := [.int q0, .ref so]) C0 (kX3_joined l D cJ cZ q1.toInt64 q2.toInt64 r13 h14) gX3_point_X3_joined rfl ⟨rfl, rfl⟩ hdX3_joined ⟨Nat.le_of_ble_eq_true rfl, Nat.le_of_ble_eq_true rfl⟩ (hP.sub [] rfl) hE hl rfl rfl (Nat.le_of_ble_eq_true rfl) dX3_point_73 (Nat.zero_le _) (Nat.zero_le _)) ?_
          obtain ⟨c15, h⟩ := ite_n h
          refine va_last hx hb hE.1 hP hD hS 1 0 rfl rfl c15 dX3_point_76 (fun H locs hP hD hS => ?_)
          have hP : va_P D vwCl [(dk, .inr (3, [.ref so, .ref vo, .ref co, .ref po])), (so, .inl (cJ, 16, .inr (.inl (vp_updL zS q0.toNatClampNeg r13)))), (vo, .inl (cJ, 8, .inr (.inl zV))), (po, .inr (1, [.ref co, .long zp, .long zr])), (co, .inr (0, [.ref fo, .long zp, .long zr, .long zh, .long zb, .int zt])), (fo, .inr (2, [.long zp]))] H := hP
          have hD : va_D A [(dk, .inr (3, [.ref so, .ref vo, .ref co, .ref po])), (so, .inl (cJ, 16, .inr (.inl (vp_updL zS q0.toNatClampNeg r13)))), (vo, .inl (cJ, 8, .inr (.inl zV))), (po, .inr (1, [.ref co, .long zp, .long zr])), (co, .inr (0, [.ref fo, .long zp, .long zr, .long zh, .long zb, .int zt])), (fo, .inr (2, [.long zp]))] := hD
          obtain ⟨w16, ew16, h⟩ := bnd_s h
          rw [← ew16] at hP hD
          refine lv_iconst (v := 1) hx hb dX3_point_77 (by decide) ?_
          cases h
          exact rfI hx hb hr hlocks hP hD hS dX3_point_78
        · have h := ite_t c12 h
          refine lv_iconst (v := (-1)) hx hb dX3_point_62 (by decide) ?_
          cases h
          exact rfI hx hb hr hlocks hP hD hS dX3_point_63
      · have h := ite_t c9 h
        refine lv_bipush (v := (-2)) hx hb dX3_point_45 (by decide) ?_
        cases h
        exact rfI hx hb hr hlocks hP hD hS dX3_point_47
def fX3_nowhere  (zS : Nat → Int64) (q0 : Int32) : Option (Int32 × (Nat → Int64)) :=
  (fX3_isSlot q0).bind fun r1 =>
  if (bI r1) = 0 then
    some ((-2), zS)
  else
    if q0 < 0 ∨ 16 ≤ q0.toNatClampNeg then none else
    bnd (vp_updL zS q0.toNatClampNeg (-1)) fun w5 =>
    some (1, w5)
abbrev rmX3_nowhere : Room := { frames := 1, cells := 0, slots := 0, locals := 20 }
theorem lkX3_nowhere_0 : (.fieldLink RX3 33 "PairingDesk" "curve" "LPairingDesk$Curve;" : Cond) ∈ wsX3_nowhere := by decide +kernel
theorem lkX3_nowhere_1 : (.fieldLink RX3 9 "PairingDesk" "slots" "[J" : Cond) ∈ wsX3_nowhere := by decide +kernel
theorem lkX3_nowhere_2 : (.constantLong RX3 79 (-1) : Cond) ∈ wsX3_nowhere := by decide +kernel
theorem iwX3_nowhere_3 : ∀ w ∈ wsX30, w ∈ wsX3_nowhere := by decide +kernel
theorem hdX3_nowhere : KN yX3_nowhere 1 := by decide +kernel
set_option maxHeartbeats 4000000 in
set_option maxRecDepth 100000 in
theorem kX3_nowhere (l : Launch) (D : va_G) (cJ cZ : ClassId) (dk so vo po co fo : Nat) (zp : Int64) (zr : Int64) (zh : Int64) (zb : Int64) (zt : Int32) (zS : Nat → Int64) (zV : Nat → Int64) (q0 : Int32) (sz : Nat) (rr : Int32) (ozS : Nat → Int64) (h : fX3_nowhere zS q0 = some (rr, ozS)) : Met l yX3_nowhere wsX3_nowhere rmX3_nowhere (PE D cJ cZ [.ref dk, .int q0] [(dk, .inr (3, [.ref so, .ref vo, .ref co, .ref po])), (so, .inl (cJ, 16, .inr (.inl zS))), (vo, .inl (cJ, 8, .inr (.inl zV))), (po, .inr (1, [.ref co, .long zp, .long zr])), (co, .inr (0, [.ref fo, .long zp, .long zr, .long zh, .long zb, .int zt])), (fo, .inr (2, [.long zp]))] sz) (QE D (some (.int rr)) [(dk, .inr (3, [.ref so, .ref vo, .ref co, .ref po])), (so, .inl (cJ, 16, .inr (.inl ozS))), (vo, .inl (cJ, 8, .inr (.inl zV))), (po, .inr (1, [.ref co, .long zp, .long zr])), (co, .inr (0, [.ref fo, .long zp, .long zr, .long zh, .long zb, .int zt])), (fo, .inr (2, [.long zp]))] (va_A [(dk, .inr (3, [.ref so, .ref vo, .ref co, .ref po])), (so, .inl (cJ, 16, .inr (.inl zS))), (vo, .inl (cJ, 8, .inr (.inl zV))), (po, .inr (1, [.ref co, .long zp, .long zr])), (co, .inr (0, [.ref fo, .long zp, .long zr, .long zh, .long zb, .int zt])), (fo, .inr (2, [.long zp]))] sz)) 0 0 (va_A [(dk, .inr (3, [.ref so, .ref vo, .ref co, .ref po])), (so, .inl (cJ, 16, .inr (.inl zS))), (vo, .inl (cJ, 8, .inr (.inl zV))), (po, .inr (1, [.ref co, .long zp, .long zr])), (co, .inr (0, [.ref fo, .long zp, .long zr, .long zh, .long zb, .int zt])), (fo, .inr (2, [.long zp]))] sz) := by
  refine Met.ofW (cc := cX3_nowhere) (maxL := 2) (ret := some .int) (by decide) rfl ?_
  intro pg e s m args below meth c s₁ B hml hv
  obtain ⟨rfl, hsz, hP, hE, hD0⟩ := hv
  have hx := B.exec
  have hb := B.bytes
  have hr := B.returns
  have hlocks := B.notSynchronized
  have C0 : CallFix pg m c cX3_nowhere 2 s ([.ref dk, .int q0] : List Value).toArray wsX3_nowhere RX3 := ⟨hx, hb, hml, findClass_of_methodNamed B.named, atoms_spec (ws := wsX3_nowhere) B.pre⟩
  have hown := C0.2.2.2.1
  have hts := C0.2.2.2.2
  subst hsz
  have hD := hD0.self (sz := s.heap.size)
  generalize hAe : va_A [(dk, .inr (3, [.ref so, .ref vo, .ref co, .ref po])), (so, .inl (cJ, 16, .inr (.inl zS))), (vo, .inl (cJ, 8, .inr (.inl zV))), (po, .inr (1, [.ref co, .long zp, .long zr])), (co, .inr (0, [.ref fo, .long zp, .long zr, .long zh, .long zb, .int zt])), (fo, .inr (2, [.long zp]))] s.heap.size = A at hD ⊢
  have hA : ∀ q : Nat, s.heap.size ≤ q → A q := fun q h => by rw [← hAe]; exact Or.inr h
  have hS : va_S A s.heap s.heap [] := va_S.rf
  have hP : va_P D vwCl [(dk, .inr (3, [.ref so, .ref vo, .ref co, .ref po])), (so, .inl (cJ, 16, .inr (.inl zS))), (vo, .inl (cJ, 8, .inr (.inl zV))), (po, .inr (1, [.ref co, .long zp, .long zr])), (co, .inr (0, [.ref fo, .long zp, .long zr, .long zh, .long zb, .int zt])), (fo, .inr (2, [.long zp]))] s.heap := hP
  have hl := lv_entry ([.ref dk, .int q0]) (n := 2) (Nat.le_of_ble_eq_true rfl)
  rw [lg_entry_eq]
  generalize (lg_sl ([.ref dk, .int q0]) ++ List.replicate (2 - (lg_sl ([.ref dk, .int q0])).length) Slot.unset).toArray = ls at hl ⊢
  have hl : lv_has ls 2 [(0, .ref dk), (1, .int q0)] := hl
  suffices key : ∀ (H : Heap) (locs : List Loc), va_P D vwCl [(dk, .inr (3, [.ref so, .ref vo, .ref co, .ref po])), (so, .inl (cJ, 16, .inr (.inl zS))), (vo, .inl (cJ, 8, .inr (.inl zV))), (po, .inr (1, [.ref co, .long zp, .long zr])), (co, .inr (0, [.ref fo, .long zp, .long zr, .long zh, .long zb, .int zt])), (fo, .inr (2, [.long zp]))] H → va_D A [(dk, .inr (3, [.ref so, .ref vo, .ref co, .ref po])), (so, .inl (cJ, 16, .inr (.inl zS))), (vo, .inl (cJ, 8, .inr (.inl zV))), (po, .inr (1, [.ref co, .long zp, .long zr])), (co, .inr (0, [.ref fo, .long zp, .long zr, .long zh, .long zb, .int zt])), (fo, .inr (2, [.long zp]))] → va_S A s.heap H locs → W pg l e (headSpec wsX3_nowhere rmX3_nowhere).room s m ([.ref dk, .int q0] : List Value).toArray below meth c H locs 0 0 (MQ below (QE D (some (.int rr)) [(dk, .inr (3, [.ref so, .ref vo, .ref co, .ref po])), (so, .inl (cJ, 16, .inr (.inl ozS))), (vo, .inl (cJ, 8, .inr (.inl zV))), (po, .inr (1, [.ref co, .long zp, .long zr])), (co, .inr (0, [.ref fo, .long zp, .long zr, .long zh, .long zb, .int zt])), (fo, .inr (2, [.long zp]))] A) ([.ref dk, .int q0] : List Value).toArray s 0 0 A) (F0 m 0 ls []) from key s.heap [] hP hD hS
  intro H locs hP hD hS
  unfold fX3_nowhere at h
  refine lv_aload_n hx hb dX3_nowhere_0 rfl (lv_at hl 0 rfl) ?_
  refine va_get (D := D) (ci := 3) (v := .ref co) (C := RX3) (T := TX3) (N := 4) hx hb hts iwX3_nowhere_3 hown hE.1 hP 0 rfl rfl 2 (by decide) (hts _ lkX3_nowhere_0) (fun _ h9 => h9) rfl dX3_nowhere_1 ?_
  refine lv_ifnonnull (tgt := 10) hx hb dX3_nowhere_4 (by decide) ?_
  refine lv_iload_n hx hb dX3_nowhere_10 rfl (lv_at hl 1 rfl) ?_
  obtain ⟨r1, h2, h⟩ := bind_s h
  refine ki (kS (As := [.int q0]) (rest := []) C0 (kX3_isSlot l D cJ cZ q0 r1 h2) gX3_nowhere_X3_isSlot rfl ⟨rfl, rfl⟩ hdX3_isSlot ⟨Nat.le_of_ble_eq_true rfl, Nat.le_of_ble_eq_true rfl⟩ (hP.sub [] rfl) hE hl rfl rfl (Nat.le_of_ble_eq_true rfl) dX3_nowhere_11 (Nat.zero_le _) (Nat.zero_le _)) ?_
  refine lv_if_ne (tgt := 20) hx hb dX3_nowhere_14 (by decide) (fun c3 => ?_) (fun c3 => ?_)
  · have h := ite_f c3 h
    refine lv_aload_n hx hb dX3_nowhere_20 rfl (lv_at hl 0 rfl) ?_
    refine va_get (D := D) (ci := 3) (v := .ref so) (C := RX3) (T := TX3) (N := 4) hx hb hts iwX3_nowhere_3 hown hE.1 hP 0 rfl rfl 0 (by decide) (hts _ lkX3_nowhere_1) (fun _ h9 => h9) rfl dX3_nowhere_21 ?_
    refine lv_iload_n hx hb dX3_nowhere_24 rfl (lv_at hl 1 rfl) ?_
    refine lv_ldc2 (v := (-1)) hx hb hown (hts _ lkX3_nowhere_2) dX3_nowhere_25 ?_
    obtain ⟨c4, h⟩ := ite_n h
    refine va_last hx hb hE.1 hP hD hS 1 0 rfl rfl c4 dX3_nowhere_28 (fun H locs hP hD hS => ?_)
    have hP : va_P D vwCl [(dk, .inr (3, [.ref so, .ref vo, .ref co, .ref po])), (so, .inl (cJ, 16, .inr (.inl (vp_updL zS q0.toNatClampNeg (-1))))), (vo, .inl (cJ, 8, .inr (.inl zV))), (po, .inr (1, [.ref co, .long zp, .long zr])), (co, .inr (0, [.ref fo, .long zp, .long zr, .long zh, .long zb, .int zt])), (fo, .inr (2, [.long zp]))] H := hP
    have hD : va_D A [(dk, .inr (3, [.ref so, .ref vo, .ref co, .ref po])), (so, .inl (cJ, 16, .inr (.inl (vp_updL zS q0.toNatClampNeg (-1))))), (vo, .inl (cJ, 8, .inr (.inl zV))), (po, .inr (1, [.ref co, .long zp, .long zr])), (co, .inr (0, [.ref fo, .long zp, .long zr, .long zh, .long zb, .int zt])), (fo, .inr (2, [.long zp]))] := hD
    obtain ⟨w5, ew5, h⟩ := bnd_s h
    rw [← ew5] at hP hD
    refine lv_iconst (v := 1) hx hb dX3_nowhere_29 (by decide) ?_
    cases h
    exact rfI hx hb hr hlocks hP hD hS dX3_nowhere_30
  · have h := ite_t c3 h
    refine lv_bipush (v := (-2)) hx hb dX3_nowhere_17 (by decide) ?_
    cases h
    exact rfI hx hb hr hlocks hP hD hS dX3_nowhere_19
def fX3_turn (N : Nat) (zp : Int64) (zh : Int64) (zt : Int32) (zS : Nat → Int64) (q0 : Int32) (q1 : Int64) : Option (Int32 × Int32 × (Nat → Int64)) :=
  (fX3_isSlot q0).bind fun r1 =>
  if (bI r1) = 0 then
    some ((-2), zt, zS)
  else
    (fX0_turned N zp zh zt q1).bind fun (r4, o5) =>
    if q0 < 0 ∨ 16 ≤ q0.toNatClampNeg then none else
    bnd (vp_updL zS q0.toNatClampNeg r4) fun w8 =>
    some (o5, o5, w8)
abbrev rmX3_turn : Room := { frames := 5, cells := 0, slots := 0, locals := 156 }
theorem lkX3_turn_0 : (.fieldLink RX3 33 "PairingDesk" "curve" "LPairingDesk$Curve;" : Cond) ∈ wsX3_turn := by decide +kernel
theorem lkX3_turn_1 : (.fieldLink RX3 9 "PairingDesk" "slots" "[J" : Cond) ∈ wsX3_turn := by decide +kernel
theorem lkX3_turn_2 : (.fieldLink RX3 84 "PairingDesk$Curve" "tried" "I" : Cond) ∈ wsX3_turn := by decide +kernel
theorem iwX3_turn_0 : ∀ w ∈ wsX00, w ∈ wsX3_turn := by decide +kernel
theorem iwX3_turn_3 : ∀ w ∈ wsX30, w ∈ wsX3_turn := by decide +kernel
theorem hdX3_turn : KN yX3_turn 2 := by decide +kernel
set_option maxHeartbeats 4000000 in
set_option maxRecDepth 100000 in
theorem kX3_turn (l : Launch) (D : va_G) (cJ cZ : ClassId) (dk so vo po co fo : Nat) (N : Nat) (zp : Int64) (zr : Int64) (zh : Int64) (zb : Int64) (zt : Int32) (zS : Nat → Int64) (zV : Nat → Int64) (q0 : Int32) (q1 : Int64) (sz : Nat) (rr : Int32) (ozt : Int32) (ozS : Nat → Int64) (h : fX3_turn N zp zh zt zS q0 q1 = some (rr, ozt, ozS)) : Met l yX3_turn wsX3_turn rmX3_turn (PE D cJ cZ [.ref dk, .int q0, .long q1] [(dk, .inr (3, [.ref so, .ref vo, .ref co, .ref po])), (so, .inl (cJ, 16, .inr (.inl zS))), (vo, .inl (cJ, 8, .inr (.inl zV))), (po, .inr (1, [.ref co, .long zp, .long zr])), (co, .inr (0, [.ref fo, .long zp, .long zr, .long zh, .long zb, .int zt])), (fo, .inr (2, [.long zp]))] sz) (QE D (some (.int rr)) [(dk, .inr (3, [.ref so, .ref vo, .ref co, .ref po])), (so, .inl (cJ, 16, .inr (.inl ozS))), (vo, .inl (cJ, 8, .inr (.inl zV))), (po, .inr (1, [.ref co, .long zp, .long zr])), (co, .inr (0, [.ref fo, .long zp, .long zr, .long zh, .long zb, .int ozt])), (fo, .inr (2, [.long zp]))] (va_A [(dk, .inr (3, [.ref so, .ref vo, .ref co, .ref po])), (so, .inl (cJ, 16, .inr (.inl zS))), (vo, .inl (cJ, 8, .inr (.inl zV))), (po, .inr (1, [.ref co, .long zp, .long zr])), (co, .inr (0, [.ref fo, .long zp, .long zr, .long zh, .long zb, .int zt])), (fo, .inr (2, [.long zp]))] sz)) 0 0 (va_A [(dk, .inr (3, [.ref so, .ref vo, .ref co, .ref po])), (so, .inl (cJ, 16, .inr (.inl zS))), (vo, .inl (cJ, 8, .inr (.inl zV))), (po, .inr (1, [.ref co, .long zp, .long zr])), (co, .inr (0, [.ref fo, .long zp, .long zr, .long zh, .long zb, .int zt])), (fo, .inr (2, [.long zp]))] sz) := by
  refine Met.ofW (cc := cX3_turn) (maxL := 4) (ret := some .int) (by decide) rfl ?_
  intro pg e s m args below meth c s₁ B hml hv
  obtain ⟨rfl, hsz, hP, hE, hD0⟩ := hv
  have hx := B.exec
  have hb := B.bytes
  have hr := B.returns
  have hlocks := B.notSynchronized
  have C0 : CallFix pg m c cX3_turn 4 s ([.ref dk, .int q0, .long q1] : List Value).toArray wsX3_turn RX3 := ⟨hx, hb, hml, findClass_of_methodNamed B.named, atoms_spec (ws := wsX3_turn) B.pre⟩
  have hown := C0.2.2.2.1
  have hts := C0.2.2.2.2
  subst hsz
  have hD := hD0.self (sz := s.heap.size)
  generalize hAe : va_A [(dk, .inr (3, [.ref so, .ref vo, .ref co, .ref po])), (so, .inl (cJ, 16, .inr (.inl zS))), (vo, .inl (cJ, 8, .inr (.inl zV))), (po, .inr (1, [.ref co, .long zp, .long zr])), (co, .inr (0, [.ref fo, .long zp, .long zr, .long zh, .long zb, .int zt])), (fo, .inr (2, [.long zp]))] s.heap.size = A at hD ⊢
  have hA : ∀ q : Nat, s.heap.size ≤ q → A q := fun q h => by rw [← hAe]; exact Or.inr h
  have hS : va_S A s.heap s.heap [] := va_S.rf
  have hP : va_P D vwCl [(dk, .inr (3, [.ref so, .ref vo, .ref co, .ref po])), (so, .inl (cJ, 16, .inr (.inl zS))), (vo, .inl (cJ, 8, .inr (.inl zV))), (po, .inr (1, [.ref co, .long zp, .long zr])), (co, .inr (0, [.ref fo, .long zp, .long zr, .long zh, .long zb, .int zt])), (fo, .inr (2, [.long zp]))] s.heap := hP
  have hl := lv_entry ([.ref dk, .int q0, .long q1]) (n := 4) (Nat.le_of_ble_eq_true rfl)
  rw [lg_entry_eq]
  generalize (lg_sl ([.ref dk, .int q0, .long q1]) ++ List.replicate (4 - (lg_sl ([.ref dk, .int q0, .long q1])).length) Slot.unset).toArray = ls at hl ⊢
  have hl : lv_has ls 4 [(0, .ref dk), (1, .int q0), (2, .long q1)] := hl
  suffices key : ∀ (H : Heap) (locs : List Loc), va_P D vwCl [(dk, .inr (3, [.ref so, .ref vo, .ref co, .ref po])), (so, .inl (cJ, 16, .inr (.inl zS))), (vo, .inl (cJ, 8, .inr (.inl zV))), (po, .inr (1, [.ref co, .long zp, .long zr])), (co, .inr (0, [.ref fo, .long zp, .long zr, .long zh, .long zb, .int zt])), (fo, .inr (2, [.long zp]))] H → va_D A [(dk, .inr (3, [.ref so, .ref vo, .ref co, .ref po])), (so, .inl (cJ, 16, .inr (.inl zS))), (vo, .inl (cJ, 8, .inr (.inl zV))), (po, .inr (1, [.ref co, .long zp, .long zr])), (co, .inr (0, [.ref fo, .long zp, .long zr, .long zh, .long zb, .int zt])), (fo, .inr (2, [.long zp]))] → va_S A s.heap H locs → W pg l e (headSpec wsX3_turn rmX3_turn).room s m ([.ref dk, .int q0, .long q1] : List Value).toArray below meth c H locs 0 0 (MQ below (QE D (some (.int rr)) [(dk, .inr (3, [.ref so, .ref vo, .ref co, .ref po])), (so, .inl (cJ, 16, .inr (.inl ozS))), (vo, .inl (cJ, 8, .inr (.inl zV))), (po, .inr (1, [.ref co, .long zp, .long zr])), (co, .inr (0, [.ref fo, .long zp, .long zr, .long zh, .long zb, .int ozt])), (fo, .inr (2, [.long zp]))] A) ([.ref dk, .int q0, .long q1] : List Value).toArray s 0 0 A) (F0 m 0 ls []) from key s.heap [] hP hD hS
  intro H locs hP hD hS
  unfold fX3_turn at h
  refine lv_aload_n hx hb dX3_turn_0 rfl (lv_at hl 0 rfl) ?_
  refine va_get (D := D) (ci := 3) (v := .ref co) (C := RX3) (T := TX3) (N := 4) hx hb hts iwX3_turn_3 hown hE.1 hP 0 rfl rfl 2 (by decide) (hts _ lkX3_turn_0) (fun _ h9 => h9) rfl dX3_turn_1 ?_
  refine lv_ifnonnull (tgt := 10) hx hb dX3_turn_4 (by decide) ?_
  refine lv_iload_n hx hb dX3_turn_10 rfl (lv_at hl 1 rfl) ?_
  obtain ⟨r1, h2, h⟩ := bind_s h
  refine ki (kS (As := [.int q0]) (rest := []) C0 (kX3_isSlot l D cJ cZ q0 r1 h2) gX3_turn_X3_isSlot rfl ⟨rfl, rfl⟩ hdX3_isSlot ⟨Nat.le_of_ble_eq_true rfl, Nat.le_of_ble_eq_true rfl⟩ (hP.sub [] rfl) hE hl rfl rfl (Nat.le_of_ble_eq_true rfl) dX3_turn_11 (Nat.zero_le _) (Nat.zero_le _)) ?_
  refine lv_if_ne (tgt := 20) hx hb dX3_turn_14 (by decide) (fun c3 => ?_) (fun c3 => ?_)
  · have h := ite_f c3 h
    refine lv_aload_n hx hb dX3_turn_20 rfl (lv_at hl 0 rfl) ?_
    refine va_get (D := D) (ci := 3) (v := .ref so) (C := RX3) (T := TX3) (N := 4) hx hb hts iwX3_turn_3 hown hE.1 hP 0 rfl rfl 0 (by decide) (hts _ lkX3_turn_1) (fun _ h9 => h9) rfl dX3_turn_21 ?_
    refine lv_iload_n hx hb dX3_turn_24 rfl (lv_at hl 1 rfl) ?_
    refine lv_aload_n hx hb dX3_turn_25 rfl (lv_at hl 0 rfl) ?_
    refine va_get (D := D) (ci := 3) (v := .ref co) (C := RX3) (T := TX3) (N := 4) hx hb hts iwX3_turn_3 hown hE.1 hP 0 rfl rfl 2 (by decide) (hts _ lkX3_turn_0) (fun _ h9 => h9) rfl dX3_turn_26 ?_
    refine lv_lload_n hx hb dX3_turn_29 rfl (lv_at hl 2 rfl) ?_
    obtain ⟨⟨r4, o5⟩, h6, h⟩ := bind_s h
    try dsimp only at h
    refine kE (wc := [(co, .inr (0, [.ref fo, .long zp, .long zr, .long zh, .long zb, .int zt])), (fo, .inr (2, [.long zp]))]) (wr := [(dk, .inr (3, [.ref so, .ref vo, .ref co, .ref po])), (so, .inl (cJ, 16, .inr (.inl zS))), (vo, .inl (cJ, 8, .inr (.inl zV))), (po, .inr (1, [.ref co, .long zp, .long zr]))]) [4, 5] [0, 1, 2, 3] hP hD hS hA rfl rfl rfl (by decide) rfl (eV (As := [.long q1]) (rest := [.int q0, .ref so]) C0 (kX0_turned l D cJ cZ co fo N zp zr zh zb zt q1 H.size r4 o5 h6) gX3_turn_X0_turned rfl ⟨rfl, rfl⟩ hdX0_turned ⟨Nat.le_of_ble_eq_true rfl, Nat.le_of_ble_eq_true rfl⟩ 0 0 rfl rfl rfl (hP.sub [4, 5] rfl) (hD.sub [4, 5] rfl rfl) hE hl rfl rfl (Nat.le_of_ble_eq_true rfl) dX3_turn_30 ⟨Nat.zero_le _, Nat.zero_le _⟩) (fun H locs hP hD hS => ?_)
    have hP : va_P D vwCl [(dk, .inr (3, [.ref so, .ref vo, .ref co, .ref po])), (so, .inl (cJ, 16, .inr (.inl zS))), (vo, .inl (cJ, 8, .inr (.inl zV))), (po, .inr (1, [.ref co, .long zp, .long zr])), (co, .inr (0, [.ref fo, .long zp, .long zr, .long zh, .long zb, .int o5])), (fo, .inr (2, [.long zp]))] H := hP.sub [0, 1, 2, 3, 4, 5] rfl
    have hD : va_D A [(dk, .inr (3, [.ref so, .ref vo, .ref co, .ref po])), (so, .inl (cJ, 16, .inr (.inl zS))), (vo, .inl (cJ, 8, .inr (.inl zV))), (po, .inr (1, [.ref co, .long zp, .long zr])), (co, .inr (0, [.ref fo, .long zp, .long zr, .long zh, .long zb, .int o5])), (fo, .inr (2, [.long zp]))] := hD.sub [0, 1, 2, 3, 4, 5] rfl rfl
    obtain ⟨c7, h⟩ := ite_n h
    refine va_last hx hb hE.1 hP hD hS 1 0 rfl rfl c7 dX3_turn_33 (fun H locs hP hD hS => ?_)
    have hP : va_P D vwCl [(dk, .inr (3, [.ref so, .ref vo, .ref co, .ref po])), (so, .inl (cJ, 16, .inr (.inl (vp_updL zS q0.toNatClampNeg r4)))), (vo, .inl (cJ, 8, .inr (.inl zV))), (po, .inr (1, [.ref co, .long zp, .long zr])), (co, .inr (0, [.ref fo, .long zp, .long zr, .long zh, .long zb, .int o5])), (fo, .inr (2, [.long zp]))] H := hP
    have hD : va_D A [(dk, .inr (3, [.ref so, .ref vo, .ref co, .ref po])), (so, .inl (cJ, 16, .inr (.inl (vp_updL zS q0.toNatClampNeg r4)))), (vo, .inl (cJ, 8, .inr (.inl zV))), (po, .inr (1, [.ref co, .long zp, .long zr])), (co, .inr (0, [.ref fo, .long zp, .long zr, .long zh, .long zb, .int o5])), (fo, .inr (2, [.long zp]))] := hD
    obtain ⟨w8, ew8, h⟩ := bnd_s h
    rw [← ew8] at hP hD
    refine lv_aload_n hx hb dX3_turn_34 rfl (lv_at hl 0 rfl) ?_
    refine va_get (D := D) (ci := 3) (v := .ref co) (C := RX3) (T := TX3) (N := 4) hx hb hts iwX3_turn_3 hown hE.1 hP 0 rfl rfl 2 (by decide) (hts _ lkX3_turn_0) (fun _ h9 => h9) rfl dX3_turn_35 ?_
    refine va_get (D := D) (ci := 0) (v := .int o5) (C := RX0) (T := TX0) (N := 6) hx hb hts iwX3_turn_0 hown hE.1 hP 4 rfl rfl 5 (by decide) (hts _ lkX3_turn_2) (fun _ h9 => h9) rfl dX3_turn_38 ?_
    cases h
    exact rfI hx hb hr hlocks hP hD hS dX3_turn_41
  · have h := ite_t c3 h
    refine lv_bipush (v := (-2)) hx hb dX3_turn_17 (by decide) ?_
    cases h
    exact rfI hx hb hr hlocks hP hD hS dX3_turn_19
def fX3_add (N : Nat) (zp : Int64) (zS : Nat → Int64) (q0 : Int32) (q1 : Int32) (q2 : Int32) : Option (Int32 × (Nat → Int64)) :=
  (fX3_isSlot q0).bind fun r1 =>
  if (bI r1) = 0 then
    some ((-2), zS)
  else
    (fX3_isSlot q1).bind fun r4 =>
    if (bI r4) = 0 then
      some ((-2), zS)
    else
      (fX3_isSlot q2).bind fun r7 =>
      if (bI r7) = 0 then
        some ((-2), zS)
      else
        if q1 < 0 ∨ 16 ≤ q1.toNatClampNeg then none else
        if q2 < 0 ∨ 16 ≤ q2.toNatClampNeg then none else
        (fX0_sum N zp (zS q1.toNatClampNeg) (zS q2.toNatClampNeg)).bind fun r12 =>
        if q0 < 0 ∨ 16 ≤ q0.toNatClampNeg then none else
        bnd (vp_updL zS q0.toNatClampNeg r12) fun w15 =>
        if (w15 q0.toNatClampNeg) = (-1) then
          some (0, w15)
        else
          some (1, w15)
abbrev rmX3_add : Room := { frames := 3, cells := 0, slots := 0, locals := 97 }
theorem lkX3_add_0 : (.fieldLink RX3 33 "PairingDesk" "curve" "LPairingDesk$Curve;" : Cond) ∈ wsX3_add := by decide +kernel
theorem lkX3_add_1 : (.fieldLink RX3 9 "PairingDesk" "slots" "[J" : Cond) ∈ wsX3_add := by decide +kernel
theorem lkX3_add_2 : (.constantLong RX3 79 (-1) : Cond) ∈ wsX3_add := by decide +kernel
theorem iwX3_add_3 : ∀ w ∈ wsX30, w ∈ wsX3_add := by decide +kernel
theorem hdX3_add : KN yX3_add 3 := by decide +kernel
set_option maxHeartbeats 4000000 in
set_option maxRecDepth 100000 in
theorem kX3_add (l : Launch) (D : va_G) (cJ cZ : ClassId) (dk so vo po co fo : Nat) (N : Nat) (zp : Int64) (zr : Int64) (zh : Int64) (zb : Int64) (zt : Int32) (zS : Nat → Int64) (zV : Nat → Int64) (q0 : Int32) (q1 : Int32) (q2 : Int32) (sz : Nat) (rr : Int32) (ozS : Nat → Int64) (h : fX3_add N zp zS q0 q1 q2 = some (rr, ozS)) : Met l yX3_add wsX3_add rmX3_add (PE D cJ cZ [.ref dk, .int q0, .int q1, .int q2] [(dk, .inr (3, [.ref so, .ref vo, .ref co, .ref po])), (so, .inl (cJ, 16, .inr (.inl zS))), (vo, .inl (cJ, 8, .inr (.inl zV))), (po, .inr (1, [.ref co, .long zp, .long zr])), (co, .inr (0, [.ref fo, .long zp, .long zr, .long zh, .long zb, .int zt])), (fo, .inr (2, [.long zp]))] sz) (QE D (some (.int rr)) [(dk, .inr (3, [.ref so, .ref vo, .ref co, .ref po])), (so, .inl (cJ, 16, .inr (.inl ozS))), (vo, .inl (cJ, 8, .inr (.inl zV))), (po, .inr (1, [.ref co, .long zp, .long zr])), (co, .inr (0, [.ref fo, .long zp, .long zr, .long zh, .long zb, .int zt])), (fo, .inr (2, [.long zp]))] (va_A [(dk, .inr (3, [.ref so, .ref vo, .ref co, .ref po])), (so, .inl (cJ, 16, .inr (.inl zS))), (vo, .inl (cJ, 8, .inr (.inl zV))), (po, .inr (1, [.ref co, .long zp, .long zr])), (co, .inr (0, [.ref fo, .long zp, .long zr, .long zh, .long zb, .int zt])), (fo, .inr (2, [.long zp]))] sz)) 0 0 (va_A [(dk, .inr (3, [.ref so, .ref vo, .ref co, .ref po])), (so, .inl (cJ, 16, .inr (.inl zS))), (vo, .inl (cJ, 8, .inr (.inl zV))), (po, .inr (1, [.ref co, .long zp, .long zr])), (co, .inr (0, [.ref fo, .long zp, .long zr, .long zh, .long zb, .int zt])), (fo, .inr (2, [.long zp]))] sz) := by
  refine Met.ofW (cc := cX3_add) (maxL := 4) (ret := some .int) (by decide) rfl ?_
  intro pg e s m args below meth c s₁ B hml hv
  obtain ⟨rfl, hsz, hP, hE, hD0⟩ := hv
  have hx := B.exec
  have hb := B.bytes
  have hr := B.returns
  have hlocks := B.notSynchronized
  have C0 : CallFix pg m c cX3_add 4 s ([.ref dk, .int q0, .int q1, .int q2] : List Value).toArray wsX3_add RX3 := ⟨hx, hb, hml, findClass_of_methodNamed B.named, atoms_spec (ws := wsX3_add) B.pre⟩
  have hown := C0.2.2.2.1
  have hts := C0.2.2.2.2
  subst hsz
  have hD := hD0.self (sz := s.heap.size)
  generalize hAe : va_A [(dk, .inr (3, [.ref so, .ref vo, .ref co, .ref po])), (so, .inl (cJ, 16, .inr (.inl zS))), (vo, .inl (cJ, 8, .inr (.inl zV))), (po, .inr (1, [.ref co, .long zp, .long zr])), (co, .inr (0, [.ref fo, .long zp, .long zr, .long zh, .long zb, .int zt])), (fo, .inr (2, [.long zp]))] s.heap.size = A at hD ⊢
  have hA : ∀ q : Nat, s.heap.size ≤ q → A q := fun q h => by rw [← hAe]; exact Or.inr h
  have hS : va_S A s.heap s.heap [] := va_S.rf
  have hP : va_P D vwCl [(dk, .inr (3, [.ref so, .ref vo, .ref co, .ref po])), (so, .inl (cJ, 16, .inr (.inl zS))), (vo, .inl (cJ, 8, .inr (.inl zV))), (po, .inr (1, [.ref co, .long zp, .long zr])), (co, .inr (0, [.ref fo, .long zp, .long zr, .long zh, .long zb, .int zt])), (fo, .inr (2, [.long zp]))] s.heap := hP
  have hl := lv_entry ([.ref dk, .int q0, .int q1, .int q2]) (n := 4) (Nat.le_of_ble_eq_true rfl)
  rw [lg_entry_eq]
  generalize (lg_sl ([.ref dk, .int q0, .int q1, .int q2]) ++ List.replicate (4 - (lg_sl ([.ref dk, .int q0, .int q1, .int q2])).length) Slot.unset).toArray = ls at hl ⊢
  have hl : lv_has ls 4 [(0, .ref dk), (1, .int q0), (2, .int q1), (3, .int q2)] := hl
  suffices key : ∀ (H : Heap) (locs : List Loc), va_P D vwCl [(dk, .inr (3, [.ref so, .ref vo, .ref co, .ref po])), (so, .inl (cJ, 16, .inr (.inl zS))), (vo, .inl (cJ, 8, .inr (.inl zV))), (po, .inr (1, [.ref co, .long zp, .long zr])), (co, .inr (0, [.ref fo, .long zp, .long zr, .long zh, .long zb, .int zt])), (fo, .inr (2, [.long zp]))] H → va_D A [(dk, .inr (3, [.ref so, .ref vo, .ref co, .ref po])), (so, .inl (cJ, 16, .inr (.inl zS))), (vo, .inl (cJ, 8, .inr (.inl zV))), (po, .inr (1, [.ref co, .long zp, .long zr])), (co, .inr (0, [.ref fo, .long zp, .long zr, .long zh, .long zb, .int zt])), (fo, .inr (2, [.long zp]))] → va_S A s.heap H locs → W pg l e (headSpec wsX3_add rmX3_add).room s m ([.ref dk, .int q0, .int q1, .int q2] : List Value).toArray below meth c H locs 0 0 (MQ below (QE D (some (.int rr)) [(dk, .inr (3, [.ref so, .ref vo, .ref co, .ref po])), (so, .inl (cJ, 16, .inr (.inl ozS))), (vo, .inl (cJ, 8, .inr (.inl zV))), (po, .inr (1, [.ref co, .long zp, .long zr])), (co, .inr (0, [.ref fo, .long zp, .long zr, .long zh, .long zb, .int zt])), (fo, .inr (2, [.long zp]))] A) ([.ref dk, .int q0, .int q1, .int q2] : List Value).toArray s 0 0 A) (F0 m 0 ls []) from key s.heap [] hP hD hS
  intro H locs hP hD hS
  unfold fX3_add at h
  refine lv_aload_n hx hb dX3_add_0 rfl (lv_at hl 0 rfl) ?_
  refine va_get (D := D) (ci := 3) (v := .ref co) (C := RX3) (T := TX3) (N := 4) hx hb hts iwX3_add_3 hown hE.1 hP 0 rfl rfl 2 (by decide) (hts _ lkX3_add_0) (fun _ h9 => h9) rfl dX3_add_1 ?_
  refine lv_ifnonnull (tgt := 10) hx hb dX3_add_4 (by decide) ?_
  refine lv_iload_n hx hb dX3_add_10 rfl (lv_at hl 1 rfl) ?_
  obtain ⟨r1, h2, h⟩ := bind_s h
  refine ki (kS (As := [.int q0]) (rest := []) C0 (kX3_isSlot l D cJ cZ q0 r1 h2) gX3_add_X3_isSlot rfl ⟨rfl, rfl⟩ hdX3_isSlot ⟨Nat.le_of_ble_eq_true rfl, Nat.le_of_ble_eq_true rfl⟩ (hP.sub [] rfl) hE hl rfl rfl (Nat.le_of_ble_eq_true rfl) dX3_add_11 (Nat.zero_le _) (Nat.zero_le _)) ?_
  refine lv_if_eq (tgt := 31) hx hb dX3_add_14 (by decide) (fun c3 => ?_) (fun c3 => ?_)
  · have h := ite_t c3 h
    refine lv_bipush (v := (-2)) hx hb dX3_add_31 (by decide) ?_
    cases h
    exact rfI hx hb hr hlocks hP hD hS dX3_add_33
  · have h := ite_f c3 h
    refine lv_iload_n hx hb dX3_add_17 rfl (lv_at hl 2 rfl) ?_
    obtain ⟨r4, h5, h⟩ := bind_s h
    refine ki (kS (As := [.int q1]) (rest := []) C0 (kX3_isSlot l D cJ cZ q1 r4 h5) gX3_add_X3_isSlot rfl ⟨rfl, rfl⟩ hdX3_isSlot ⟨Nat.le_of_ble_eq_true rfl, Nat.le_of_ble_eq_true rfl⟩ (hP.sub [] rfl) hE hl rfl rfl (Nat.le_of_ble_eq_true rfl) dX3_add_18 (Nat.zero_le _) (Nat.zero_le _)) ?_
    refine lv_if_eq (tgt := 31) hx hb dX3_add_21 (by decide) (fun c6 => ?_) (fun c6 => ?_)
    · have h := ite_t c6 h
      refine lv_bipush (v := (-2)) hx hb dX3_add_31 (by decide) ?_
      cases h
      exact rfI hx hb hr hlocks hP hD hS dX3_add_33
    · have h := ite_f c6 h
      refine lv_iload_n hx hb dX3_add_24 rfl (lv_at hl 3 rfl) ?_
      obtain ⟨r7, h8, h⟩ := bind_s h
      refine ki (kS (As := [.int q2]) (rest := []) C0 (kX3_isSlot l D cJ cZ q2 r7 h8) gX3_add_X3_isSlot rfl ⟨rfl, rfl⟩ hdX3_isSlot ⟨Nat.le_of_ble_eq_true rfl, Nat.le_of_ble_eq_true rfl⟩ (hP.sub [] rfl) hE hl rfl rfl (Nat.le_of_ble_eq_true rfl) dX3_add_25 (Nat.zero_le _) (Nat.zero_le _)) ?_
      refine lv_if_ne (tgt := 34) hx hb dX3_add_28 (by decide) (fun c9 => ?_) (fun c9 => ?_)
      · have h := ite_f c9 h
        refine lv_aload_n hx hb dX3_add_34 rfl (lv_at hl 0 rfl) ?_
        refine va_get (D := D) (ci := 3) (v := .ref so) (C := RX3) (T := TX3) (N := 4) hx hb hts iwX3_add_3 hown hE.1 hP 0 rfl rfl 0 (by decide) (hts _ lkX3_add_1) (fun _ h9 => h9) rfl dX3_add_35 ?_
        refine lv_iload_n hx hb dX3_add_38 rfl (lv_at hl 1 rfl) ?_
        refine lv_aload_n hx hb dX3_add_39 rfl (lv_at hl 0 rfl) ?_
        refine va_get (D := D) (ci := 3) (v := .ref co) (C := RX3) (T := TX3) (N := 4) hx hb hts iwX3_add_3 hown hE.1 hP 0 rfl rfl 2 (by decide) (hts _ lkX3_add_0) (fun _ h9 => h9) rfl dX3_add_40 ?_
        refine lv_aload_n hx hb dX3_add_43 rfl (lv_at hl 0 rfl) ?_
        refine va_get (D := D) (ci := 3) (v := .ref so) (C := RX3) (T := TX3) (N := 4) hx hb hts iwX3_add_3 hown hE.1 hP 0 rfl rfl 0 (by decide) (hts _ lkX3_add_1) (fun _ h9 => h9) rfl dX3_add_44 ?_
        refine lv_iload_n hx hb dX3_add_47 rfl (lv_at hl 2 rfl) ?_
        obtain ⟨c10, h⟩ := ite_n h
        refine va_lald hx hb hE.1 hP 1 0 rfl rfl c10 dX3_add_48 ?_
        refine lv_aload_n hx hb dX3_add_49 rfl (lv_at hl 0 rfl) ?_
        refine va_get (D := D) (ci := 3) (v := .ref so) (C := RX3) (T := TX3) (N := 4) hx hb hts iwX3_add_3 hown hE.1 hP 0 rfl rfl 0 (by decide) (hts _ lkX3_add_1) (fun _ h9 => h9) rfl dX3_add_50 ?_
        refine lv_iload_n hx hb dX3_add_53 rfl (lv_at hl 3 rfl) ?_
        obtain ⟨c11, h⟩ := ite_n h
        refine va_lald hx hb hE.1 hP 1 0 rfl rfl c11 dX3_add_54 ?_
        obtain ⟨r12, h13, h⟩ := bind_s h
        refine kl (kV (As := [.long (zS q1.toNatClampNeg), .long (zS q2.toNatClampNeg)]) (rest := [.int q0, .ref so]) C0 (kX0_sum l D cJ cZ co fo N zp zr zh zb zt (zS q1.toNatClampNeg) (zS q2.toNatClampNeg) r12 h13) gX3_add_X0_sum rfl ⟨rfl, rfl⟩ hdX0_sum ⟨Nat.le_of_ble_eq_true rfl, Nat.le_of_ble_eq_true rfl⟩ 0 0 rfl rfl rfl (hP.sub [4, 5] rfl) hE hl rfl rfl (Nat.le_of_ble_eq_true rfl) dX3_add_55 (Nat.zero_le _) (Nat.zero_le _)) ?_
        obtain ⟨c14, h⟩ := ite_n h
        refine va_last hx hb hE.1 hP hD hS 1 0 rfl rfl c14 dX3_add_58 (fun H locs hP hD hS => ?_)
        have hP : va_P D vwCl [(dk, .inr (3, [.ref so, .ref vo, .ref co, .ref po])), (so, .inl (cJ, 16, .inr (.inl (vp_updL zS q0.toNatClampNeg r12)))), (vo, .inl (cJ, 8, .inr (.inl zV))), (po, .inr (1, [.ref co, .long zp, .long zr])), (co, .inr (0, [.ref fo, .long zp, .long zr, .long zh, .long zb, .int zt])), (fo, .inr (2, [.long zp]))] H := hP
        have hD : va_D A [(dk, .inr (3, [.ref so, .ref vo, .ref co, .ref po])), (so, .inl (cJ, 16, .inr (.inl (vp_updL zS q0.toNatClampNeg r12)))), (vo, .inl (cJ, 8, .inr (.inl zV))), (po, .inr (1, [.ref co, .long zp, .long zr])), (co, .inr (0, [.ref fo, .long zp, .long zr, .long zh, .long zb, .int zt])), (fo, .inr (2, [.long zp]))] := hD
        obtain ⟨w15, ew15, h⟩ := bnd_s h
        rw [← ew15] at hP hD
        refine lv_aload_n hx hb dX3_add_59 rfl (lv_at hl 0 rfl) ?_
        refine va_get (D := D) (ci := 3) (v := .ref so) (C := RX3) (T := TX3) (N := 4) hx hb hts iwX3_add_3 hown hE.1 hP 0 rfl rfl 0 (by decide) (hts _ lkX3_add_1) (fun _ h9 => h9) rfl dX3_add_60 ?_
        refine lv_iload_n hx hb dX3_add_63 rfl (lv_at hl 1 rfl) ?_
        refine va_lald hx hb hE.1 hP 1 0 rfl rfl c14 dX3_add_64 ?_
        refine lv_ldc2 (v := (-1)) hx hb hown (hts _ lkX3_add_2) dX3_add_65 ?_
        refine lc_ne (tgt := 76) hx hb dX3_add_68 dX3_add_69 (by decide) (fun c16 => ?_) (fun c16 => ?_)
        · have h := ite_f c16 h
          refine lv_iconst (v := 1) hx hb dX3_add_76 (by decide) ?_
          cases h
          exact rfI hx hb hr hlocks hP hD hS dX3_add_77
        · have h := ite_t c16 h
          refine lv_iconst (v := 0) hx hb dX3_add_72 (by decide) ?_
          refine lv_goto (tgt := 77) hx hb dX3_add_73 (by decide) ?_
          cases h
          exact rfI hx hb hr hlocks hP hD hS dX3_add_77
      · have h := ite_t c9 h
        refine lv_bipush (v := (-2)) hx hb dX3_add_31 (by decide) ?_
        cases h
        exact rfI hx hb hr hlocks hP hD hS dX3_add_33
def fX3_times (N : Nat) (zp : Int64) (zS : Nat → Int64) (q0 : Int32) (q1 : Int32) (q2 : Int64) : Option (Int32 × (Nat → Int64)) :=
  (fX3_isSlot q0).bind fun r1 =>
  if (bI r1) = 0 then
    some ((-2), zS)
  else
    (fX3_isSlot q1).bind fun r4 =>
    if (bI r4) = 0 then
      some ((-2), zS)
    else
      if q1 < 0 ∨ 16 ≤ q1.toNatClampNeg then none else
      (fX0_multiple N zp q2 (zS q1.toNatClampNeg)).bind fun r8 =>
      if q0 < 0 ∨ 16 ≤ q0.toNatClampNeg then none else
      bnd (vp_updL zS q0.toNatClampNeg r8) fun w11 =>
      if (w11 q0.toNatClampNeg) = (-1) then
        some (0, w11)
      else
        some (1, w11)
abbrev rmX3_times : Room := { frames := 4, cells := 0, slots := 0, locals := 127 }
theorem lkX3_times_0 : (.fieldLink RX3 33 "PairingDesk" "curve" "LPairingDesk$Curve;" : Cond) ∈ wsX3_times := by decide +kernel
theorem lkX3_times_1 : (.fieldLink RX3 9 "PairingDesk" "slots" "[J" : Cond) ∈ wsX3_times := by decide +kernel
theorem lkX3_times_2 : (.constantLong RX3 79 (-1) : Cond) ∈ wsX3_times := by decide +kernel
theorem iwX3_times_3 : ∀ w ∈ wsX30, w ∈ wsX3_times := by decide +kernel
theorem hdX3_times : KN yX3_times 3 := by decide +kernel
set_option maxHeartbeats 4000000 in
set_option maxRecDepth 100000 in
theorem kX3_times (l : Launch) (D : va_G) (cJ cZ : ClassId) (dk so vo po co fo : Nat) (N : Nat) (zp : Int64) (zr : Int64) (zh : Int64) (zb : Int64) (zt : Int32) (zS : Nat → Int64) (zV : Nat → Int64) (q0 : Int32) (q1 : Int32) (q2 : Int64) (sz : Nat) (rr : Int32) (ozS : Nat → Int64) (h : fX3_times N zp zS q0 q1 q2 = some (rr, ozS)) : Met l yX3_times wsX3_times rmX3_times (PE D cJ cZ [.ref dk, .int q0, .int q1, .long q2] [(dk, .inr (3, [.ref so, .ref vo, .ref co, .ref po])), (so, .inl (cJ, 16, .inr (.inl zS))), (vo, .inl (cJ, 8, .inr (.inl zV))), (po, .inr (1, [.ref co, .long zp, .long zr])), (co, .inr (0, [.ref fo, .long zp, .long zr, .long zh, .long zb, .int zt])), (fo, .inr (2, [.long zp]))] sz) (QE D (some (.int rr)) [(dk, .inr (3, [.ref so, .ref vo, .ref co, .ref po])), (so, .inl (cJ, 16, .inr (.inl ozS))), (vo, .inl (cJ, 8, .inr (.inl zV))), (po, .inr (1, [.ref co, .long zp, .long zr])), (co, .inr (0, [.ref fo, .long zp, .long zr, .long zh, .long zb, .int zt])), (fo, .inr (2, [.long zp]))] (va_A [(dk, .inr (3, [.ref so, .ref vo, .ref co, .ref po])), (so, .inl (cJ, 16, .inr (.inl zS))), (vo, .inl (cJ, 8, .inr (.inl zV))), (po, .inr (1, [.ref co, .long zp, .long zr])), (co, .inr (0, [.ref fo, .long zp, .long zr, .long zh, .long zb, .int zt])), (fo, .inr (2, [.long zp]))] sz)) 0 0 (va_A [(dk, .inr (3, [.ref so, .ref vo, .ref co, .ref po])), (so, .inl (cJ, 16, .inr (.inl zS))), (vo, .inl (cJ, 8, .inr (.inl zV))), (po, .inr (1, [.ref co, .long zp, .long zr])), (co, .inr (0, [.ref fo, .long zp, .long zr, .long zh, .long zb, .int zt])), (fo, .inr (2, [.long zp]))] sz) := by
  refine Met.ofW (cc := cX3_times) (maxL := 5) (ret := some .int) (by decide) rfl ?_
  intro pg e s m args below meth c s₁ B hml hv
  obtain ⟨rfl, hsz, hP, hE, hD0⟩ := hv
  have hx := B.exec
  have hb := B.bytes
  have hr := B.returns
  have hlocks := B.notSynchronized
  have C0 : CallFix pg m c cX3_times 5 s ([.ref dk, .int q0, .int q1, .long q2] : List Value).toArray wsX3_times RX3 := ⟨hx, hb, hml, findClass_of_methodNamed B.named, atoms_spec (ws := wsX3_times) B.pre⟩
  have hown := C0.2.2.2.1
  have hts := C0.2.2.2.2
  subst hsz
  have hD := hD0.self (sz := s.heap.size)
  generalize hAe : va_A [(dk, .inr (3, [.ref so, .ref vo, .ref co, .ref po])), (so, .inl (cJ, 16, .inr (.inl zS))), (vo, .inl (cJ, 8, .inr (.inl zV))), (po, .inr (1, [.ref co, .long zp, .long zr])), (co, .inr (0, [.ref fo, .long zp, .long zr, .long zh, .long zb, .int zt])), (fo, .inr (2, [.long zp]))] s.heap.size = A at hD ⊢
  have hA : ∀ q : Nat, s.heap.size ≤ q → A q := fun q h => by rw [← hAe]; exact Or.inr h
  have hS : va_S A s.heap s.heap [] := va_S.rf
  have hP : va_P D vwCl [(dk, .inr (3, [.ref so, .ref vo, .ref co, .ref po])), (so, .inl (cJ, 16, .inr (.inl zS))), (vo, .inl (cJ, 8, .inr (.inl zV))), (po, .inr (1, [.ref co, .long zp, .long zr])), (co, .inr (0, [.ref fo, .long zp, .long zr, .long zh, .long zb, .int zt])), (fo, .inr (2, [.long zp]))] s.heap := hP
  have hl := lv_entry ([.ref dk, .int q0, .int q1, .long q2]) (n := 5) (Nat.le_of_ble_eq_true rfl)
  rw [lg_entry_eq]
  generalize (lg_sl ([.ref dk, .int q0, .int q1, .long q2]) ++ List.replicate (5 - (lg_sl ([.ref dk, .int q0, .int q1, .long q2])).length) Slot.unset).toArray = ls at hl ⊢
  have hl : lv_has ls 5 [(0, .ref dk), (1, .int q0), (2, .int q1), (3, .long q2)] := hl
  suffices key : ∀ (H : Heap) (locs : List Loc), va_P D vwCl [(dk, .inr (3, [.ref so, .ref vo, .ref co, .ref po])), (so, .inl (cJ, 16, .inr (.inl zS))), (vo, .inl (cJ, 8, .inr (.inl zV))), (po, .inr (1, [.ref co, .long zp, .long zr])), (co, .inr (0, [.ref fo, .long zp, .long zr, .long zh, .long zb, .int zt])), (fo, .inr (2, [.long zp]))] H → va_D A [(dk, .inr (3, [.ref so, .ref vo, .ref co, .ref po])), (so, .inl (cJ, 16, .inr (.inl zS))), (vo, .inl (cJ, 8, .inr (.inl zV))), (po, .inr (1, [.ref co, .long zp, .long zr])), (co, .inr (0, [.ref fo, .long zp, .long zr, .long zh, .long zb, .int zt])), (fo, .inr (2, [.long zp]))] → va_S A s.heap H locs → W pg l e (headSpec wsX3_times rmX3_times).room s m ([.ref dk, .int q0, .int q1, .long q2] : List Value).toArray below meth c H locs 0 0 (MQ below (QE D (some (.int rr)) [(dk, .inr (3, [.ref so, .ref vo, .ref co, .ref po])), (so, .inl (cJ, 16, .inr (.inl ozS))), (vo, .inl (cJ, 8, .inr (.inl zV))), (po, .inr (1, [.ref co, .long zp, .long zr])), (co, .inr (0, [.ref fo, .long zp, .long zr, .long zh, .long zb, .int zt])), (fo, .inr (2, [.long zp]))] A) ([.ref dk, .int q0, .int q1, .long q2] : List Value).toArray s 0 0 A) (F0 m 0 ls []) from key s.heap [] hP hD hS
  intro H locs hP hD hS
  unfold fX3_times at h
  refine lv_aload_n hx hb dX3_times_0 rfl (lv_at hl 0 rfl) ?_
  refine va_get (D := D) (ci := 3) (v := .ref co) (C := RX3) (T := TX3) (N := 4) hx hb hts iwX3_times_3 hown hE.1 hP 0 rfl rfl 2 (by decide) (hts _ lkX3_times_0) (fun _ h9 => h9) rfl dX3_times_1 ?_
  refine lv_ifnonnull (tgt := 10) hx hb dX3_times_4 (by decide) ?_
  refine lv_iload_n hx hb dX3_times_10 rfl (lv_at hl 1 rfl) ?_
  obtain ⟨r1, h2, h⟩ := bind_s h
  refine ki (kS (As := [.int q0]) (rest := []) C0 (kX3_isSlot l D cJ cZ q0 r1 h2) gX3_times_X3_isSlot rfl ⟨rfl, rfl⟩ hdX3_isSlot ⟨Nat.le_of_ble_eq_true rfl, Nat.le_of_ble_eq_true rfl⟩ (hP.sub [] rfl) hE hl rfl rfl (Nat.le_of_ble_eq_true rfl) dX3_times_11 (Nat.zero_le _) (Nat.zero_le _)) ?_
  refine lv_if_eq (tgt := 24) hx hb dX3_times_14 (by decide) (fun c3 => ?_) (fun c3 => ?_)
  · have h := ite_t c3 h
    refine lv_bipush (v := (-2)) hx hb dX3_times_24 (by decide) ?_
    cases h
    exact rfI hx hb hr hlocks hP hD hS dX3_times_26
  · have h := ite_f c3 h
    refine lv_iload_n hx hb dX3_times_17 rfl (lv_at hl 2 rfl) ?_
    obtain ⟨r4, h5, h⟩ := bind_s h
    refine ki (kS (As := [.int q1]) (rest := []) C0 (kX3_isSlot l D cJ cZ q1 r4 h5) gX3_times_X3_isSlot rfl ⟨rfl, rfl⟩ hdX3_isSlot ⟨Nat.le_of_ble_eq_true rfl, Nat.le_of_ble_eq_true rfl⟩ (hP.sub [] rfl) hE hl rfl rfl (Nat.le_of_ble_eq_true rfl) dX3_times_18 (Nat.zero_le _) (Nat.zero_le _)) ?_
    refine lv_if_ne (tgt := 27) hx hb dX3_times_21 (by decide) (fun c6 => ?_) (fun c6 => ?_)
    · have h := ite_f c6 h
      refine lv_aload_n hx hb dX3_times_27 rfl (lv_at hl 0 rfl) ?_
      refine va_get (D := D) (ci := 3) (v := .ref so) (C := RX3) (T := TX3) (N := 4) hx hb hts iwX3_times_3 hown hE.1 hP 0 rfl rfl 0 (by decide) (hts _ lkX3_times_1) (fun _ h9 => h9) rfl dX3_times_28 ?_
      refine lv_iload_n hx hb dX3_times_31 rfl (lv_at hl 1 rfl) ?_
      refine lv_aload_n hx hb dX3_times_32 rfl (lv_at hl 0 rfl) ?_
      refine va_get (D := D) (ci := 3) (v := .ref co) (C := RX3) (T := TX3) (N := 4) hx hb hts iwX3_times_3 hown hE.1 hP 0 rfl rfl 2 (by decide) (hts _ lkX3_times_0) (fun _ h9 => h9) rfl dX3_times_33 ?_
      refine lv_lload_n hx hb dX3_times_36 rfl (lv_at hl 3 rfl) ?_
      refine lv_aload_n hx hb dX3_times_37 rfl (lv_at hl 0 rfl) ?_
      refine va_get (D := D) (ci := 3) (v := .ref so) (C := RX3) (T := TX3) (N := 4) hx hb hts iwX3_times_3 hown hE.1 hP 0 rfl rfl 0 (by decide) (hts _ lkX3_times_1) (fun _ h9 => h9) rfl dX3_times_38 ?_
      refine lv_iload_n hx hb dX3_times_41 rfl (lv_at hl 2 rfl) ?_
      obtain ⟨c7, h⟩ := ite_n h
      refine va_lald hx hb hE.1 hP 1 0 rfl rfl c7 dX3_times_42 ?_
      obtain ⟨r8, h9, h⟩ := bind_s h
      refine kl (kV (As := [.long q2, .long (zS q1.toNatClampNeg)]) (rest := [.int q0, .ref so]) C0 (kX0_multiple l D cJ cZ co fo N zp zr zh zb zt q2 (zS q1.toNatClampNeg) r8 h9) gX3_times_X0_multiple rfl ⟨rfl, rfl⟩ hdX0_multiple ⟨Nat.le_of_ble_eq_true rfl, Nat.le_of_ble_eq_true rfl⟩ 0 0 rfl rfl rfl (hP.sub [4, 5] rfl) hE hl rfl rfl (Nat.le_of_ble_eq_true rfl) dX3_times_43 (Nat.zero_le _) (Nat.zero_le _)) ?_
      obtain ⟨c10, h⟩ := ite_n h
      refine va_last hx hb hE.1 hP hD hS 1 0 rfl rfl c10 dX3_times_46 (fun H locs hP hD hS => ?_)
      have hP : va_P D vwCl [(dk, .inr (3, [.ref so, .ref vo, .ref co, .ref po])), (so, .inl (cJ, 16, .inr (.inl (vp_updL zS q0.toNatClampNeg r8)))), (vo, .inl (cJ, 8, .inr (.inl zV))), (po, .inr (1, [.ref co, .long zp, .long zr])), (co, .inr (0, [.ref fo, .long zp, .long zr, .long zh, .long zb, .int zt])), (fo, .inr (2, [.long zp]))] H := hP
      have hD : va_D A [(dk, .inr (3, [.ref so, .ref vo, .ref co, .ref po])), (so, .inl (cJ, 16, .inr (.inl (vp_updL zS q0.toNatClampNeg r8)))), (vo, .inl (cJ, 8, .inr (.inl zV))), (po, .inr (1, [.ref co, .long zp, .long zr])), (co, .inr (0, [.ref fo, .long zp, .long zr, .long zh, .long zb, .int zt])), (fo, .inr (2, [.long zp]))] := hD
      obtain ⟨w11, ew11, h⟩ := bnd_s h
      rw [← ew11] at hP hD
      refine lv_aload_n hx hb dX3_times_47 rfl (lv_at hl 0 rfl) ?_
      refine va_get (D := D) (ci := 3) (v := .ref so) (C := RX3) (T := TX3) (N := 4) hx hb hts iwX3_times_3 hown hE.1 hP 0 rfl rfl 0 (by decide) (hts _ lkX3_times_1) (fun _ h9 => h9) rfl dX3_times_48 ?_
      refine lv_iload_n hx hb dX3_times_51 rfl (lv_at hl 1 rfl) ?_
      refine va_lald hx hb hE.1 hP 1 0 rfl rfl c10 dX3_times_52 ?_
      refine lv_ldc2 (v := (-1)) hx hb hown (hts _ lkX3_times_2) dX3_times_53 ?_
      refine lc_ne (tgt := 64) hx hb dX3_times_56 dX3_times_57 (by decide) (fun c12 => ?_) (fun c12 => ?_)
      · have h := ite_f c12 h
        refine lv_iconst (v := 1) hx hb dX3_times_64 (by decide) ?_
        cases h
        exact rfI hx hb hr hlocks hP hD hS dX3_times_65
      · have h := ite_t c12 h
        refine lv_iconst (v := 0) hx hb dX3_times_60 (by decide) ?_
        refine lv_goto (tgt := 65) hx hb dX3_times_61 (by decide) ?_
        cases h
        exact rfI hx hb hr hlocks hP hD hS dX3_times_65
    · have h := ite_t c6 h
      refine lv_bipush (v := (-2)) hx hb dX3_times_24 (by decide) ?_
      cases h
      exact rfI hx hb hr hlocks hP hD hS dX3_times_26
def fX3_at  (zS : Nat → Int64) (q0 : Int32) (q1 : Int32) : Option (Int32) :=
  (fX3_isSlot q0).bind fun r1 =>
  if (bI r1) = 0 then
    some (-2)
  else
    (fX3_isHalf q1).bind fun r4 =>
    if (bI r4) = 0 then
      some (-2)
    else
      if q0 < 0 ∨ 16 ≤ q0.toNatClampNeg then none else
      if (zS q0.toNatClampNeg) = (-1) then
        some (-1)
      else
        (fX3_half (zS q0.toNatClampNeg) q1).bind fun r9 =>
        some r9
abbrev rmX3_at : Room := { frames := 2, cells := 0, slots := 0, locals := 43 }
theorem lkX3_at_0 : (.fieldLink RX3 33 "PairingDesk" "curve" "LPairingDesk$Curve;" : Cond) ∈ wsX3_at := by decide +kernel
theorem lkX3_at_1 : (.fieldLink RX3 9 "PairingDesk" "slots" "[J" : Cond) ∈ wsX3_at := by decide +kernel
theorem lkX3_at_2 : (.constantLong RX3 79 (-1) : Cond) ∈ wsX3_at := by decide +kernel
theorem iwX3_at_3 : ∀ w ∈ wsX30, w ∈ wsX3_at := by decide +kernel
theorem hdX3_at : KN yX3_at 2 := by decide +kernel
set_option maxHeartbeats 4000000 in
set_option maxRecDepth 100000 in
theorem kX3_at (l : Launch) (D : va_G) (cJ cZ : ClassId) (dk so vo po co fo : Nat) (zp : Int64) (zr : Int64) (zh : Int64) (zb : Int64) (zt : Int32) (zS : Nat → Int64) (zV : Nat → Int64) (q0 : Int32) (q1 : Int32) (rr : Int32) (h : fX3_at zS q0 q1 = some rr) : Met l yX3_at wsX3_at rmX3_at (PP D cJ cZ [.ref dk, .int q0, .int q1] [(dk, .inr (3, [.ref so, .ref vo, .ref co, .ref po])), (so, .inl (cJ, 16, .inr (.inl zS))), (vo, .inl (cJ, 8, .inr (.inl zV))), (po, .inr (1, [.ref co, .long zp, .long zr])), (co, .inr (0, [.ref fo, .long zp, .long zr, .long zh, .long zb, .int zt])), (fo, .inr (2, [.long zp]))]) (SI rr) 0 0 (fun _ => False) := by
  refine Met.ofW (cc := cX3_at) (maxL := 3) (ret := some .int) (by decide) rfl ?_
  intro pg e s m args below meth c s₁ B hml hv
  obtain ⟨rfl, hP, hE⟩ := hv
  have hx := B.exec
  have hb := B.bytes
  have hr := B.returns
  have hlocks := B.notSynchronized
  have C0 : CallFix pg m c cX3_at 3 s ([.ref dk, .int q0, .int q1] : List Value).toArray wsX3_at RX3 := ⟨hx, hb, hml, findClass_of_methodNamed B.named, atoms_spec (ws := wsX3_at) B.pre⟩
  have hown := C0.2.2.2.1
  have hts := C0.2.2.2.2
  have hl := lv_entry ([.ref dk, .int q0, .int q1]) (n := 3) (Nat.le_of_ble_eq_true rfl)
  rw [lg_entry_eq]
  generalize (lg_sl ([.ref dk, .int q0, .int q1]) ++ List.replicate (3 - (lg_sl ([.ref dk, .int q0, .int q1])).length) Slot.unset).toArray = ls at hl ⊢
  have hl : lv_has ls 3 [(0, .ref dk), (1, .int q0), (2, .int q1)] := hl
  unfold fX3_at at h
  refine lv_aload_n hx hb dX3_at_0 rfl (lv_at hl 0 rfl) ?_
  refine va_get (D := D) (ci := 3) (v := .ref co) (C := RX3) (T := TX3) (N := 4) hx hb hts iwX3_at_3 hown hE.1 hP 0 rfl rfl 2 (by decide) (hts _ lkX3_at_0) (fun _ h9 => h9) rfl dX3_at_1 ?_
  refine lv_ifnonnull (tgt := 10) hx hb dX3_at_4 (by decide) ?_
  refine lv_iload_n hx hb dX3_at_10 rfl (lv_at hl 1 rfl) ?_
  obtain ⟨r1, h2, h⟩ := bind_s h
  refine ki (kS (As := [.int q0]) (rest := []) C0 (kX3_isSlot l D cJ cZ q0 r1 h2) gX3_at_X3_isSlot rfl ⟨rfl, rfl⟩ hdX3_isSlot ⟨Nat.le_of_ble_eq_true rfl, Nat.le_of_ble_eq_true rfl⟩ (hP.sub [] rfl) hE hl rfl rfl (Nat.le_of_ble_eq_true rfl) dX3_at_11 (Nat.zero_le _) (Nat.zero_le _)) ?_
  refine lv_if_eq (tgt := 24) hx hb dX3_at_14 (by decide) (fun c3 => ?_) (fun c3 => ?_)
  · have h := ite_t c3 h
    refine lv_bipush (v := (-2)) hx hb dX3_at_24 (by decide) ?_
    exact reI hx hb hr hlocks h dX3_at_26
  · have h := ite_f c3 h
    refine lv_iload_n hx hb dX3_at_17 rfl (lv_at hl 2 rfl) ?_
    obtain ⟨r4, h5, h⟩ := bind_s h
    refine ki (kS (As := [.int q1]) (rest := []) C0 (kX3_isHalf l D cJ cZ q1 r4 h5) gX3_at_X3_isHalf rfl ⟨rfl, rfl⟩ hdX3_isHalf ⟨Nat.le_of_ble_eq_true rfl, Nat.le_of_ble_eq_true rfl⟩ (hP.sub [] rfl) hE hl rfl rfl (Nat.le_of_ble_eq_true rfl) dX3_at_18 (Nat.zero_le _) (Nat.zero_le _)) ?_
    refine lv_if_ne (tgt := 27) hx hb dX3_at_21 (by decide) (fun c6 => ?_) (fun c6 => ?_)
    · have h := ite_f c6 h
      refine lv_aload_n hx hb dX3_at_27 rfl (lv_at hl 0 rfl) ?_
      refine va_get (D := D) (ci := 3) (v := .ref so) (C := RX3) (T := TX3) (N := 4) hx hb hts iwX3_at_3 hown hE.1 hP 0 rfl rfl 0 (by decide) (hts _ lkX3_at_1) (fun _ h9 => h9) rfl dX3_at_28 ?_
      refine lv_iload_n hx hb dX3_at_31 rfl (lv_at hl 1 rfl) ?_
      obtain ⟨c7, h⟩ := ite_n h
      refine va_lald hx hb hE.1 hP 1 0 rfl rfl c7 dX3_at_32 ?_
      refine lv_ldc2 (v := (-1)) hx hb hown (hts _ lkX3_at_2) dX3_at_33 ?_
      refine lc_ne (tgt := 44) hx hb dX3_at_36 dX3_at_37 (by decide) (fun c8 => ?_) (fun c8 => ?_)
      · have h := ite_f c8 h
        refine lv_aload_n hx hb dX3_at_44 rfl (lv_at hl 0 rfl) ?_
        refine va_get (D := D) (ci := 3) (v := .ref so) (C := RX3) (T := TX3) (N := 4) hx hb hts iwX3_at_3 hown hE.1 hP 0 rfl rfl 0 (by decide) (hts _ lkX3_at_1) (fun _ h9 => h9) rfl dX3_at_45 ?_
        refine lv_iload_n hx hb dX3_at_48 rfl (lv_at hl 1 rfl) ?_
        refine va_lald hx hb hE.1 hP 1 0 rfl rfl c7 dX3_at_49 ?_
        refine lv_iload_n hx hb dX3_at_50 rfl (lv_at hl 2 rfl) ?_
        obtain ⟨r9, h10, h⟩ := bind_s h
        refine ki (kS (As := [.long (zS q0.toNatClampNeg), .int q1]) (rest := []) C0 (kX3_half l D cJ cZ (zS q0.toNatClampNeg) q1 r9 h10) gX3_at_X3_half rfl ⟨rfl, rfl⟩ hdX3_half ⟨Nat.le_of_ble_eq_true rfl, Nat.le_of_ble_eq_true rfl⟩ (hP.sub [] rfl) hE hl rfl rfl (Nat.le_of_ble_eq_true rfl) dX3_at_51 (Nat.zero_le _) (Nat.zero_le _)) ?_
        exact reI hx hb hr hlocks h dX3_at_54
      · have h := ite_t c8 h
        refine lv_iconst (v := (-1)) hx hb dX3_at_40 (by decide) ?_
        refine lv_goto (tgt := 54) hx hb dX3_at_41 (by decide) ?_
        exact reI hx hb hr hlocks h dX3_at_54
    · have h := ite_t c6 h
      refine lv_bipush (v := (-2)) hx hb dX3_at_24 (by decide) ?_
      exact reI hx hb hr hlocks h dX3_at_26
def fX3_order (N : Nat) (zp : Int64) (zS : Nat → Int64) (q0 : Int32) : Option (Int32) :=
  (fX3_isSlot q0).bind fun r1 =>
  if (bI r1) = 0 then
    some (-2)
  else
    if q0 < 0 ∨ 16 ≤ q0.toNatClampNeg then none else
    (fX0_orderOf N zp (zS q0.toNatClampNeg)).bind fun r5 =>
    some r5.toInt32
abbrev rmX3_order : Room := { frames := 6, cells := 0, slots := 0, locals := 182 }
theorem lkX3_order_0 : (.fieldLink RX3 33 "PairingDesk" "curve" "LPairingDesk$Curve;" : Cond) ∈ wsX3_order := by decide +kernel
theorem lkX3_order_1 : (.fieldLink RX3 9 "PairingDesk" "slots" "[J" : Cond) ∈ wsX3_order := by decide +kernel
theorem iwX3_order_3 : ∀ w ∈ wsX30, w ∈ wsX3_order := by decide +kernel
theorem hdX3_order : KN yX3_order 1 := by decide +kernel
set_option maxHeartbeats 4000000 in
set_option maxRecDepth 100000 in
theorem kX3_order (l : Launch) (D : va_G) (cJ cZ : ClassId) (dk so vo po co fo : Nat) (N : Nat) (zp : Int64) (zr : Int64) (zh : Int64) (zb : Int64) (zt : Int32) (zS : Nat → Int64) (zV : Nat → Int64) (q0 : Int32) (rr : Int32) (h : fX3_order N zp zS q0 = some rr) : Met l yX3_order wsX3_order rmX3_order (PP D cJ cZ [.ref dk, .int q0] [(dk, .inr (3, [.ref so, .ref vo, .ref co, .ref po])), (so, .inl (cJ, 16, .inr (.inl zS))), (vo, .inl (cJ, 8, .inr (.inl zV))), (po, .inr (1, [.ref co, .long zp, .long zr])), (co, .inr (0, [.ref fo, .long zp, .long zr, .long zh, .long zb, .int zt])), (fo, .inr (2, [.long zp]))]) (SI rr) 0 0 (fun _ => False) := by
  refine Met.ofW (cc := cX3_order) (maxL := 2) (ret := some .int) (by decide) rfl ?_
  intro pg e s m args below meth c s₁ B hml hv
  obtain ⟨rfl, hP, hE⟩ := hv
  have hx := B.exec
  have hb := B.bytes
  have hr := B.returns
  have hlocks := B.notSynchronized
  have C0 : CallFix pg m c cX3_order 2 s ([.ref dk, .int q0] : List Value).toArray wsX3_order RX3 := ⟨hx, hb, hml, findClass_of_methodNamed B.named, atoms_spec (ws := wsX3_order) B.pre⟩
  have hown := C0.2.2.2.1
  have hts := C0.2.2.2.2
  have hl := lv_entry ([.ref dk, .int q0]) (n := 2) (Nat.le_of_ble_eq_true rfl)
  rw [lg_entry_eq]
  generalize (lg_sl ([.ref dk, .int q0]) ++ List.replicate (2 - (lg_sl ([.ref dk, .int q0])).length) Slot.unset).toArray = ls at hl ⊢
  have hl : lv_has ls 2 [(0, .ref dk), (1, .int q0)] := hl
  unfold fX3_order at h
  refine lv_aload_n hx hb dX3_order_0 rfl (lv_at hl 0 rfl) ?_
  refine va_get (D := D) (ci := 3) (v := .ref co) (C := RX3) (T := TX3) (N := 4) hx hb hts iwX3_order_3 hown hE.1 hP 0 rfl rfl 2 (by decide) (hts _ lkX3_order_0) (fun _ h9 => h9) rfl dX3_order_1 ?_
  refine lv_ifnonnull (tgt := 10) hx hb dX3_order_4 (by decide) ?_
  refine lv_iload_n hx hb dX3_order_10 rfl (lv_at hl 1 rfl) ?_
  obtain ⟨r1, h2, h⟩ := bind_s h
  refine ki (kS (As := [.int q0]) (rest := []) C0 (kX3_isSlot l D cJ cZ q0 r1 h2) gX3_order_X3_isSlot rfl ⟨rfl, rfl⟩ hdX3_isSlot ⟨Nat.le_of_ble_eq_true rfl, Nat.le_of_ble_eq_true rfl⟩ (hP.sub [] rfl) hE hl rfl rfl (Nat.le_of_ble_eq_true rfl) dX3_order_11 (Nat.zero_le _) (Nat.zero_le _)) ?_
  refine lv_if_ne (tgt := 20) hx hb dX3_order_14 (by decide) (fun c3 => ?_) (fun c3 => ?_)
  · have h := ite_f c3 h
    refine lv_aload_n hx hb dX3_order_20 rfl (lv_at hl 0 rfl) ?_
    refine va_get (D := D) (ci := 3) (v := .ref co) (C := RX3) (T := TX3) (N := 4) hx hb hts iwX3_order_3 hown hE.1 hP 0 rfl rfl 2 (by decide) (hts _ lkX3_order_0) (fun _ h9 => h9) rfl dX3_order_21 ?_
    refine lv_aload_n hx hb dX3_order_24 rfl (lv_at hl 0 rfl) ?_
    refine va_get (D := D) (ci := 3) (v := .ref so) (C := RX3) (T := TX3) (N := 4) hx hb hts iwX3_order_3 hown hE.1 hP 0 rfl rfl 0 (by decide) (hts _ lkX3_order_1) (fun _ h9 => h9) rfl dX3_order_25 ?_
    refine lv_iload_n hx hb dX3_order_28 rfl (lv_at hl 1 rfl) ?_
    obtain ⟨c4, h⟩ := ite_n h
    refine va_lald hx hb hE.1 hP 1 0 rfl rfl c4 dX3_order_29 ?_
    obtain ⟨r5, h6, h⟩ := bind_s h
    refine kl (kV (As := [.long (zS q0.toNatClampNeg)]) (rest := []) C0 (kX0_orderOf l D cJ cZ co fo N zp zr zh zb zt (zS q0.toNatClampNeg) r5 h6) gX3_order_X0_orderOf rfl ⟨rfl, rfl⟩ hdX0_orderOf ⟨Nat.le_of_ble_eq_true rfl, Nat.le_of_ble_eq_true rfl⟩ 0 0 rfl rfl rfl (hP.sub [4, 5] rfl) hE hl rfl rfl (Nat.le_of_ble_eq_true rfl) dX3_order_30 (Nat.zero_le _) (Nat.zero_le _)) ?_
    refine lv_l2i (v := r5.toInt32) hx hb dX3_order_33 rfl ?_
    exact reI hx hb hr hlocks h dX3_order_34
  · have h := ite_t c3 h
    refine lv_bipush (v := (-2)) hx hb dX3_order_17 (by decide) ?_
    exact reI hx hb hr hlocks h dX3_order_19
def fX3_write  (zS : Nat → Int64) (q0 : Int32) : Option (Int64) :=
  (fX3_isSlot q0).bind fun r1 =>
  if (bI r1) = 0 then
    some (-2)
  else
    if q0 < 0 ∨ 16 ≤ q0.toNatClampNeg then none else
    (fX3_written (zS q0.toNatClampNeg)).bind fun r5 =>
    some r5
abbrev rmX3_write : Room := { frames := 2, cells := 0, slots := 0, locals := 42 }
theorem lkX3_write_0 : (.fieldLink RX3 33 "PairingDesk" "curve" "LPairingDesk$Curve;" : Cond) ∈ wsX3_write := by decide +kernel
theorem lkX3_write_1 : (.fieldLink RX3 9 "PairingDesk" "slots" "[J" : Cond) ∈ wsX3_write := by decide +kernel
theorem lkX3_write_2 : (.constantLong RX3 106 (-2) : Cond) ∈ wsX3_write := by decide +kernel
theorem iwX3_write_3 : ∀ w ∈ wsX30, w ∈ wsX3_write := by decide +kernel
theorem hdX3_write : KN yX3_write 1 := by decide +kernel
set_option maxHeartbeats 4000000 in
set_option maxRecDepth 100000 in
theorem kX3_write (l : Launch) (D : va_G) (cJ cZ : ClassId) (dk so vo po co fo : Nat) (zp : Int64) (zr : Int64) (zh : Int64) (zb : Int64) (zt : Int32) (zS : Nat → Int64) (zV : Nat → Int64) (q0 : Int32) (rr : Int64) (h : fX3_write zS q0 = some rr) : Met l yX3_write wsX3_write rmX3_write (PP D cJ cZ [.ref dk, .int q0] [(dk, .inr (3, [.ref so, .ref vo, .ref co, .ref po])), (so, .inl (cJ, 16, .inr (.inl zS))), (vo, .inl (cJ, 8, .inr (.inl zV))), (po, .inr (1, [.ref co, .long zp, .long zr])), (co, .inr (0, [.ref fo, .long zp, .long zr, .long zh, .long zb, .int zt])), (fo, .inr (2, [.long zp]))]) (SL rr) 0 0 (fun _ => False) := by
  refine Met.ofW (cc := cX3_write) (maxL := 2) (ret := some .long) (by decide) rfl ?_
  intro pg e s m args below meth c s₁ B hml hv
  obtain ⟨rfl, hP, hE⟩ := hv
  have hx := B.exec
  have hb := B.bytes
  have hr := B.returns
  have hlocks := B.notSynchronized
  have C0 : CallFix pg m c cX3_write 2 s ([.ref dk, .int q0] : List Value).toArray wsX3_write RX3 := ⟨hx, hb, hml, findClass_of_methodNamed B.named, atoms_spec (ws := wsX3_write) B.pre⟩
  have hown := C0.2.2.2.1
  have hts := C0.2.2.2.2
  have hl := lv_entry ([.ref dk, .int q0]) (n := 2) (Nat.le_of_ble_eq_true rfl)
  rw [lg_entry_eq]
  generalize (lg_sl ([.ref dk, .int q0]) ++ List.replicate (2 - (lg_sl ([.ref dk, .int q0])).length) Slot.unset).toArray = ls at hl ⊢
  have hl : lv_has ls 2 [(0, .ref dk), (1, .int q0)] := hl
  unfold fX3_write at h
  refine lv_aload_n hx hb dX3_write_0 rfl (lv_at hl 0 rfl) ?_
  refine va_get (D := D) (ci := 3) (v := .ref co) (C := RX3) (T := TX3) (N := 4) hx hb hts iwX3_write_3 hown hE.1 hP 0 rfl rfl 2 (by decide) (hts _ lkX3_write_0) (fun _ h9 => h9) rfl dX3_write_1 ?_
  refine lv_ifnonnull (tgt := 11) hx hb dX3_write_4 (by decide) ?_
  refine lv_iload_n hx hb dX3_write_11 rfl (lv_at hl 1 rfl) ?_
  obtain ⟨r1, h2, h⟩ := bind_s h
  refine ki (kS (As := [.int q0]) (rest := []) C0 (kX3_isSlot l D cJ cZ q0 r1 h2) gX3_write_X3_isSlot rfl ⟨rfl, rfl⟩ hdX3_isSlot ⟨Nat.le_of_ble_eq_true rfl, Nat.le_of_ble_eq_true rfl⟩ (hP.sub [] rfl) hE hl rfl rfl (Nat.le_of_ble_eq_true rfl) dX3_write_12 (Nat.zero_le _) (Nat.zero_le _)) ?_
  refine lv_if_ne (tgt := 22) hx hb dX3_write_15 (by decide) (fun c3 => ?_) (fun c3 => ?_)
  · have h := ite_f c3 h
    refine lv_aload_n hx hb dX3_write_22 rfl (lv_at hl 0 rfl) ?_
    refine va_get (D := D) (ci := 3) (v := .ref so) (C := RX3) (T := TX3) (N := 4) hx hb hts iwX3_write_3 hown hE.1 hP 0 rfl rfl 0 (by decide) (hts _ lkX3_write_1) (fun _ h9 => h9) rfl dX3_write_23 ?_
    refine lv_iload_n hx hb dX3_write_26 rfl (lv_at hl 1 rfl) ?_
    obtain ⟨c4, h⟩ := ite_n h
    refine va_lald hx hb hE.1 hP 1 0 rfl rfl c4 dX3_write_27 ?_
    obtain ⟨r5, h6, h⟩ := bind_s h
    refine kl (kS (As := [.long (zS q0.toNatClampNeg)]) (rest := []) C0 (kX3_written l D cJ cZ (zS q0.toNatClampNeg) r5 h6) gX3_write_X3_written rfl ⟨rfl, rfl⟩ hdX3_written ⟨Nat.le_of_ble_eq_true rfl, Nat.le_of_ble_eq_true rfl⟩ (hP.sub [] rfl) hE hl rfl rfl (Nat.le_of_ble_eq_true rfl) dX3_write_28 (Nat.zero_le _) (Nat.zero_le _)) ?_
    exact reL hx hb hr hlocks h dX3_write_31
  · have h := ite_t c3 h
    refine lv_ldc2 (v := (-2)) hx hb hown (hts _ lkX3_write_2) dX3_write_18 ?_
    exact reL hx hb hr hlocks h dX3_write_21
def fX3_read (N : Nat) (zp : Int64) (zS : Nat → Int64) (q0 : Int32) (q1 : Int64) : Option (Int32 × (Nat → Int64)) :=
  (fX3_isSlot q0).bind fun r1 =>
  if (bI r1) = 0 then
    some ((-2), zS)
  else
    (fX0_pointWritten N zp q1).bind fun r4 =>
    if r4 = (-2) then
      some ((-1), zS)
    else
      if q0 < 0 ∨ 16 ≤ q0.toNatClampNeg then none else
      bnd (vp_updL zS q0.toNatClampNeg r4) fun w8 =>
      some (1, w8)
abbrev rmX3_read : Room := { frames := 3, cells := 0, slots := 0, locals := 78 }
theorem lkX3_read_0 : (.fieldLink RX3 33 "PairingDesk" "curve" "LPairingDesk$Curve;" : Cond) ∈ wsX3_read := by decide +kernel
theorem lkX3_read_1 : (.constantLong RX3 106 (-2) : Cond) ∈ wsX3_read := by decide +kernel
theorem lkX3_read_2 : (.fieldLink RX3 9 "PairingDesk" "slots" "[J" : Cond) ∈ wsX3_read := by decide +kernel
theorem iwX3_read_3 : ∀ w ∈ wsX30, w ∈ wsX3_read := by decide +kernel
theorem hdX3_read : KN yX3_read 2 := by decide +kernel
set_option maxHeartbeats 4000000 in
set_option maxRecDepth 100000 in
theorem kX3_read (l : Launch) (D : va_G) (cJ cZ : ClassId) (dk so vo po co fo : Nat) (N : Nat) (zp : Int64) (zr : Int64) (zh : Int64) (zb : Int64) (zt : Int32) (zS : Nat → Int64) (zV : Nat → Int64) (q0 : Int32) (q1 : Int64) (sz : Nat) (rr : Int32) (ozS : Nat → Int64) (h : fX3_read N zp zS q0 q1 = some (rr, ozS)) : Met l yX3_read wsX3_read rmX3_read (PE D cJ cZ [.ref dk, .int q0, .long q1] [(dk, .inr (3, [.ref so, .ref vo, .ref co, .ref po])), (so, .inl (cJ, 16, .inr (.inl zS))), (vo, .inl (cJ, 8, .inr (.inl zV))), (po, .inr (1, [.ref co, .long zp, .long zr])), (co, .inr (0, [.ref fo, .long zp, .long zr, .long zh, .long zb, .int zt])), (fo, .inr (2, [.long zp]))] sz) (QE D (some (.int rr)) [(dk, .inr (3, [.ref so, .ref vo, .ref co, .ref po])), (so, .inl (cJ, 16, .inr (.inl ozS))), (vo, .inl (cJ, 8, .inr (.inl zV))), (po, .inr (1, [.ref co, .long zp, .long zr])), (co, .inr (0, [.ref fo, .long zp, .long zr, .long zh, .long zb, .int zt])), (fo, .inr (2, [.long zp]))] (va_A [(dk, .inr (3, [.ref so, .ref vo, .ref co, .ref po])), (so, .inl (cJ, 16, .inr (.inl zS))), (vo, .inl (cJ, 8, .inr (.inl zV))), (po, .inr (1, [.ref co, .long zp, .long zr])), (co, .inr (0, [.ref fo, .long zp, .long zr, .long zh, .long zb, .int zt])), (fo, .inr (2, [.long zp]))] sz)) 0 0 (va_A [(dk, .inr (3, [.ref so, .ref vo, .ref co, .ref po])), (so, .inl (cJ, 16, .inr (.inl zS))), (vo, .inl (cJ, 8, .inr (.inl zV))), (po, .inr (1, [.ref co, .long zp, .long zr])), (co, .inr (0, [.ref fo, .long zp, .long zr, .long zh, .long zb, .int zt])), (fo, .inr (2, [.long zp]))] sz) := by
  refine Met.ofW (cc := cX3_read) (maxL := 6) (ret := some .int) (by decide) rfl ?_
  intro pg e s m args below meth c s₁ B hml hv
  obtain ⟨rfl, hsz, hP, hE, hD0⟩ := hv
  have hx := B.exec
  have hb := B.bytes
  have hr := B.returns
  have hlocks := B.notSynchronized
  have C0 : CallFix pg m c cX3_read 6 s ([.ref dk, .int q0, .long q1] : List Value).toArray wsX3_read RX3 := ⟨hx, hb, hml, findClass_of_methodNamed B.named, atoms_spec (ws := wsX3_read) B.pre⟩
  have hown := C0.2.2.2.1
  have hts := C0.2.2.2.2
  subst hsz
  have hD := hD0.self (sz := s.heap.size)
  generalize hAe : va_A [(dk, .inr (3, [.ref so, .ref vo, .ref co, .ref po])), (so, .inl (cJ, 16, .inr (.inl zS))), (vo, .inl (cJ, 8, .inr (.inl zV))), (po, .inr (1, [.ref co, .long zp, .long zr])), (co, .inr (0, [.ref fo, .long zp, .long zr, .long zh, .long zb, .int zt])), (fo, .inr (2, [.long zp]))] s.heap.size = A at hD ⊢
  have hA : ∀ q : Nat, s.heap.size ≤ q → A q := fun q h => by rw [← hAe]; exact Or.inr h
  have hS : va_S A s.heap s.heap [] := va_S.rf
  have hP : va_P D vwCl [(dk, .inr (3, [.ref so, .ref vo, .ref co, .ref po])), (so, .inl (cJ, 16, .inr (.inl zS))), (vo, .inl (cJ, 8, .inr (.inl zV))), (po, .inr (1, [.ref co, .long zp, .long zr])), (co, .inr (0, [.ref fo, .long zp, .long zr, .long zh, .long zb, .int zt])), (fo, .inr (2, [.long zp]))] s.heap := hP
  have hl := lv_entry ([.ref dk, .int q0, .long q1]) (n := 6) (Nat.le_of_ble_eq_true rfl)
  rw [lg_entry_eq]
  generalize (lg_sl ([.ref dk, .int q0, .long q1]) ++ List.replicate (6 - (lg_sl ([.ref dk, .int q0, .long q1])).length) Slot.unset).toArray = ls at hl ⊢
  have hl : lv_has ls 6 [(0, .ref dk), (1, .int q0), (2, .long q1)] := hl
  suffices key : ∀ (H : Heap) (locs : List Loc), va_P D vwCl [(dk, .inr (3, [.ref so, .ref vo, .ref co, .ref po])), (so, .inl (cJ, 16, .inr (.inl zS))), (vo, .inl (cJ, 8, .inr (.inl zV))), (po, .inr (1, [.ref co, .long zp, .long zr])), (co, .inr (0, [.ref fo, .long zp, .long zr, .long zh, .long zb, .int zt])), (fo, .inr (2, [.long zp]))] H → va_D A [(dk, .inr (3, [.ref so, .ref vo, .ref co, .ref po])), (so, .inl (cJ, 16, .inr (.inl zS))), (vo, .inl (cJ, 8, .inr (.inl zV))), (po, .inr (1, [.ref co, .long zp, .long zr])), (co, .inr (0, [.ref fo, .long zp, .long zr, .long zh, .long zb, .int zt])), (fo, .inr (2, [.long zp]))] → va_S A s.heap H locs → W pg l e (headSpec wsX3_read rmX3_read).room s m ([.ref dk, .int q0, .long q1] : List Value).toArray below meth c H locs 0 0 (MQ below (QE D (some (.int rr)) [(dk, .inr (3, [.ref so, .ref vo, .ref co, .ref po])), (so, .inl (cJ, 16, .inr (.inl ozS))), (vo, .inl (cJ, 8, .inr (.inl zV))), (po, .inr (1, [.ref co, .long zp, .long zr])), (co, .inr (0, [.ref fo, .long zp, .long zr, .long zh, .long zb, .int zt])), (fo, .inr (2, [.long zp]))] A) ([.ref dk, .int q0, .long q1] : List Value).toArray s 0 0 A) (F0 m 0 ls []) from key s.heap [] hP hD hS
  intro H locs hP hD hS
  unfold fX3_read at h
  refine lv_aload_n hx hb dX3_read_0 rfl (lv_at hl 0 rfl) ?_
  refine va_get (D := D) (ci := 3) (v := .ref co) (C := RX3) (T := TX3) (N := 4) hx hb hts iwX3_read_3 hown hE.1 hP 0 rfl rfl 2 (by decide) (hts _ lkX3_read_0) (fun _ h9 => h9) rfl dX3_read_1 ?_
  refine lv_ifnonnull (tgt := 10) hx hb dX3_read_4 (by decide) ?_
  refine lv_iload_n hx hb dX3_read_10 rfl (lv_at hl 1 rfl) ?_
  obtain ⟨r1, h2, h⟩ := bind_s h
  refine ki (kS (As := [.int q0]) (rest := []) C0 (kX3_isSlot l D cJ cZ q0 r1 h2) gX3_read_X3_isSlot rfl ⟨rfl, rfl⟩ hdX3_isSlot ⟨Nat.le_of_ble_eq_true rfl, Nat.le_of_ble_eq_true rfl⟩ (hP.sub [] rfl) hE hl rfl rfl (Nat.le_of_ble_eq_true rfl) dX3_read_11 (Nat.zero_le _) (Nat.zero_le _)) ?_
  refine lv_if_ne (tgt := 20) hx hb dX3_read_14 (by decide) (fun c3 => ?_) (fun c3 => ?_)
  · have h := ite_f c3 h
    refine lv_aload_n hx hb dX3_read_20 rfl (lv_at hl 0 rfl) ?_
    refine va_get (D := D) (ci := 3) (v := .ref co) (C := RX3) (T := TX3) (N := 4) hx hb hts iwX3_read_3 hown hE.1 hP 0 rfl rfl 2 (by decide) (hts _ lkX3_read_0) (fun _ h9 => h9) rfl dX3_read_21 ?_
    refine lv_lload_n hx hb dX3_read_24 rfl (lv_at hl 2 rfl) ?_
    obtain ⟨r4, h5, h⟩ := bind_s h
    refine kl (kV (As := [.long q1]) (rest := []) C0 (kX0_pointWritten l D cJ cZ co fo N zp zr zh zb zt q1 r4 h5) gX3_read_X0_pointWritten rfl ⟨rfl, rfl⟩ hdX0_pointWritten ⟨Nat.le_of_ble_eq_true rfl, Nat.le_of_ble_eq_true rfl⟩ 0 0 rfl rfl rfl (hP.sub [4, 5] rfl) hE hl rfl rfl (Nat.le_of_ble_eq_true rfl) dX3_read_25 (Nat.zero_le _) (Nat.zero_le _)) ?_
    refine lv_lstore (lv' := [(4, .long r4), (0, .ref dk), (1, .int q0), (2, .long q1)]) hx hb dX3_read_28 hl (by decide) rfl (fun ls hl => ?_)
    refine lv_lload hx hb dX3_read_30 (lv_at hl 0 rfl) ?_
    refine lv_ldc2 (v := (-2)) hx hb hown (hts _ lkX3_read_1) dX3_read_32 ?_
    refine lc_ne (tgt := 41) hx hb dX3_read_35 dX3_read_36 (by decide) (fun c6 => ?_) (fun c6 => ?_)
    · have h := ite_f c6 h
      refine lv_aload_n hx hb dX3_read_41 rfl (lv_at hl 1 rfl) ?_
      refine va_get (D := D) (ci := 3) (v := .ref so) (C := RX3) (T := TX3) (N := 4) hx hb hts iwX3_read_3 hown hE.1 hP 0 rfl rfl 0 (by decide) (hts _ lkX3_read_2) (fun _ h9 => h9) rfl dX3_read_42 ?_
      refine lv_iload_n hx hb dX3_read_45 rfl (lv_at hl 2 rfl) ?_
      refine lv_lload hx hb dX3_read_46 (lv_at hl 0 rfl) ?_
      obtain ⟨c7, h⟩ := ite_n h
      refine va_last hx hb hE.1 hP hD hS 1 0 rfl rfl c7 dX3_read_48 (fun H locs hP hD hS => ?_)
      have hP : va_P D vwCl [(dk, .inr (3, [.ref so, .ref vo, .ref co, .ref po])), (so, .inl (cJ, 16, .inr (.inl (vp_updL zS q0.toNatClampNeg r4)))), (vo, .inl (cJ, 8, .inr (.inl zV))), (po, .inr (1, [.ref co, .long zp, .long zr])), (co, .inr (0, [.ref fo, .long zp, .long zr, .long zh, .long zb, .int zt])), (fo, .inr (2, [.long zp]))] H := hP
      have hD : va_D A [(dk, .inr (3, [.ref so, .ref vo, .ref co, .ref po])), (so, .inl (cJ, 16, .inr (.inl (vp_updL zS q0.toNatClampNeg r4)))), (vo, .inl (cJ, 8, .inr (.inl zV))), (po, .inr (1, [.ref co, .long zp, .long zr])), (co, .inr (0, [.ref fo, .long zp, .long zr, .long zh, .long zb, .int zt])), (fo, .inr (2, [.long zp]))] := hD
      obtain ⟨w8, ew8, h⟩ := bnd_s h
      rw [← ew8] at hP hD
      refine lv_iconst (v := 1) hx hb dX3_read_49 (by decide) ?_
      cases h
      exact rfI hx hb hr hlocks hP hD hS dX3_read_50
    · have h := ite_t c6 h
      refine lv_iconst (v := (-1)) hx hb dX3_read_39 (by decide) ?_
      cases h
      exact rfI hx hb hr hlocks hP hD hS dX3_read_40
  · have h := ite_t c3 h
    refine lv_bipush (v := (-2)) hx hb dX3_read_17 (by decide) ?_
    cases h
    exact rfI hx hb hr hlocks hP hD hS dX3_read_19
