abbrev rmX3_field : Room := { frames := 6, cells := 3, slots := 10, locals := 179 }
abbrev rmX3_field_bad : Room := { frames := 6, cells := 0, slots := 0, locals := 179 }
theorem hdX3_field : KN yX3_field 2 := by decide +kernel
theorem lkX3_field_0 : (.fieldLink RX3 33 "PairingDesk" "curve" "LPairingDesk$Curve;" : Cond) ∈ wsX3_field := by decide +kernel
theorem lkX3_field_1 : (.fieldLink RX3 42 "PairingDesk" "pairing" "LPairingDesk$Pairing;" : Cond) ∈ wsX3_field := by decide +kernel
theorem lkX3_field_2 : (.fieldLink RX3 46 "PairingDesk$Curve" "h" "J" : Cond) ∈ wsX3_field := by decide +kernel
theorem lkX3_field_3 : (.classLink RX3 23 RX0 : Cond) ∈ wsX3_field := by decide +kernel
theorem lkX3_field_4 : (.instantiable RX0 6 : Cond) ∈ wsX3_field := by decide +kernel
theorem lkX3_field_5 : (.initialized RX0 : Cond) ∈ wsX3_field := by decide +kernel
theorem lkX3_field_6 : (.classLink RX3 25 RX2 : Cond) ∈ wsX3_field := by decide +kernel
theorem lkX3_field_7 : (.instantiable RX2 1 : Cond) ∈ wsX3_field := by decide +kernel
theorem lkX3_field_8 : (.initialized RX2 : Cond) ∈ wsX3_field := by decide +kernel
theorem lkX3_field_9 : (.classLink RX3 37 RX1 : Cond) ∈ wsX3_field := by decide +kernel
theorem lkX3_field_10 : (.instantiable RX1 3 : Cond) ∈ wsX3_field := by decide +kernel
theorem lkX3_field_11 : (.initialized RX1 : Cond) ∈ wsX3_field := by decide +kernel
theorem lkX3_field_12 : (.methodLink RX3 27 yX2_init : Cond) ∈ wsX3_field := by decide +kernel
theorem lkX3_field_13 : (.instanceMethod yX2_init : Cond) ∈ wsX3_field := by decide +kernel
theorem lkX3_field_14 : (.methodLink RX3 30 yX0_init : Cond) ∈ wsX3_field := by decide +kernel
theorem lkX3_field_15 : (.instanceMethod yX0_init : Cond) ∈ wsX3_field := by decide +kernel
theorem lkX3_field_16 : (.methodLink RX3 39 yX1_init : Cond) ∈ wsX3_field := by decide +kernel
theorem lkX3_field_17 : (.instanceMethod yX1_init : Cond) ∈ wsX3_field := by decide +kernel
theorem iwX3_field_0 : ∀ w ∈ wsX00, w ∈ wsX3_field := by decide +kernel
theorem iwX3_field_1 : ∀ w ∈ wsX10, w ∈ wsX3_field := by decide +kernel
theorem iwX3_field_2 : ∀ w ∈ wsX20, w ∈ wsX3_field := by decide +kernel
theorem iwX3_field_3 : ∀ w ∈ wsX30, w ∈ wsX3_field := by decide +kernel
set_option maxHeartbeats 4000000 in
set_option maxRecDepth 100000 in
theorem kX3_field_bad (l : Launch) (D : va_G) (cJ cZ : ClassId) (dk so vo : Nat) (N : Nat) (vc vp : Value) (zS zV : Nat → Int64) (q0 q1 : Int32) (sz : Nat) (hf : fX3_fitTogether N q0 q1 = some false) : Met l yX3_field wsX3_field rmX3_field_bad (PE D cJ cZ [.ref dk, .int q0, .int q1] [(dk, .inr (3, [.ref so, .ref vo, vc, vp])), (so, .inl (cJ, 16, .inr (.inl zS))), (vo, .inl (cJ, 8, .inr (.inl zV)))] sz) (QE D (some (.int (-2))) [(dk, .inr (3, [.ref so, .ref vo, vc, vp])), (so, .inl (cJ, 16, .inr (.inl zS))), (vo, .inl (cJ, 8, .inr (.inl zV)))] (va_A [(dk, .inr (3, [.ref so, .ref vo, vc, vp])), (so, .inl (cJ, 16, .inr (.inl zS))), (vo, .inl (cJ, 8, .inr (.inl zV)))] sz)) 0 0 (va_A [(dk, .inr (3, [.ref so, .ref vo, vc, vp])), (so, .inl (cJ, 16, .inr (.inl zS))), (vo, .inl (cJ, 8, .inr (.inl zV)))] sz) := by
  refine Met.ofW (cc := cX3_field) (maxL := 3) (ret := some .int) (by decide) rfl ?_
  intro pg e s m args below meth c s₁ B hml hv
  obtain ⟨rfl, hsz, hP, hE, hD0⟩ := hv
  have hx := B.exec
  have hb := B.bytes
  have hr := B.returns
  have hlocks := B.notSynchronized
  have C0 : CallFix pg m c cX3_field 3 s ([.ref dk, .int q0, .int q1] : List Value).toArray wsX3_field RX3 := ⟨hx, hb, hml, findClass_of_methodNamed B.named, atoms_spec (ws := wsX3_field) B.pre⟩
  have hown := C0.2.2.2.1
  have hts := C0.2.2.2.2
  subst hsz
  have hD := hD0.self (sz := s.heap.size)
  generalize hAe : va_A [(dk, .inr (3, [.ref so, .ref vo, vc, vp])), (so, .inl (cJ, 16, .inr (.inl zS))), (vo, .inl (cJ, 8, .inr (.inl zV)))] s.heap.size = A at hD ⊢
  have hA : ∀ q : Nat, s.heap.size ≤ q → A q := fun q h => by rw [← hAe]; exact Or.inr h
  have hS : va_S A s.heap s.heap [] := va_S.rf
  have hP : va_P D vwCl [(dk, .inr (3, [.ref so, .ref vo, vc, vp])), (so, .inl (cJ, 16, .inr (.inl zS))), (vo, .inl (cJ, 8, .inr (.inl zV)))] s.heap := hP
  have hl := lv_entry ([.ref dk, .int q0, .int q1]) (n := 3) (Nat.le_of_ble_eq_true rfl)
  rw [lg_entry_eq]
  generalize (lg_sl ([.ref dk, .int q0, .int q1]) ++ List.replicate (3 - (lg_sl ([.ref dk, .int q0, .int q1])).length) Slot.unset).toArray = ls at hl ⊢
  have hl : lv_has ls 3 [(0, .ref dk), (1, .int q0), (2, .int q1)] := hl
  refine lv_iload_n hx hb dX3_field_0 rfl (lv_at hl 1 rfl) ?_
  refine lv_iload_n hx hb dX3_field_1 rfl (lv_at hl 2 rfl) ?_
  refine ki (kS (As := [.int q0, .int q1]) (rest := []) C0 (kX3_fitTogether l D cJ cZ N q0 q1 _ hf) gX3_field_X3_fitTogether rfl ⟨rfl, rfl⟩ hdX3_fitTogether ⟨Nat.le_of_ble_eq_true rfl, Nat.le_of_ble_eq_true rfl⟩ (hP.sub [] rfl) hE hl rfl rfl (Nat.le_of_ble_eq_true rfl) dX3_field_2 (Nat.zero_le _) (Nat.zero_le _)) ?_
  refine lv_if_ne (tgt := 11) hx hb dX3_field_5 (by decide) (fun cc => absurd rfl cc) (fun _ => ?_)
  refine lv_bipush (v := (-2)) hx hb dX3_field_8 (by decide) ?_
  exact rfI hx hb hr hlocks hP hD hS dX3_field_10
set_option maxHeartbeats 4000000 in
set_option maxRecDepth 100000 in
theorem kX3_field (l : Launch) (D : va_G) (cJ cZ : ClassId) (dk so vo : Nat) (N : Nat) (vc vp : Value) (zS zV : Nat → Int64) (q0 q1 : Int32) (sz : Nat) (zh zb : Int64) (zt : Int32) (oS oV : Nat → Int64) (hf : fX3_fitTogether N q0 q1 = some true) (hi : fX0_init N q0.toInt64 q1.toInt64 = some (zh, zb, zt)) (hc : fX3_clearRows N zS zV = some (oS, oV)) : Met l yX3_field wsX3_field rmX3_field (PE D cJ cZ [.ref dk, .int q0, .int q1] [(dk, .inr (3, [.ref so, .ref vo, vc, vp])), (so, .inl (cJ, 16, .inr (.inl zS))), (vo, .inl (cJ, 8, .inr (.inl zV)))] sz) (QX D (fun _ : Nat × Nat × Nat => some (.int zh.toInt32)) (fun u : Nat × Nat × Nat => [(dk, .inr (3, [.ref so, .ref vo, .ref u.2.1, .ref u.1])), (so, .inl (cJ, 16, .inr (.inl oS))), (vo, .inl (cJ, 8, .inr (.inl oV))), (u.1, .inr (1, [.ref u.2.1, .long q0.toInt64, .long q1.toInt64])), (u.2.1, .inr (0, [.ref u.2.2, .long q0.toInt64, .long q1.toInt64, .long zh, .long zb, .int zt])), (u.2.2, .inr (2, [.long q0.toInt64]))]) (va_A [(dk, .inr (3, [.ref so, .ref vo, vc, vp])), (so, .inl (cJ, 16, .inr (.inl zS))), (vo, .inl (cJ, 8, .inr (.inl zV)))] sz)) 3 10 (va_A [(dk, .inr (3, [.ref so, .ref vo, vc, vp])), (so, .inl (cJ, 16, .inr (.inl zS))), (vo, .inl (cJ, 8, .inr (.inl zV)))] sz) := by
  refine Met.ofW (cc := cX3_field) (maxL := 3) (ret := some .int) (by decide) rfl ?_
  intro pg e s m args below meth c s₁ B hml hv
  obtain ⟨rfl, hsz, hP, hE, hD0⟩ := hv
  have hx := B.exec
  have hb := B.bytes
  have hr := B.returns
  have hlocks := B.notSynchronized
  have C0 : CallFix pg m c cX3_field 3 s ([.ref dk, .int q0, .int q1] : List Value).toArray wsX3_field RX3 := ⟨hx, hb, hml, findClass_of_methodNamed B.named, atoms_spec (ws := wsX3_field) B.pre⟩
  have hown := C0.2.2.2.1
  have hts := C0.2.2.2.2
  subst hsz
  have hD := hD0.self (sz := s.heap.size)
  generalize hAe : va_A [(dk, .inr (3, [.ref so, .ref vo, vc, vp])), (so, .inl (cJ, 16, .inr (.inl zS))), (vo, .inl (cJ, 8, .inr (.inl zV)))] s.heap.size = A at hD ⊢
  have hA : ∀ q : Nat, s.heap.size ≤ q → A q := fun q h => by rw [← hAe]; exact Or.inr h
  have hS : va_S A s.heap s.heap [] := va_S.rf
  have hP : va_P D vwCl [(dk, .inr (3, [.ref so, .ref vo, vc, vp])), (so, .inl (cJ, 16, .inr (.inl zS))), (vo, .inl (cJ, 8, .inr (.inl zV)))] s.heap := hP
  have hl := lv_entry ([.ref dk, .int q0, .int q1]) (n := 3) (Nat.le_of_ble_eq_true rfl)
  rw [lg_entry_eq]
  generalize (lg_sl ([.ref dk, .int q0, .int q1]) ++ List.replicate (3 - (lg_sl ([.ref dk, .int q0, .int q1])).length) Slot.unset).toArray = ls at hl ⊢
  have hl : lv_has ls 3 [(0, .ref dk), (1, .int q0), (2, .int q1)] := hl
  refine lv_iload_n hx hb dX3_field_0 rfl (lv_at hl 1 rfl) ?_
  refine lv_iload_n hx hb dX3_field_1 rfl (lv_at hl 2 rfl) ?_
  refine ki (kS (As := [.int q0, .int q1]) (rest := []) C0 (kX3_fitTogether l D cJ cZ N q0 q1 _ hf) gX3_field_X3_fitTogether rfl ⟨rfl, rfl⟩ hdX3_fitTogether ⟨Nat.le_of_ble_eq_true rfl, Nat.le_of_ble_eq_true rfl⟩ (hP.sub [] rfl) hE hl rfl rfl (Nat.le_of_ble_eq_true rfl) dX3_field_2 (Nat.zero_le _) (Nat.zero_le _)) ?_
  refine lv_if_ne (tgt := 11) hx hb dX3_field_5 (by decide) (fun _ => ?_) (fun cc => absurd cc (by decide))
  refine lv_aload_n hx hb dX3_field_11 rfl (lv_at hl 0 rfl) ?_
  refine va_new (ci := 0) (fs := [.null, .long 0, .long 0, .long 0, .long 0, .int 0]) (C := RX0) (T := TX0) (N := 6) hx hb hts iwX3_field_0 tyX0 tyX0_ok hown (hts _ lkX3_field_3) (hts _ lkX3_field_4) (hts _ lkX3_field_5) hE.1 hP hD hS hA rfl (fun j hj => by rcases (show j = 0 ∨ j = 1 ∨ j = 2 ∨ j = 3 ∨ j = 4 ∨ j = 5 by omega) with rfl | rfl | rfl | rfl | rfl | rfl <;> rfl) (Nat.le_of_ble_eq_true rfl) (Nat.le_of_ble_eq_true rfl) dX3_field_12 (fun nn12 H hP hD hS => ?_)
  have hP : va_P D vwCl [(dk, .inr (3, [.ref so, .ref vo, vc, vp])), (so, .inl (cJ, 16, .inr (.inl zS))), (vo, .inl (cJ, 8, .inr (.inl zV))), (nn12, .inr (0, [.null, .long 0, .long 0, .long 0, .long 0, .int 0]))] H := hP
  have hD : va_D A [(dk, .inr (3, [.ref so, .ref vo, vc, vp])), (so, .inl (cJ, 16, .inr (.inl zS))), (vo, .inl (cJ, 8, .inr (.inl zV))), (nn12, .inr (0, [.null, .long 0, .long 0, .long 0, .long 0, .int 0]))] := hD
  refine W.widen (k := 1) (n := 6) (by decide) (by decide) ?_
  refine lv_dup hx hb dX3_field_15 rfl ?_
  refine va_new (ci := 2) (fs := [.long 0]) (C := RX2) (T := TX2) (N := 1) hx hb hts iwX3_field_2 tyX2 tyX2_ok hown (hts _ lkX3_field_6) (hts _ lkX3_field_7) (hts _ lkX3_field_8) hE.1 hP hD hS hA rfl (fun j hj => by rcases (show j = 0 by omega) with rfl <;> rfl) (Nat.le_of_ble_eq_true rfl) (Nat.le_of_ble_eq_true rfl) dX3_field_16 (fun nn16 H hP hD hS => ?_)
  have hP : va_P D vwCl [(dk, .inr (3, [.ref so, .ref vo, vc, vp])), (so, .inl (cJ, 16, .inr (.inl zS))), (vo, .inl (cJ, 8, .inr (.inl zV))), (nn12, .inr (0, [.null, .long 0, .long 0, .long 0, .long 0, .int 0])), (nn16, .inr (2, [.long 0]))] H := hP
  have hD : va_D A [(dk, .inr (3, [.ref so, .ref vo, vc, vp])), (so, .inl (cJ, 16, .inr (.inl zS))), (vo, .inl (cJ, 8, .inr (.inl zV))), (nn12, .inr (0, [.null, .long 0, .long 0, .long 0, .long 0, .int 0])), (nn16, .inr (2, [.long 0]))] := hD
  refine W.widen (k := 2) (n := 7) (by decide) (by decide) ?_
  refine lv_dup hx hb dX3_field_19 rfl ?_
  refine lv_iload_n hx hb dX3_field_20 rfl (lv_at hl 1 rfl) ?_
  refine lv_i2l (v := q0.toInt64) hx hb dX3_field_21 rfl ?_
  refine kE (wc := [(nn16, .inr (2, [.long 0]))]) (wr := [(dk, .inr (3, [.ref so, .ref vo, vc, vp])), (so, .inl (cJ, 16, .inr (.inl zS))), (vo, .inl (cJ, 8, .inr (.inl zV))), (nn12, .inr (0, [.null, .long 0, .long 0, .long 0, .long 0, .int 0]))]) [4] [0, 1, 2, 3] hP hD hS hA rfl rfl rfl (by decide) rfl (eI (As := [.long q0.toInt64]) (rest := [.ref nn16, .ref nn12, .ref nn12, .ref dk]) C0 (kX2_init l D cJ cZ nn16 0 q0.toInt64 H.size) gX3_field_X2_init rfl ⟨rfl, rfl⟩ (hts _ lkX3_field_8) (hts _ lkX3_field_12) (hts _ lkX3_field_13) rfl hdX2_init ⟨Nat.le_of_ble_eq_true rfl, Nat.le_of_ble_eq_true rfl⟩ (hP.sub [4] rfl) (hD.sub [4] rfl rfl) hE hl rfl rfl (Nat.le_of_ble_eq_true rfl) dX3_field_22 ⟨Nat.le_of_ble_eq_true rfl, Nat.le_of_ble_eq_true rfl⟩) (fun H locs hP hD hS => ?_)
  have hP : va_P D vwCl [(dk, .inr (3, [.ref so, .ref vo, vc, vp])), (so, .inl (cJ, 16, .inr (.inl zS))), (vo, .inl (cJ, 8, .inr (.inl zV))), (nn12, .inr (0, [.null, .long 0, .long 0, .long 0, .long 0, .int 0])), (nn16, .inr (2, [.long q0.toInt64]))] H := hP.sub [0, 1, 2, 3, 4] rfl
  have hD : va_D A [(dk, .inr (3, [.ref so, .ref vo, vc, vp])), (so, .inl (cJ, 16, .inr (.inl zS))), (vo, .inl (cJ, 8, .inr (.inl zV))), (nn12, .inr (0, [.null, .long 0, .long 0, .long 0, .long 0, .int 0])), (nn16, .inr (2, [.long q0.toInt64]))] := hD.sub [0, 1, 2, 3, 4] rfl rfl
  refine lv_iload_n hx hb dX3_field_25 rfl (lv_at hl 2 rfl) ?_
  refine lv_i2l (v := q1.toInt64) hx hb dX3_field_26 rfl ?_
  refine kE (wc := [(nn12, .inr (0, [.null, .long 0, .long 0, .long 0, .long 0, .int 0])), (nn16, .inr (2, [.long q0.toInt64]))]) (wr := [(dk, .inr (3, [.ref so, .ref vo, vc, vp])), (so, .inl (cJ, 16, .inr (.inl zS))), (vo, .inl (cJ, 8, .inr (.inl zV)))]) [3, 4] [0, 1, 2] hP hD hS hA rfl rfl rfl (by decide) rfl (eI (As := [.ref nn16, .long q1.toInt64]) (rest := [.ref nn12, .ref dk]) C0 (kX0_init l D cJ cZ nn12 nn16 N q0.toInt64 q1.toInt64 H.size zh zb zt hi) gX3_field_X0_init rfl ⟨rfl, rfl⟩ (hts _ lkX3_field_5) (hts _ lkX3_field_14) (hts _ lkX3_field_15) rfl hdX0_init ⟨Nat.le_of_ble_eq_true rfl, Nat.le_of_ble_eq_true rfl⟩ (hP.sub [3, 4] rfl) (hD.sub [3, 4] rfl rfl) hE hl rfl rfl (Nat.le_of_ble_eq_true rfl) dX3_field_27 ⟨Nat.le_of_ble_eq_true rfl, Nat.le_of_ble_eq_true rfl⟩) (fun H locs hP hD hS => ?_)
  have hP : va_P D vwCl [(dk, .inr (3, [.ref so, .ref vo, vc, vp])), (so, .inl (cJ, 16, .inr (.inl zS))), (vo, .inl (cJ, 8, .inr (.inl zV))), (nn12, .inr (0, [.ref nn16, .long q0.toInt64, .long q1.toInt64, .long zh, .long zb, .int zt])), (nn16, .inr (2, [.long q0.toInt64]))] H := hP.sub [0, 1, 2, 3, 4] rfl
  have hD : va_D A [(dk, .inr (3, [.ref so, .ref vo, vc, vp])), (so, .inl (cJ, 16, .inr (.inl zS))), (vo, .inl (cJ, 8, .inr (.inl zV))), (nn12, .inr (0, [.ref nn16, .long q0.toInt64, .long q1.toInt64, .long zh, .long zb, .int zt])), (nn16, .inr (2, [.long q0.toInt64]))] := hD.sub [0, 1, 2, 3, 4] rfl rfl
  refine va_put (D := D) (ci := 3) (v := .ref nn12) (ty := .object "PairingDesk$Curve") (C := RX3) (T := TX3) (N := 4) hx hb hts iwX3_field_3 tyX3 tyX3_ok nmX3 hown hE.1 hP hD hS 0 rfl rfl 2 (by decide) (hts _ lkX3_field_0) (fun _ h9 => h9) rfl (by decide +kernel) rfl rfl (Nat.le_of_ble_eq_true rfl) dX3_field_30 (fun H locs hP hD hS => ?_)
  have hP : va_P D vwCl [(dk, .inr (3, [.ref so, .ref vo, .ref nn12, vp])), (so, .inl (cJ, 16, .inr (.inl zS))), (vo, .inl (cJ, 8, .inr (.inl zV))), (nn12, .inr (0, [.ref nn16, .long q0.toInt64, .long q1.toInt64, .long zh, .long zb, .int zt])), (nn16, .inr (2, [.long q0.toInt64]))] H := hP
  have hD : va_D A [(dk, .inr (3, [.ref so, .ref vo, .ref nn12, vp])), (so, .inl (cJ, 16, .inr (.inl zS))), (vo, .inl (cJ, 8, .inr (.inl zV))), (nn12, .inr (0, [.ref nn16, .long q0.toInt64, .long q1.toInt64, .long zh, .long zb, .int zt])), (nn16, .inr (2, [.long q0.toInt64]))] := hD
  refine lv_aload_n hx hb dX3_field_33 rfl (lv_at hl 0 rfl) ?_
  refine va_new (ci := 1) (fs := [.null, .long 0, .long 0]) (C := RX1) (T := TX1) (N := 3) hx hb hts iwX3_field_1 tyX1 tyX1_ok hown (hts _ lkX3_field_9) (hts _ lkX3_field_10) (hts _ lkX3_field_11) hE.1 hP hD hS hA rfl (fun j hj => by rcases (show j = 0 ∨ j = 1 ∨ j = 2 by omega) with rfl | rfl | rfl <;> rfl) (Nat.le_of_ble_eq_true rfl) (Nat.le_of_ble_eq_true rfl) dX3_field_34 (fun nn34 H hP hD hS => ?_)
  have hP : va_P D vwCl [(dk, .inr (3, [.ref so, .ref vo, .ref nn12, vp])), (so, .inl (cJ, 16, .inr (.inl zS))), (vo, .inl (cJ, 8, .inr (.inl zV))), (nn12, .inr (0, [.ref nn16, .long q0.toInt64, .long q1.toInt64, .long zh, .long zb, .int zt])), (nn16, .inr (2, [.long q0.toInt64])), (nn34, .inr (1, [.null, .long 0, .long 0]))] H := hP
  have hD : va_D A [(dk, .inr (3, [.ref so, .ref vo, .ref nn12, vp])), (so, .inl (cJ, 16, .inr (.inl zS))), (vo, .inl (cJ, 8, .inr (.inl zV))), (nn12, .inr (0, [.ref nn16, .long q0.toInt64, .long q1.toInt64, .long zh, .long zb, .int zt])), (nn16, .inr (2, [.long q0.toInt64])), (nn34, .inr (1, [.null, .long 0, .long 0]))] := hD
  refine W.widen (k := 3) (n := 10) (by decide) (by decide) ?_
  refine lv_dup hx hb dX3_field_37 rfl ?_
  refine lv_aload_n hx hb dX3_field_38 rfl (lv_at hl 0 rfl) ?_
  refine va_get (D := D) (ci := 3) (v := .ref nn12) (C := RX3) (T := TX3) (N := 4) hx hb hts iwX3_field_3 hown hE.1 hP 0 rfl rfl 2 (by decide) (hts _ lkX3_field_0) (fun _ h9 => h9) rfl dX3_field_39 ?_
  refine kE (wc := [(nn34, .inr (1, [.null, .long 0, .long 0])), (nn12, .inr (0, [.ref nn16, .long q0.toInt64, .long q1.toInt64, .long zh, .long zb, .int zt]))]) (wr := [(dk, .inr (3, [.ref so, .ref vo, .ref nn12, vp])), (so, .inl (cJ, 16, .inr (.inl zS))), (vo, .inl (cJ, 8, .inr (.inl zV))), (nn16, .inr (2, [.long q0.toInt64]))]) [5, 3] [0, 1, 2, 4] hP hD hS hA rfl rfl rfl (by decide) rfl (eI (As := [.ref nn12]) (rest := [.ref nn34, .ref dk]) C0 (kX1_init l D cJ cZ nn34 nn12 nn16 q0.toInt64 q1.toInt64 zh zb zt H.size) gX3_field_X1_init rfl ⟨rfl, rfl⟩ (hts _ lkX3_field_11) (hts _ lkX3_field_16) (hts _ lkX3_field_17) rfl hdX1_init ⟨Nat.le_of_ble_eq_true rfl, Nat.le_of_ble_eq_true rfl⟩ (hP.sub [5, 3] rfl) (hD.sub [5, 3] rfl rfl) hE hl rfl rfl (Nat.le_of_ble_eq_true rfl) dX3_field_42 ⟨Nat.le_of_ble_eq_true rfl, Nat.le_of_ble_eq_true rfl⟩) (fun H locs hP hD hS => ?_)
  have hP : va_P D vwCl [(dk, .inr (3, [.ref so, .ref vo, .ref nn12, vp])), (so, .inl (cJ, 16, .inr (.inl zS))), (vo, .inl (cJ, 8, .inr (.inl zV))), (nn34, .inr (1, [.ref nn12, .long q0.toInt64, .long q1.toInt64])), (nn12, .inr (0, [.ref nn16, .long q0.toInt64, .long q1.toInt64, .long zh, .long zb, .int zt])), (nn16, .inr (2, [.long q0.toInt64]))] H := hP.sub [0, 1, 2, 4, 5, 3] rfl
  have hD : va_D A [(dk, .inr (3, [.ref so, .ref vo, .ref nn12, vp])), (so, .inl (cJ, 16, .inr (.inl zS))), (vo, .inl (cJ, 8, .inr (.inl zV))), (nn34, .inr (1, [.ref nn12, .long q0.toInt64, .long q1.toInt64])), (nn12, .inr (0, [.ref nn16, .long q0.toInt64, .long q1.toInt64, .long zh, .long zb, .int zt])), (nn16, .inr (2, [.long q0.toInt64]))] := hD.sub [0, 1, 2, 4, 5, 3] rfl rfl
  refine va_put (D := D) (ci := 3) (v := .ref nn34) (ty := .object "PairingDesk$Pairing") (C := RX3) (T := TX3) (N := 4) hx hb hts iwX3_field_3 tyX3 tyX3_ok nmX3 hown hE.1 hP hD hS 0 rfl rfl 3 (by decide) (hts _ lkX3_field_1) (fun _ h9 => h9) rfl (by decide +kernel) rfl rfl (Nat.le_of_ble_eq_true rfl) dX3_field_45 (fun H locs hP hD hS => ?_)
  have hP : va_P D vwCl [(dk, .inr (3, [.ref so, .ref vo, .ref nn12, .ref nn34])), (so, .inl (cJ, 16, .inr (.inl zS))), (vo, .inl (cJ, 8, .inr (.inl zV))), (nn34, .inr (1, [.ref nn12, .long q0.toInt64, .long q1.toInt64])), (nn12, .inr (0, [.ref nn16, .long q0.toInt64, .long q1.toInt64, .long zh, .long zb, .int zt])), (nn16, .inr (2, [.long q0.toInt64]))] H := hP
  have hD : va_D A [(dk, .inr (3, [.ref so, .ref vo, .ref nn12, .ref nn34])), (so, .inl (cJ, 16, .inr (.inl zS))), (vo, .inl (cJ, 8, .inr (.inl zV))), (nn34, .inr (1, [.ref nn12, .long q0.toInt64, .long q1.toInt64])), (nn12, .inr (0, [.ref nn16, .long q0.toInt64, .long q1.toInt64, .long zh, .long zb, .int zt])), (nn16, .inr (2, [.long q0.toInt64]))] := hD
  refine lv_aload_n hx hb dX3_field_48 rfl (lv_at hl 0 rfl) ?_
  refine kE (wc := [(dk, .inr (3, [.ref so, .ref vo, .ref nn12, .ref nn34])), (so, .inl (cJ, 16, .inr (.inl zS))), (vo, .inl (cJ, 8, .inr (.inl zV)))]) (wr := [(nn34, .inr (1, [.ref nn12, .long q0.toInt64, .long q1.toInt64])), (nn12, .inr (0, [.ref nn16, .long q0.toInt64, .long q1.toInt64, .long zh, .long zb, .int zt])), (nn16, .inr (2, [.long q0.toInt64]))]) [0, 1, 2] [3, 4, 5] hP hD hS hA rfl rfl rfl (by decide) rfl (eV (As := []) (rest := []) C0 (kX3_clearRows l D cJ cZ dk so vo N (.ref nn12) (.ref nn34) zS zV H.size oS oV hc) gX3_field_X3_clearRows rfl ⟨rfl, rfl⟩ hdX3_clearRows ⟨Nat.le_of_ble_eq_true rfl, Nat.le_of_ble_eq_true rfl⟩ 3 0 rfl rfl rfl (hP.sub [0, 1, 2] rfl) (hD.sub [0, 1, 2] rfl rfl) hE hl rfl rfl (Nat.le_of_ble_eq_true rfl) dX3_field_49 ⟨Nat.le_of_ble_eq_true rfl, Nat.le_of_ble_eq_true rfl⟩) (fun H locs hP hD hS => ?_)
  have hP : va_P D vwCl [(dk, .inr (3, [.ref so, .ref vo, .ref nn12, .ref nn34])), (so, .inl (cJ, 16, .inr (.inl oS))), (vo, .inl (cJ, 8, .inr (.inl oV))), (nn34, .inr (1, [.ref nn12, .long q0.toInt64, .long q1.toInt64])), (nn12, .inr (0, [.ref nn16, .long q0.toInt64, .long q1.toInt64, .long zh, .long zb, .int zt])), (nn16, .inr (2, [.long q0.toInt64]))] H := hP.sub [3, 4, 5, 0, 1, 2] rfl
  have hD : va_D A [(dk, .inr (3, [.ref so, .ref vo, .ref nn12, .ref nn34])), (so, .inl (cJ, 16, .inr (.inl oS))), (vo, .inl (cJ, 8, .inr (.inl oV))), (nn34, .inr (1, [.ref nn12, .long q0.toInt64, .long q1.toInt64])), (nn12, .inr (0, [.ref nn16, .long q0.toInt64, .long q1.toInt64, .long zh, .long zb, .int zt])), (nn16, .inr (2, [.long q0.toInt64]))] := hD.sub [3, 4, 5, 0, 1, 2] rfl rfl
  refine lv_aload_n hx hb dX3_field_52 rfl (lv_at hl 0 rfl) ?_
  refine va_get (D := D) (ci := 3) (v := .ref nn12) (C := RX3) (T := TX3) (N := 4) hx hb hts iwX3_field_3 hown hE.1 hP 0 rfl rfl 2 (by decide) (hts _ lkX3_field_0) (fun _ h9 => h9) rfl dX3_field_53 ?_
  refine va_get (D := D) (ci := 0) (v := .long zh) (C := RX0) (T := TX0) (N := 6) hx hb hts iwX3_field_0 hown hE.1 hP 4 rfl rfl 3 (by decide) (hts _ lkX3_field_2) (fun _ h9 => h9) rfl dX3_field_56 ?_
  refine lv_l2i (v := zh.toInt32) hx hb dX3_field_59 rfl ?_
  exact W.iret hx hb hr (fun t ht _ => ⟨⟨(nn34, nn12, nn16), rfl, by rw [ht]; exact hP, hD⟩, hS.F ht⟩) hS.2.2 dX3_field_60 hlocks
