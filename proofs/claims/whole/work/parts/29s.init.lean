abbrev rmX4_init : Room := { frames := 1, cells := 5, slots := 64, locals := 20 }
theorem hdX4_init : KN yX4_init 0 := by decide +kernel
theorem lkX4_init_0 : (.fieldLink RX4 7 "PairingDeskModel" "px" "[J" : Cond) ∈ wsX4_init := by decide +kernel
theorem lkX4_init_1 : (.fieldLink RX4 13 "PairingDeskModel" "py" "[J" : Cond) ∈ wsX4_init := by decide +kernel
theorem lkX4_init_2 : (.fieldLink RX4 16 "PairingDeskModel" "isPoint" "[Z" : Cond) ∈ wsX4_init := by decide +kernel
theorem lkX4_init_3 : (.fieldLink RX4 20 "PairingDeskModel" "vu" "[J" : Cond) ∈ wsX4_init := by decide +kernel
theorem lkX4_init_4 : (.fieldLink RX4 23 "PairingDeskModel" "vv" "[J" : Cond) ∈ wsX4_init := by decide +kernel
theorem iwX4_init_4 : ∀ w ∈ wsX40, w ∈ wsX4_init := by decide +kernel
set_option maxHeartbeats 4000000 in
set_option maxRecDepth 100000 in
theorem kX4_init (l : Launch) (D : va_G) (cJ cZ : ClassId) (mo : Nat) (sz : Nat) : Met l yX4_init wsX4_init rmX4_init (PE D cJ cZ [.ref mo] [(mo, .inr (4, [.long 0, .long 0, .long 0, .null, .null, .null, .null, .null, .long 0, .long 0, .int (bI false), .long 0, .long 0, .int 0]))] sz) (QX D (fun _ : Nat × Nat × Nat × Nat × Nat => none) (fun u : Nat × Nat × Nat × Nat × Nat => [(mo, .inr (4, [.long 0, .long 0, .long 0, .ref u.1, .ref u.2.1, .ref u.2.2.1, .ref u.2.2.2.1, .ref u.2.2.2.2, .long 0, .long 0, .int (bI false), .long 0, .long 0, .int 0])), (u.1, .inl (cJ, 16, .inr (.inl (fun _ => 0)))), (u.2.1, .inl (cJ, 16, .inr (.inl (fun _ => 0)))), (u.2.2.1, .inl (cZ, 16, .inl (fun i => bI ((fun _ => false) i)))), (u.2.2.2.1, .inl (cJ, 8, .inr (.inl (fun _ => 0)))), (u.2.2.2.2, .inl (cJ, 8, .inr (.inl (fun _ => 0))))]) (va_A [(mo, .inr (4, [.long 0, .long 0, .long 0, .null, .null, .null, .null, .null, .long 0, .long 0, .int (bI false), .long 0, .long 0, .int 0]))] sz)) 5 64 (va_A [(mo, .inr (4, [.long 0, .long 0, .long 0, .null, .null, .null, .null, .null, .long 0, .long 0, .int (bI false), .long 0, .long 0, .int 0]))] sz) := by
  refine Met.ofW (cc := cX4_init) (maxL := 1) (ret := none) (by decide) rfl ?_
  intro pg e s m args below meth c s₁ B hml hv
  obtain ⟨rfl, hsz, hP, hE, hD0⟩ := hv
  have hx := B.exec
  have hb := B.bytes
  have hr := B.returns
  have hlocks := B.notSynchronized
  have C0 : CallFix pg m c cX4_init 1 s ([.ref mo] : List Value).toArray wsX4_init RX4 := ⟨hx, hb, hml, findClass_of_methodNamed B.named, atoms_spec (ws := wsX4_init) B.pre⟩
  have hown := C0.2.2.2.1
  have hts := C0.2.2.2.2
  have hin : meth.name = "<init>" := (name_of_methodNamed B.named B.method).1
  subst hsz
  have hD := hD0.self (sz := s.heap.size)
  generalize hAe : va_A [(mo, .inr (4, [.long 0, .long 0, .long 0, .null, .null, .null, .null, .null, .long 0, .long 0, .int (bI false), .long 0, .long 0, .int 0]))] s.heap.size = A at hD ⊢
  have hA : ∀ q : Nat, s.heap.size ≤ q → A q := fun q h => by rw [← hAe]; exact Or.inr h
  have hS : va_S A s.heap s.heap [] := va_S.rf
  have hP : va_P D vwCl [(mo, .inr (4, [.long 0, .long 0, .long 0, .null, .null, .null, .null, .null, .long 0, .long 0, .int (bI false), .long 0, .long 0, .int 0]))] s.heap := hP
  have hl := lv_entry ([.ref mo]) (n := 1) (Nat.le_of_ble_eq_true rfl)
  rw [lg_entry_eq]
  generalize (lg_sl ([.ref mo]) ++ List.replicate (1 - (lg_sl ([.ref mo])).length) Slot.unset).toArray = ls at hl ⊢
  have hl : lv_has ls 1 [(0, .ref mo)] := hl
  refine lv_aload_n hx hb dX4_init_0 rfl (lv_at hl 0 rfl) ?_
  refine W.objInit hx hb hown (hts (.methodLink RX4 1 objectInit) (by decide +kernel)) (hts (.instanceMethod objectInit) (by decide +kernel)) (hts _ (List.mem_of_getElem? (i := 3) rfl)) rfl (by rw [hml]; exact hl.1) rfl dX4_init_1 (Nat.le_of_ble_eq_true rfl) (Nat.le_of_ble_eq_true rfl) ?_
  refine W.eq (g2 := F0 m 4 ls []) rfl ?_
  refine lv_aload_n hx hb dX4_init_4 rfl (lv_at hl 0 rfl) ?_
  refine lv_bipush (v := 16) hx hb dX4_init_5 (by decide) ?_
  refine va_newa (atype := .long) (ty := .long) (n := 16) (a0 := (16, .inr (.inl (fun _ => 0)))) (N' := 16) hx hb (hts (.arrayClass .long) (by decide +kernel)) rfl hE.1 hP hD hS hA (fun _ => rfl) (by decide) (by decide) (Nat.le_of_ble_eq_true rfl) (Nat.le_of_ble_eq_true rfl) (Nat.le_of_ble_eq_true rfl) dX4_init_7 (fun qq7 cA H hK hP hD hS => ?_)
  obtain rfl : cJ = cA := (cJ_eq hE hK).symm
  have hP : va_P D vwCl [(mo, .inr (4, [.long 0, .long 0, .long 0, .null, .null, .null, .null, .null, .long 0, .long 0, .int (bI false), .long 0, .long 0, .int 0])), (qq7, .inl (cJ, 16, .inr (.inl (fun _ => 0))))] H := hP
  have hD : va_D A [(mo, .inr (4, [.long 0, .long 0, .long 0, .null, .null, .null, .null, .null, .long 0, .long 0, .int (bI false), .long 0, .long 0, .int 0])), (qq7, .inl (cJ, 16, .inr (.inl (fun _ => 0))))] := hD
  refine W.widen (k := 1) (n := 16) (by decide) (by decide) ?_
  refine va_putF (D := D) (ci := 4) (v := .ref qq7) (ty := .array .long) (C := RX4) (T := TX4) (N := 14) hx hb hts iwX4_init_4 tyX4 tyX4_ok nmX4 hown hE.1 hP hD hS 0 rfl rfl 3 (by decide) (hts _ lkX4_init_0) (fun _ h9 => h9) rfl hin rfl (by decide +kernel) rfl rfl (Nat.le_of_ble_eq_true rfl) dX4_init_9 (fun H locs hP hD hS => ?_)
  have hP : va_P D vwCl [(mo, .inr (4, [.long 0, .long 0, .long 0, .ref qq7, .null, .null, .null, .null, .long 0, .long 0, .int (bI false), .long 0, .long 0, .int 0])), (qq7, .inl (cJ, 16, .inr (.inl (fun _ => 0))))] H := hP
  have hD : va_D A [(mo, .inr (4, [.long 0, .long 0, .long 0, .ref qq7, .null, .null, .null, .null, .long 0, .long 0, .int (bI false), .long 0, .long 0, .int 0])), (qq7, .inl (cJ, 16, .inr (.inl (fun _ => 0))))] := hD
  refine lv_aload_n hx hb dX4_init_12 rfl (lv_at hl 0 rfl) ?_
  refine lv_bipush (v := 16) hx hb dX4_init_13 (by decide) ?_
  refine va_newa (atype := .long) (ty := .long) (n := 16) (a0 := (16, .inr (.inl (fun _ => 0)))) (N' := 16) hx hb (hts (.arrayClass .long) (by decide +kernel)) rfl hE.1 hP hD hS hA (fun _ => rfl) (by decide) (by decide) (Nat.le_of_ble_eq_true rfl) (Nat.le_of_ble_eq_true rfl) (Nat.le_of_ble_eq_true rfl) dX4_init_15 (fun qq15 cA H hK hP hD hS => ?_)
  obtain rfl : cJ = cA := (cJ_eq hE hK).symm
  have hP : va_P D vwCl [(mo, .inr (4, [.long 0, .long 0, .long 0, .ref qq7, .null, .null, .null, .null, .long 0, .long 0, .int (bI false), .long 0, .long 0, .int 0])), (qq7, .inl (cJ, 16, .inr (.inl (fun _ => 0)))), (qq15, .inl (cJ, 16, .inr (.inl (fun _ => 0))))] H := hP
  have hD : va_D A [(mo, .inr (4, [.long 0, .long 0, .long 0, .ref qq7, .null, .null, .null, .null, .long 0, .long 0, .int (bI false), .long 0, .long 0, .int 0])), (qq7, .inl (cJ, 16, .inr (.inl (fun _ => 0)))), (qq15, .inl (cJ, 16, .inr (.inl (fun _ => 0))))] := hD
  refine W.widen (k := 2) (n := 32) (by decide) (by decide) ?_
  refine va_putF (D := D) (ci := 4) (v := .ref qq15) (ty := .array .long) (C := RX4) (T := TX4) (N := 14) hx hb hts iwX4_init_4 tyX4 tyX4_ok nmX4 hown hE.1 hP hD hS 0 rfl rfl 4 (by decide) (hts _ lkX4_init_1) (fun _ h9 => h9) rfl hin rfl (by decide +kernel) rfl rfl (Nat.le_of_ble_eq_true rfl) dX4_init_17 (fun H locs hP hD hS => ?_)
  have hP : va_P D vwCl [(mo, .inr (4, [.long 0, .long 0, .long 0, .ref qq7, .ref qq15, .null, .null, .null, .long 0, .long 0, .int (bI false), .long 0, .long 0, .int 0])), (qq7, .inl (cJ, 16, .inr (.inl (fun _ => 0)))), (qq15, .inl (cJ, 16, .inr (.inl (fun _ => 0))))] H := hP
  have hD : va_D A [(mo, .inr (4, [.long 0, .long 0, .long 0, .ref qq7, .ref qq15, .null, .null, .null, .long 0, .long 0, .int (bI false), .long 0, .long 0, .int 0])), (qq7, .inl (cJ, 16, .inr (.inl (fun _ => 0)))), (qq15, .inl (cJ, 16, .inr (.inl (fun _ => 0))))] := hD
  refine lv_aload_n hx hb dX4_init_20 rfl (lv_at hl 0 rfl) ?_
  refine lv_bipush (v := 16) hx hb dX4_init_21 (by decide) ?_
  refine va_newa (atype := .boolean) (ty := .boolean) (n := 16) (a0 := (16, .inl (fun _ => bI false))) (N' := 16) hx hb (hts (.arrayClass .boolean) (by decide +kernel)) rfl hE.1 hP hD hS hA (fun _ => rfl) (by decide) (by decide) (Nat.le_of_ble_eq_true rfl) (Nat.le_of_ble_eq_true rfl) (Nat.le_of_ble_eq_true rfl) dX4_init_23 (fun qq23 cA H hK hP hD hS => ?_)
  obtain rfl : cZ = cA := (cZ_eq hE hK).symm
  have hP : va_P D vwCl [(mo, .inr (4, [.long 0, .long 0, .long 0, .ref qq7, .ref qq15, .null, .null, .null, .long 0, .long 0, .int (bI false), .long 0, .long 0, .int 0])), (qq7, .inl (cJ, 16, .inr (.inl (fun _ => 0)))), (qq15, .inl (cJ, 16, .inr (.inl (fun _ => 0)))), (qq23, .inl (cZ, 16, .inl (fun i => bI ((fun _ => false) i))))] H := hP
  have hD : va_D A [(mo, .inr (4, [.long 0, .long 0, .long 0, .ref qq7, .ref qq15, .null, .null, .null, .long 0, .long 0, .int (bI false), .long 0, .long 0, .int 0])), (qq7, .inl (cJ, 16, .inr (.inl (fun _ => 0)))), (qq15, .inl (cJ, 16, .inr (.inl (fun _ => 0)))), (qq23, .inl (cZ, 16, .inl (fun i => bI ((fun _ => false) i))))] := hD
  refine W.widen (k := 3) (n := 48) (by decide) (by decide) ?_
  refine va_putF (D := D) (ci := 4) (v := .ref qq23) (ty := .array .boolean) (C := RX4) (T := TX4) (N := 14) hx hb hts iwX4_init_4 tyX4 tyX4_ok nmX4 hown hE.1 hP hD hS 0 rfl rfl 5 (by decide) (hts _ lkX4_init_2) (fun _ h9 => h9) rfl hin rfl (by decide +kernel) rfl rfl (Nat.le_of_ble_eq_true rfl) dX4_init_25 (fun H locs hP hD hS => ?_)
  have hP : va_P D vwCl [(mo, .inr (4, [.long 0, .long 0, .long 0, .ref qq7, .ref qq15, .ref qq23, .null, .null, .long 0, .long 0, .int (bI false), .long 0, .long 0, .int 0])), (qq7, .inl (cJ, 16, .inr (.inl (fun _ => 0)))), (qq15, .inl (cJ, 16, .inr (.inl (fun _ => 0)))), (qq23, .inl (cZ, 16, .inl (fun i => bI ((fun _ => false) i))))] H := hP
  have hD : va_D A [(mo, .inr (4, [.long 0, .long 0, .long 0, .ref qq7, .ref qq15, .ref qq23, .null, .null, .long 0, .long 0, .int (bI false), .long 0, .long 0, .int 0])), (qq7, .inl (cJ, 16, .inr (.inl (fun _ => 0)))), (qq15, .inl (cJ, 16, .inr (.inl (fun _ => 0)))), (qq23, .inl (cZ, 16, .inl (fun i => bI ((fun _ => false) i))))] := hD
  refine lv_aload_n hx hb dX4_init_28 rfl (lv_at hl 0 rfl) ?_
  refine lv_bipush (v := 8) hx hb dX4_init_29 (by decide) ?_
  refine va_newa (atype := .long) (ty := .long) (n := 8) (a0 := (8, .inr (.inl (fun _ => 0)))) (N' := 8) hx hb (hts (.arrayClass .long) (by decide +kernel)) rfl hE.1 hP hD hS hA (fun _ => rfl) (by decide) (by decide) (Nat.le_of_ble_eq_true rfl) (Nat.le_of_ble_eq_true rfl) (Nat.le_of_ble_eq_true rfl) dX4_init_31 (fun qq31 cA H hK hP hD hS => ?_)
  obtain rfl : cJ = cA := (cJ_eq hE hK).symm
  have hP : va_P D vwCl [(mo, .inr (4, [.long 0, .long 0, .long 0, .ref qq7, .ref qq15, .ref qq23, .null, .null, .long 0, .long 0, .int (bI false), .long 0, .long 0, .int 0])), (qq7, .inl (cJ, 16, .inr (.inl (fun _ => 0)))), (qq15, .inl (cJ, 16, .inr (.inl (fun _ => 0)))), (qq23, .inl (cZ, 16, .inl (fun i => bI ((fun _ => false) i)))), (qq31, .inl (cJ, 8, .inr (.inl (fun _ => 0))))] H := hP
  have hD : va_D A [(mo, .inr (4, [.long 0, .long 0, .long 0, .ref qq7, .ref qq15, .ref qq23, .null, .null, .long 0, .long 0, .int (bI false), .long 0, .long 0, .int 0])), (qq7, .inl (cJ, 16, .inr (.inl (fun _ => 0)))), (qq15, .inl (cJ, 16, .inr (.inl (fun _ => 0)))), (qq23, .inl (cZ, 16, .inl (fun i => bI ((fun _ => false) i)))), (qq31, .inl (cJ, 8, .inr (.inl (fun _ => 0))))] := hD
  refine W.widen (k := 4) (n := 56) (by decide) (by decide) ?_
  refine va_putF (D := D) (ci := 4) (v := .ref qq31) (ty := .array .long) (C := RX4) (T := TX4) (N := 14) hx hb hts iwX4_init_4 tyX4 tyX4_ok nmX4 hown hE.1 hP hD hS 0 rfl rfl 6 (by decide) (hts _ lkX4_init_3) (fun _ h9 => h9) rfl hin rfl (by decide +kernel) rfl rfl (Nat.le_of_ble_eq_true rfl) dX4_init_33 (fun H locs hP hD hS => ?_)
  have hP : va_P D vwCl [(mo, .inr (4, [.long 0, .long 0, .long 0, .ref qq7, .ref qq15, .ref qq23, .ref qq31, .null, .long 0, .long 0, .int (bI false), .long 0, .long 0, .int 0])), (qq7, .inl (cJ, 16, .inr (.inl (fun _ => 0)))), (qq15, .inl (cJ, 16, .inr (.inl (fun _ => 0)))), (qq23, .inl (cZ, 16, .inl (fun i => bI ((fun _ => false) i)))), (qq31, .inl (cJ, 8, .inr (.inl (fun _ => 0))))] H := hP
  have hD : va_D A [(mo, .inr (4, [.long 0, .long 0, .long 0, .ref qq7, .ref qq15, .ref qq23, .ref qq31, .null, .long 0, .long 0, .int (bI false), .long 0, .long 0, .int 0])), (qq7, .inl (cJ, 16, .inr (.inl (fun _ => 0)))), (qq15, .inl (cJ, 16, .inr (.inl (fun _ => 0)))), (qq23, .inl (cZ, 16, .inl (fun i => bI ((fun _ => false) i)))), (qq31, .inl (cJ, 8, .inr (.inl (fun _ => 0))))] := hD
  refine lv_aload_n hx hb dX4_init_36 rfl (lv_at hl 0 rfl) ?_
  refine lv_bipush (v := 8) hx hb dX4_init_37 (by decide) ?_
  refine va_newa (atype := .long) (ty := .long) (n := 8) (a0 := (8, .inr (.inl (fun _ => 0)))) (N' := 8) hx hb (hts (.arrayClass .long) (by decide +kernel)) rfl hE.1 hP hD hS hA (fun _ => rfl) (by decide) (by decide) (Nat.le_of_ble_eq_true rfl) (Nat.le_of_ble_eq_true rfl) (Nat.le_of_ble_eq_true rfl) dX4_init_39 (fun qq39 cA H hK hP hD hS => ?_)
  obtain rfl : cJ = cA := (cJ_eq hE hK).symm
  have hP : va_P D vwCl [(mo, .inr (4, [.long 0, .long 0, .long 0, .ref qq7, .ref qq15, .ref qq23, .ref qq31, .null, .long 0, .long 0, .int (bI false), .long 0, .long 0, .int 0])), (qq7, .inl (cJ, 16, .inr (.inl (fun _ => 0)))), (qq15, .inl (cJ, 16, .inr (.inl (fun _ => 0)))), (qq23, .inl (cZ, 16, .inl (fun i => bI ((fun _ => false) i)))), (qq31, .inl (cJ, 8, .inr (.inl (fun _ => 0)))), (qq39, .inl (cJ, 8, .inr (.inl (fun _ => 0))))] H := hP
  have hD : va_D A [(mo, .inr (4, [.long 0, .long 0, .long 0, .ref qq7, .ref qq15, .ref qq23, .ref qq31, .null, .long 0, .long 0, .int (bI false), .long 0, .long 0, .int 0])), (qq7, .inl (cJ, 16, .inr (.inl (fun _ => 0)))), (qq15, .inl (cJ, 16, .inr (.inl (fun _ => 0)))), (qq23, .inl (cZ, 16, .inl (fun i => bI ((fun _ => false) i)))), (qq31, .inl (cJ, 8, .inr (.inl (fun _ => 0)))), (qq39, .inl (cJ, 8, .inr (.inl (fun _ => 0))))] := hD
  refine W.widen (k := 5) (n := 64) (by decide) (by decide) ?_
  refine va_putF (D := D) (ci := 4) (v := .ref qq39) (ty := .array .long) (C := RX4) (T := TX4) (N := 14) hx hb hts iwX4_init_4 tyX4 tyX4_ok nmX4 hown hE.1 hP hD hS 0 rfl rfl 7 (by decide) (hts _ lkX4_init_4) (fun _ h9 => h9) rfl hin rfl (by decide +kernel) rfl rfl (Nat.le_of_ble_eq_true rfl) dX4_init_41 (fun H locs hP hD hS => ?_)
  have hP : va_P D vwCl [(mo, .inr (4, [.long 0, .long 0, .long 0, .ref qq7, .ref qq15, .ref qq23, .ref qq31, .ref qq39, .long 0, .long 0, .int (bI false), .long 0, .long 0, .int 0])), (qq7, .inl (cJ, 16, .inr (.inl (fun _ => 0)))), (qq15, .inl (cJ, 16, .inr (.inl (fun _ => 0)))), (qq23, .inl (cZ, 16, .inl (fun i => bI ((fun _ => false) i)))), (qq31, .inl (cJ, 8, .inr (.inl (fun _ => 0)))), (qq39, .inl (cJ, 8, .inr (.inl (fun _ => 0))))] H := hP
  have hD : va_D A [(mo, .inr (4, [.long 0, .long 0, .long 0, .ref qq7, .ref qq15, .ref qq23, .ref qq31, .ref qq39, .long 0, .long 0, .int (bI false), .long 0, .long 0, .int 0])), (qq7, .inl (cJ, 16, .inr (.inl (fun _ => 0)))), (qq15, .inl (cJ, 16, .inr (.inl (fun _ => 0)))), (qq23, .inl (cZ, 16, .inl (fun i => bI ((fun _ => false) i)))), (qq31, .inl (cJ, 8, .inr (.inl (fun _ => 0)))), (qq39, .inl (cJ, 8, .inr (.inl (fun _ => 0))))] := hD
  exact W.vret hx hb hr (fun t ht _ => ⟨⟨(qq7, qq15, qq23, qq31, qq39), rfl, by rw [ht]; exact hP, hD⟩, hS.F ht⟩) hS.2.2 dX4_init_44 hlocks
