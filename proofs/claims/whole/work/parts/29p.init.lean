abbrev rmX2_init : Room := { frames := 1, cells := 0, slots := 0, locals := 20 }
theorem hdX2_init : KN yX2_init 1 := by decide +kernel
theorem lkX2_init_0 : (.fieldLink RX2 9 "PairingDesk$PrimeField" "p" "J" : Cond) ∈ wsX2_init := by decide +kernel
theorem iwX2_init_2 : ∀ w ∈ wsX20, w ∈ wsX2_init := by decide +kernel
set_option maxHeartbeats 4000000 in
set_option maxRecDepth 100000 in
theorem kX2_init (l : Launch) (D : va_G) (cJ cZ : ClassId) (fo : Nat) (z0 q0 : Int64) (sz : Nat) : Met l yX2_init wsX2_init rmX2_init (PE D cJ cZ [.ref fo, .long q0] [(fo, .inr (2, [.long z0]))] sz) (QE D none [(fo, .inr (2, [.long q0]))] (va_A [(fo, .inr (2, [.long z0]))] sz)) 0 0 (va_A [(fo, .inr (2, [.long z0]))] sz) := by
  refine Met.ofW (cc := cX2_init) (maxL := 3) (ret := none) (by decide) rfl ?_
  intro pg e s m args below meth c s₁ B hml hv
  obtain ⟨rfl, hsz, hP, hE, hD0⟩ := hv
  have hx := B.exec
  have hb := B.bytes
  have hr := B.returns
  have hlocks := B.notSynchronized
  have C0 : CallFix pg m c cX2_init 3 s ([.ref fo, .long q0] : List Value).toArray wsX2_init RX2 := ⟨hx, hb, hml, findClass_of_methodNamed B.named, atoms_spec (ws := wsX2_init) B.pre⟩
  have hown := C0.2.2.2.1
  have hts := C0.2.2.2.2
  have hin : meth.name = "<init>" := (name_of_methodNamed B.named B.method).1
  subst hsz
  have hD := hD0.self (sz := s.heap.size)
  generalize hAe : va_A [(fo, .inr (2, [.long z0]))] s.heap.size = A at hD ⊢
  have hA : ∀ q : Nat, s.heap.size ≤ q → A q := fun q h => by rw [← hAe]; exact Or.inr h
  have hS : va_S A s.heap s.heap [] := va_S.rf
  have hP : va_P D vwCl [(fo, .inr (2, [.long z0]))] s.heap := hP
  have hl := lv_entry ([.ref fo, .long q0]) (n := 3) (Nat.le_of_ble_eq_true rfl)
  rw [lg_entry_eq]
  generalize (lg_sl ([.ref fo, .long q0]) ++ List.replicate (3 - (lg_sl ([.ref fo, .long q0])).length) Slot.unset).toArray = ls at hl ⊢
  have hl : lv_has ls 3 [(0, .ref fo), (1, .long q0)] := hl
  refine lv_aload_n hx hb dX2_init_0 rfl (lv_at hl 0 rfl) ?_
  refine W.objInit hx hb hown (hts (.methodLink RX2 3 objectInit) (by decide +kernel)) (hts (.instanceMethod objectInit) (by decide +kernel)) (hts _ (List.mem_of_getElem? (i := 3) rfl)) rfl (by rw [hml]; exact hl.1) rfl dX2_init_1 (Nat.le_of_ble_eq_true rfl) (Nat.le_of_ble_eq_true rfl) ?_
  refine W.eq (g2 := F0 m 4 ls []) rfl ?_
  refine lv_aload_n hx hb dX2_init_4 rfl (lv_at hl 0 rfl) ?_
  refine lv_lload_n hx hb dX2_init_5 rfl (lv_at hl 1 rfl) ?_
  refine va_putF (D := D) (ci := 2) (v := .long q0) (ty := .long) (C := RX2) (T := TX2) (N := 1) hx hb hts iwX2_init_2 tyX2 tyX2_ok nmX2 hown hE.1 hP hD hS 0 rfl rfl 0 (by decide) (hts _ lkX2_init_0) (fun _ h9 => h9) rfl hin rfl (by decide +kernel) rfl rfl (Nat.le_of_ble_eq_true rfl) dX2_init_6 (fun H locs hP hD hS => ?_)
  have hP : va_P D vwCl [(fo, .inr (2, [.long q0]))] H := hP
  have hD : va_D A [(fo, .inr (2, [.long q0]))] := hD
  exact rfV hx hb hr hlocks hP hD hS dX2_init_9
abbrev rmX1_init : Room := { frames := 1, cells := 0, slots := 0, locals := 20 }
theorem hdX1_init : KN yX1_init 1 := by decide +kernel
theorem lkX1_init_0 : (.fieldLink RX1 9 "PairingDesk$Pairing" "curve" "LPairingDesk$Curve;" : Cond) ∈ wsX1_init := by decide +kernel
theorem lkX1_init_1 : (.fieldLink RX1 15 "PairingDesk$Curve" "p" "J" : Cond) ∈ wsX1_init := by decide +kernel
theorem lkX1_init_2 : (.fieldLink RX1 21 "PairingDesk$Pairing" "p" "J" : Cond) ∈ wsX1_init := by decide +kernel
theorem lkX1_init_3 : (.fieldLink RX1 22 "PairingDesk$Curve" "\x72" "J" : Cond) ∈ wsX1_init := by decide +kernel
theorem lkX1_init_4 : (.fieldLink RX1 25 "PairingDesk$Pairing" "\x72" "J" : Cond) ∈ wsX1_init := by decide +kernel
theorem iwX1_init_1 : ∀ w ∈ wsX10, w ∈ wsX1_init := by decide +kernel
theorem iwX1_init_0 : ∀ w ∈ wsX00, w ∈ wsX1_init := by decide +kernel
set_option maxHeartbeats 4000000 in
set_option maxRecDepth 100000 in
theorem kX1_init (l : Launch) (D : va_G) (cJ cZ : ClassId) (po co fo : Nat) (zp zr zh zb : Int64) (zt : Int32) (sz : Nat) : Met l yX1_init wsX1_init rmX1_init (PE D cJ cZ [.ref po, .ref co] [(po, .inr (1, [.null, .long 0, .long 0])), (co, .inr (0, [.ref fo, .long zp, .long zr, .long zh, .long zb, .int zt]))] sz) (QE D none [(po, .inr (1, [.ref co, .long zp, .long zr])), (co, .inr (0, [.ref fo, .long zp, .long zr, .long zh, .long zb, .int zt]))] (va_A [(po, .inr (1, [.null, .long 0, .long 0])), (co, .inr (0, [.ref fo, .long zp, .long zr, .long zh, .long zb, .int zt]))] sz)) 0 0 (va_A [(po, .inr (1, [.null, .long 0, .long 0])), (co, .inr (0, [.ref fo, .long zp, .long zr, .long zh, .long zb, .int zt]))] sz) := by
  refine Met.ofW (cc := cX1_init) (maxL := 2) (ret := none) (by decide) rfl ?_
  intro pg e s m args below meth c s₁ B hml hv
  obtain ⟨rfl, hsz, hP, hE, hD0⟩ := hv
  have hx := B.exec
  have hb := B.bytes
  have hr := B.returns
  have hlocks := B.notSynchronized
  have C0 : CallFix pg m c cX1_init 2 s ([.ref po, .ref co] : List Value).toArray wsX1_init RX1 := ⟨hx, hb, hml, findClass_of_methodNamed B.named, atoms_spec (ws := wsX1_init) B.pre⟩
  have hown := C0.2.2.2.1
  have hts := C0.2.2.2.2
  have hin : meth.name = "<init>" := (name_of_methodNamed B.named B.method).1
  subst hsz
  have hD := hD0.self (sz := s.heap.size)
  generalize hAe : va_A [(po, .inr (1, [.null, .long 0, .long 0])), (co, .inr (0, [.ref fo, .long zp, .long zr, .long zh, .long zb, .int zt]))] s.heap.size = A at hD ⊢
  have hA : ∀ q : Nat, s.heap.size ≤ q → A q := fun q h => by rw [← hAe]; exact Or.inr h
  have hS : va_S A s.heap s.heap [] := va_S.rf
  have hP : va_P D vwCl [(po, .inr (1, [.null, .long 0, .long 0])), (co, .inr (0, [.ref fo, .long zp, .long zr, .long zh, .long zb, .int zt]))] s.heap := hP
  have hl := lv_entry ([.ref po, .ref co]) (n := 2) (Nat.le_of_ble_eq_true rfl)
  rw [lg_entry_eq]
  generalize (lg_sl ([.ref po, .ref co]) ++ List.replicate (2 - (lg_sl ([.ref po, .ref co])).length) Slot.unset).toArray = ls at hl ⊢
  have hl : lv_has ls 2 [(0, .ref po), (1, .ref co)] := hl
  refine lv_aload_n hx hb dX1_init_0 rfl (lv_at hl 0 rfl) ?_
  refine W.objInit hx hb hown (hts (.methodLink RX1 3 objectInit) (by decide +kernel)) (hts (.instanceMethod objectInit) (by decide +kernel)) (hts _ (List.mem_of_getElem? (i := 3) rfl)) rfl (by rw [hml]; exact hl.1) rfl dX1_init_1 (Nat.le_of_ble_eq_true rfl) (Nat.le_of_ble_eq_true rfl) ?_
  refine W.eq (g2 := F0 m 4 ls []) rfl ?_
  refine lv_aload_n hx hb dX1_init_4 rfl (lv_at hl 0 rfl) ?_
  refine lv_aload_n hx hb dX1_init_5 rfl (lv_at hl 1 rfl) ?_
  refine va_putF (D := D) (ci := 1) (v := .ref co) (ty := .object "PairingDesk$Curve") (C := RX1) (T := TX1) (N := 3) hx hb hts iwX1_init_1 tyX1 tyX1_ok nmX1 hown hE.1 hP hD hS 0 rfl rfl 0 (by decide) (hts _ lkX1_init_0) (fun _ h9 => h9) rfl hin rfl (by decide +kernel) rfl rfl (Nat.le_of_ble_eq_true rfl) dX1_init_6 (fun H locs hP hD hS => ?_)
  have hP : va_P D vwCl [(po, .inr (1, [.ref co, .long 0, .long 0])), (co, .inr (0, [.ref fo, .long zp, .long zr, .long zh, .long zb, .int zt]))] H := hP
  have hD : va_D A [(po, .inr (1, [.ref co, .long 0, .long 0])), (co, .inr (0, [.ref fo, .long zp, .long zr, .long zh, .long zb, .int zt]))] := hD
  refine lv_aload_n hx hb dX1_init_9 rfl (lv_at hl 0 rfl) ?_
  refine lv_aload_n hx hb dX1_init_10 rfl (lv_at hl 1 rfl) ?_
  refine va_get (D := D) (ci := 0) (v := .long zp) (C := RX0) (T := TX0) (N := 6) hx hb hts iwX1_init_0 hown hE.1 hP 1 rfl rfl 1 (by decide) (hts _ lkX1_init_1) (fun _ h9 => h9) rfl dX1_init_11 ?_
  refine va_putF (D := D) (ci := 1) (v := .long zp) (ty := .long) (C := RX1) (T := TX1) (N := 3) hx hb hts iwX1_init_1 tyX1 tyX1_ok nmX1 hown hE.1 hP hD hS 0 rfl rfl 1 (by decide) (hts _ lkX1_init_2) (fun _ h9 => h9) rfl hin rfl (by decide +kernel) rfl rfl (Nat.le_of_ble_eq_true rfl) dX1_init_14 (fun H locs hP hD hS => ?_)
  have hP : va_P D vwCl [(po, .inr (1, [.ref co, .long zp, .long 0])), (co, .inr (0, [.ref fo, .long zp, .long zr, .long zh, .long zb, .int zt]))] H := hP
  have hD : va_D A [(po, .inr (1, [.ref co, .long zp, .long 0])), (co, .inr (0, [.ref fo, .long zp, .long zr, .long zh, .long zb, .int zt]))] := hD
  refine lv_aload_n hx hb dX1_init_17 rfl (lv_at hl 0 rfl) ?_
  refine lv_aload_n hx hb dX1_init_18 rfl (lv_at hl 1 rfl) ?_
  refine va_get (D := D) (ci := 0) (v := .long zr) (C := RX0) (T := TX0) (N := 6) hx hb hts iwX1_init_0 hown hE.1 hP 1 rfl rfl 2 (by decide) (hts _ lkX1_init_3) (fun _ h9 => h9) rfl dX1_init_19 ?_
  refine va_putF (D := D) (ci := 1) (v := .long zr) (ty := .long) (C := RX1) (T := TX1) (N := 3) hx hb hts iwX1_init_1 tyX1 tyX1_ok nmX1 hown hE.1 hP hD hS 0 rfl rfl 2 (by decide) (hts _ lkX1_init_4) (fun _ h9 => h9) rfl hin rfl (by decide +kernel) rfl rfl (Nat.le_of_ble_eq_true rfl) dX1_init_22 (fun H locs hP hD hS => ?_)
  have hP : va_P D vwCl [(po, .inr (1, [.ref co, .long zp, .long zr])), (co, .inr (0, [.ref fo, .long zp, .long zr, .long zh, .long zb, .int zt]))] H := hP
  have hD : va_D A [(po, .inr (1, [.ref co, .long zp, .long zr])), (co, .inr (0, [.ref fo, .long zp, .long zr, .long zh, .long zb, .int zt]))] := hD
  exact rfV hx hb hr hlocks hP hD hS dX1_init_25
