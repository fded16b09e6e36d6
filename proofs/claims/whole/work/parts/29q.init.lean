abbrev rmX0_init : Room := { frames := 5, cells := 0, slots := 0, locals := 156 }
theorem hdX0_init : KN yX0_init 2 := by decide +kernel
theorem lkX0_init_0 : (.fieldLink RX0 9 "PairingDesk$Curve" "field" "LPairingDesk$PrimeField;" : Cond) ∈ wsX0_init := by decide +kernel
theorem lkX0_init_1 : (.fieldLink RX0 15 "PairingDesk$PrimeField" "p" "J" : Cond) ∈ wsX0_init := by decide +kernel
theorem lkX0_init_2 : (.fieldLink RX0 21 "PairingDesk$Curve" "p" "J" : Cond) ∈ wsX0_init := by decide +kernel
theorem lkX0_init_3 : (.fieldLink RX0 22 "PairingDesk$Curve" "\x72" "J" : Cond) ∈ wsX0_init := by decide +kernel
theorem lkX0_init_4 : (.fieldLink RX0 25 "PairingDesk$Curve" "h" "J" : Cond) ∈ wsX0_init := by decide +kernel
theorem lkX0_init_5 : (.fieldLink RX0 32 "PairingDesk$Curve" "base" "J" : Cond) ∈ wsX0_init := by decide +kernel
theorem iwX0_init_0 : ∀ w ∈ wsX00, w ∈ wsX0_init := by decide +kernel
theorem iwX0_init_2 : ∀ w ∈ wsX20, w ∈ wsX0_init := by decide +kernel
def fX0_init (N : Nat) (zp q1 : Int64) : Option (Int64 × Int64 × Int32) :=
  if q1 = 0 then none else
  bnd ((zp + 1) / q1) fun w1 =>
  (fX0_turned N zp w1 0 1).bind fun (r1, o1) =>
  some (w1, r1, o1)
set_option maxHeartbeats 4000000 in
set_option maxRecDepth 100000 in
theorem kX0_init (l : Launch) (D : va_G) (cJ cZ : ClassId) (co fo : Nat) (N : Nat) (zp q1 : Int64) (sz : Nat) (zh zb : Int64) (zt : Int32) (h : fX0_init N zp q1 = some (zh, zb, zt)) : Met l yX0_init wsX0_init rmX0_init (PE D cJ cZ [.ref co, .ref fo, .long q1] [(co, .inr (0, [.null, .long 0, .long 0, .long 0, .long 0, .int 0])), (fo, .inr (2, [.long zp]))] sz) (QE D none [(co, .inr (0, [.ref fo, .long zp, .long q1, .long zh, .long zb, .int zt])), (fo, .inr (2, [.long zp]))] (va_A [(co, .inr (0, [.null, .long 0, .long 0, .long 0, .long 0, .int 0])), (fo, .inr (2, [.long zp]))] sz)) 0 0 (va_A [(co, .inr (0, [.null, .long 0, .long 0, .long 0, .long 0, .int 0])), (fo, .inr (2, [.long zp]))] sz) := by
  refine Met.ofW (cc := cX0_init) (maxL := 4) (ret := none) (by decide) rfl ?_
  intro pg e s m args below meth c s₁ B hml hv
  obtain ⟨rfl, hsz, hP, hE, hD0⟩ := hv
  have hx := B.exec
  have hb := B.bytes
  have hr := B.returns
  have hlocks := B.notSynchronized
  have C0 : CallFix pg m c cX0_init 4 s ([.ref co, .ref fo, .long q1] : List Value).toArray wsX0_init RX0 := ⟨hx, hb, hml, findClass_of_methodNamed B.named, atoms_spec (ws := wsX0_init) B.pre⟩
  have hown := C0.2.2.2.1
  have hts := C0.2.2.2.2
  have hin : meth.name = "<init>" := (name_of_methodNamed B.named B.method).1
  subst hsz
  have hD := hD0.self (sz := s.heap.size)
  generalize hAe : va_A [(co, .inr (0, [.null, .long 0, .long 0, .long 0, .long 0, .int 0])), (fo, .inr (2, [.long zp]))] s.heap.size = A at hD ⊢
  have hA : ∀ q : Nat, s.heap.size ≤ q → A q := fun q h => by rw [← hAe]; exact Or.inr h
  have hS : va_S A s.heap s.heap [] := va_S.rf
  have hP : va_P D vwCl [(co, .inr (0, [.null, .long 0, .long 0, .long 0, .long 0, .int 0])), (fo, .inr (2, [.long zp]))] s.heap := hP
  have hl := lv_entry ([.ref co, .ref fo, .long q1]) (n := 4) (Nat.le_of_ble_eq_true rfl)
  rw [lg_entry_eq]
  generalize (lg_sl ([.ref co, .ref fo, .long q1]) ++ List.replicate (4 - (lg_sl ([.ref co, .ref fo, .long q1])).length) Slot.unset).toArray = ls at hl ⊢
  have hl : lv_has ls 4 [(0, .ref co), (1, .ref fo), (2, .long q1)] := hl
  refine lv_aload_n hx hb dX0_init_0 rfl (lv_at hl 0 rfl) ?_
  refine W.objInit hx hb hown (hts (.methodLink RX0 3 objectInit) (by decide +kernel)) (hts (.instanceMethod objectInit) (by decide +kernel)) (hts _ (List.mem_of_getElem? (i := 3) rfl)) rfl (by rw [hml]; exact hl.1) rfl dX0_init_1 (Nat.le_of_ble_eq_true rfl) (Nat.le_of_ble_eq_true rfl) ?_
  refine W.eq (g2 := F0 m 4 ls []) rfl ?_
  refine lv_aload_n hx hb dX0_init_4 rfl (lv_at hl 0 rfl) ?_
  refine lv_aload_n hx hb dX0_init_5 rfl (lv_at hl 1 rfl) ?_
  refine va_putF (D := D) (ci := 0) (v := .ref fo) (ty := .object "PairingDesk$PrimeField") (C := RX0) (T := TX0) (N := 6) hx hb hts iwX0_init_0 tyX0 tyX0_ok nmX0 hown hE.1 hP hD hS 0 rfl rfl 0 (by decide) (hts _ lkX0_init_0) (fun _ h9 => h9) rfl hin rfl (by decide +kernel) rfl rfl (Nat.le_of_ble_eq_true rfl) dX0_init_6 (fun H locs hP hD hS => ?_)
  have hP : va_P D vwCl [(co, .inr (0, [.ref fo, .long 0, .long 0, .long 0, .long 0, .int 0])), (fo, .inr (2, [.long zp]))] H := hP
  have hD : va_D A [(co, .inr (0, [.ref fo, .long 0, .long 0, .long 0, .long 0, .int 0])), (fo, .inr (2, [.long zp]))] := hD
  refine lv_aload_n hx hb dX0_init_9 rfl (lv_at hl 0 rfl) ?_
  refine lv_aload_n hx hb dX0_init_10 rfl (lv_at hl 1 rfl) ?_
  refine va_get (D := D) (ci := 2) (v := .long zp) (C := RX2) (T := TX2) (N := 1) hx hb hts iwX0_init_2 hown hE.1 hP 1 rfl rfl 0 (by decide) (hts _ lkX0_init_1) (fun _ h9 => h9) rfl dX0_init_11 ?_
  refine va_putF (D := D) (ci := 0) (v := .long zp) (ty := .long) (C := RX0) (T := TX0) (N := 6) hx hb hts iwX0_init_0 tyX0 tyX0_ok nmX0 hown hE.1 hP hD hS 0 rfl rfl 1 (by decide) (hts _ lkX0_init_2) (fun _ h9 => h9) rfl hin rfl (by decide +kernel) rfl rfl (Nat.le_of_ble_eq_true rfl) dX0_init_14 (fun H locs hP hD hS => ?_)
  have hP : va_P D vwCl [(co, .inr (0, [.ref fo, .long zp, .long 0, .long 0, .long 0, .int 0])), (fo, .inr (2, [.long zp]))] H := hP
  have hD : va_D A [(co, .inr (0, [.ref fo, .long zp, .long 0, .long 0, .long 0, .int 0])), (fo, .inr (2, [.long zp]))] := hD
  refine lv_aload_n hx hb dX0_init_17 rfl (lv_at hl 0 rfl) ?_
  refine lv_lload_n hx hb dX0_init_18 rfl (lv_at hl 2 rfl) ?_
  refine va_putF (D := D) (ci := 0) (v := .long q1) (ty := .long) (C := RX0) (T := TX0) (N := 6) hx hb hts iwX0_init_0 tyX0 tyX0_ok nmX0 hown hE.1 hP hD hS 0 rfl rfl 2 (by decide) (hts _ lkX0_init_3) (fun _ h9 => h9) rfl hin rfl (by decide +kernel) rfl rfl (Nat.le_of_ble_eq_true rfl) dX0_init_19 (fun H locs hP hD hS => ?_)
  have hP : va_P D vwCl [(co, .inr (0, [.ref fo, .long zp, .long q1, .long 0, .long 0, .int 0])), (fo, .inr (2, [.long zp]))] H := hP
  have hD : va_D A [(co, .inr (0, [.ref fo, .long zp, .long q1, .long 0, .long 0, .int 0])), (fo, .inr (2, [.long zp]))] := hD
  unfold fX0_init at h
  obtain ⟨c1, h⟩ := ite_n h
  obtain ⟨w1, ew1, h⟩ := bnd_s h
  obtain ⟨⟨r1, o1⟩, h1, h⟩ := bind_s h
  try dsimp only at h
  refine lv_aload_n hx hb dX0_init_22 rfl (lv_at hl 0 rfl) ?_
  refine lv_aload_n hx hb dX0_init_23 rfl (lv_at hl 1 rfl) ?_
  refine va_get (D := D) (ci := 2) (v := .long zp) (C := RX2) (T := TX2) (N := 1) hx hb hts iwX0_init_2 hown hE.1 hP 1 rfl rfl 0 (by decide) (hts _ lkX0_init_1) (fun _ h9 => h9) rfl dX0_init_24 ?_
  refine lv_lconst (v := 1) hx hb dX0_init_27 (by decide) ?_
  refine lv_ladd hx hb dX0_init_28 ?_
  refine lv_lload_n hx hb dX0_init_29 rfl (lv_at hl 2 rfl) ?_
  refine lv_ldiv hx hb dX0_init_30 c1 ?_
  refine tl ew1.symm ?_
  refine va_putF (D := D) (ci := 0) (v := .long w1) (ty := .long) (C := RX0) (T := TX0) (N := 6) hx hb hts iwX0_init_0 tyX0 tyX0_ok nmX0 hown hE.1 hP hD hS 0 rfl rfl 3 (by decide) (hts _ lkX0_init_4) (fun _ h9 => h9) rfl hin rfl (by decide +kernel) rfl rfl (Nat.le_of_ble_eq_true rfl) dX0_init_31 (fun H locs hP hD hS => ?_)
  have hP : va_P D vwCl [(co, .inr (0, [.ref fo, .long zp, .long q1, .long w1, .long 0, .int 0])), (fo, .inr (2, [.long zp]))] H := hP
  have hD : va_D A [(co, .inr (0, [.ref fo, .long zp, .long q1, .long w1, .long 0, .int 0])), (fo, .inr (2, [.long zp]))] := hD
  refine lv_aload_n hx hb dX0_init_34 rfl (lv_at hl 0 rfl) ?_
  refine lv_aload_n hx hb dX0_init_35 rfl (lv_at hl 0 rfl) ?_
  refine lv_lconst (v := 1) hx hb dX0_init_36 (by decide) ?_
  refine kE (wc := [(co, .inr (0, [.ref fo, .long zp, .long q1, .long w1, .long 0, .int 0])), (fo, .inr (2, [.long zp]))]) (wr := []) [0, 1] [] hP hD hS hA rfl rfl rfl (by decide) rfl (eV (As := [.long 1]) (rest := [.ref co]) C0 (kX0_turned l D cJ cZ co fo N zp q1 w1 0 0 1 H.size r1 o1 h1) gX0_init_X0_turned rfl ⟨rfl, rfl⟩ hdX0_turned ⟨Nat.le_of_ble_eq_true rfl, Nat.le_of_ble_eq_true rfl⟩ 0 0 rfl rfl rfl hP hD hE hl rfl rfl (Nat.le_of_ble_eq_true rfl) dX0_init_37 ⟨Nat.zero_le _, Nat.zero_le _⟩) (fun H locs hP hD hS => ?_)
  have hP : va_P D vwCl [(co, .inr (0, [.ref fo, .long zp, .long q1, .long w1, .long 0, .int o1])), (fo, .inr (2, [.long zp]))] H := hP
  have hD : va_D A [(co, .inr (0, [.ref fo, .long zp, .long q1, .long w1, .long 0, .int o1])), (fo, .inr (2, [.long zp]))] := hD
  refine va_putF (D := D) (ci := 0) (v := .long r1) (ty := .long) (C := RX0) (T := TX0) (N := 6) hx hb hts iwX0_init_0 tyX0 tyX0_ok nmX0 hown hE.1 hP hD hS 0 rfl rfl 4 (by decide) (hts _ lkX0_init_5) (fun _ h9 => h9) rfl hin rfl (by decide +kernel) rfl rfl (Nat.le_of_ble_eq_true rfl) dX0_init_40 (fun H locs hP hD hS => ?_)
  have hP : va_P D vwCl [(co, .inr (0, [.ref fo, .long zp, .long q1, .long w1, .long r1, .int o1])), (fo, .inr (2, [.long zp]))] H := hP
  have hD : va_D A [(co, .inr (0, [.ref fo, .long zp, .long q1, .long w1, .long r1, .int o1])), (fo, .inr (2, [.long zp]))] := hD
  cases h
  exact rfV hx hb hr hlocks hP hD hS dX0_init_43
