theorem cJ_eq {D : va_G} {cJ cZ cA : ClassId} {s : State} {t : List (ClassId × FieldType)} (hE : EV D cJ cZ s) (hK : va_K D vwCl (t ++ [(cA, .long)]) s) : cA = cJ := by
  have h1 := va_nm_long (hK.2 t.length (cA, .long) (by simp)).2
  have h2 := va_nm_long (hE.1.2 0 (cJ, .long) rfl).2
  exact Option.some.inj (h1.symm.trans h2)
theorem cZ_eq {D : va_G} {cJ cZ cA : ClassId} {s : State} {t : List (ClassId × FieldType)} (hE : EV D cJ cZ s) (hK : va_K D vwCl (t ++ [(cA, .boolean)]) s) : cA = cZ := by
  have h1 := va_nm_boolean (hK.2 t.length (cA, .boolean) (by simp)).2
  have h2 := va_nm_boolean (hE.1.2 1 (cZ, .boolean) rfl).2
  exact Option.some.inj (h1.symm.trans h2)
abbrev rmX3_init : Room := { frames := 1, cells := 2, slots := 24, locals := 21 }
theorem hdX3_init : KN yX3_init 0 := by decide +kernel
theorem lkX3_init_0 : (.fieldLink RX3 9 "PairingDesk" "slots" "[J" : Cond) ∈ wsX3_init := by decide +kernel
theorem lkX3_init_1 : (.fieldLink RX3 13 "PairingDesk" "values" "[J" : Cond) ∈ wsX3_init := by decide +kernel
theorem iwX3_init_3 : ∀ w ∈ wsX30, w ∈ wsX3_init := by decide +kernel
set_option maxHeartbeats 4000000 in
set_option maxRecDepth 100000 in
theorem kX3_init (l : Launch) (D : va_G) (cJ cZ : ClassId) (dk : Nat) (N : Nat) (sz : Nat) (zS zV : Nat → Int64) (h : fX3_clearRows N (fun _ => 0) (fun _ => 0) = some (zS, zV)) : Met l yX3_init wsX3_init rmX3_init (PE D cJ cZ [.ref dk] [(dk, .inr (3, [.null, .null, .null, .null]))] sz) (QX D (fun _ : Nat × Nat => none) (fun u : Nat × Nat => [(dk, .inr (3, [.ref u.1, .ref u.2, .null, .null])), (u.1, .inl (cJ, 16, .inr (.inl zS))), (u.2, .inl (cJ, 8, .inr (.inl zV)))]) (va_A [(dk, .inr (3, [.null, .null, .null, .null]))] sz)) 2 24 (va_A [(dk, .inr (3, [.null, .null, .null, .null]))] sz) := by
  refine Met.ofW (cc := cX3_init) (maxL := 1) (ret := none) (by decide) rfl ?_
  intro pg e s m args below meth c s₁ B hml hv
  obtain ⟨rfl, hsz, hP, hE, hD0⟩ := hv
  have hx := B.exec
  have hb := B.bytes
  have hr := B.returns
  have hlocks := B.notSynchronized
  have C0 : CallFix pg m c cX3_init 1 s ([.ref dk] : List Value).toArray wsX3_init RX3 := ⟨hx, hb, hml, findClass_of_methodNamed B.named, atoms_spec (ws := wsX3_init) B.pre⟩
  have hown := C0.2.2.2.1
  have hts := C0.2.2.2.2
  have hin : meth.name = "<init>" := (name_of_methodNamed B.named B.method).1
  subst hsz
  have hD := hD0.self (sz := s.heap.size)
  generalize hAe : va_A [(dk, .inr (3, [.null, .null, .null, .null]))] s.heap.size = A at hD ⊢
  have hA : ∀ q : Nat, s.heap.size ≤ q → A q := fun q h => by rw [← hAe]; exact Or.inr h
  have hS : va_S A s.heap s.heap [] := va_S.rf
  have hP : va_P D vwCl [(dk, .inr (3, [.null, .null, .null, .null]))] s.heap := hP
  have hl := lv_entry ([.ref dk]) (n := 1) (Nat.le_of_ble_eq_true rfl)
  rw [lg_entry_eq]
  generalize (lg_sl ([.ref dk]) ++ List.replicate (1 - (lg_sl ([.ref dk])).length) Slot.unset).toArray = ls at hl ⊢
  have hl : lv_has ls 1 [(0, .ref dk)] := hl
  refine lv_aload_n hx hb dX3_init_0 rfl (lv_at hl 0 rfl) ?_
  refine W.objInit hx hb hown (hts (.methodLink RX3 3 objectInit) (by decide +kernel)) (hts (.instanceMethod objectInit) (by decide +kernel)) (hts _ (List.mem_of_getElem? (i := 3) rfl)) rfl (by rw [hml]; exact hl.1) rfl dX3_init_1 (Nat.le_of_ble_eq_true rfl) (Nat.le_of_ble_eq_true rfl) ?_
  refine W.eq (g2 := F0 m 4 ls []) rfl ?_
  refine lv_aload_n hx hb dX3_init_4 rfl (lv_at hl 0 rfl) ?_
  refine lv_bipush (v := 16) hx hb dX3_init_5 (by decide) ?_
  refine va_newa (atype := .long) (ty := .long) (n := 16) (a0 := (16, .inr (.inl (fun _ => 0)))) (N' := 16) hx hb (hts (.arrayClass .long) (by decide +kernel)) rfl hE.1 hP hD hS hA (fun _ => rfl) (by decide) (by decide) (Nat.le_of_ble_eq_true rfl) (Nat.le_of_ble_eq_true rfl) (Nat.le_of_ble_eq_true rfl) dX3_init_7 (fun qq7 cA H hK hP hD hS => ?_)
  obtain rfl : cJ = cA := (cJ_eq hE hK).symm
  have hP : va_P D vwCl [(dk, .inr (3, [.null, .null, .null, .null])), (qq7, .inl (cJ, 16, .inr (.inl (fun _ => 0))))] H := hP
  have hD : va_D A [(dk, .inr (3, [.null, .null, .null, .null])), (qq7, .inl (cJ, 16, .inr (.inl (fun _ => 0))))] := hD
  refine W.widen (k := 1) (n := 16) (by decide) (by decide) ?_
  refine va_putF (D := D) (ci := 3) (v := .ref qq7) (ty := .array .long) (C := RX3) (T := TX3) (N := 4) hx hb hts iwX3_init_3 tyX3 tyX3_ok nmX3 hown hE.1 hP hD hS 0 rfl rfl 0 (by decide) (hts _ lkX3_init_0) (fun _ h9 => h9) rfl hin rfl (by decide +kernel) rfl rfl (Nat.le_of_ble_eq_true rfl) dX3_init_9 (fun H locs hP hD hS => ?_)
  have hP : va_P D vwCl [(dk, .inr (3, [.ref qq7, .null, .null, .null])), (qq7, .inl (cJ, 16, .inr (.inl (fun _ => 0))))] H := hP
  have hD : va_D A [(dk, .inr (3, [.ref qq7, .null, .null, .null])), (qq7, .inl (cJ, 16, .inr (.inl (fun _ => 0))))] := hD
  refine lv_aload_n hx hb dX3_init_12 rfl (lv_at hl 0 rfl) ?_
  refine lv_bipush (v := 8) hx hb dX3_init_13 (by decide) ?_
  refine va_newa (atype := .long) (ty := .long) (n := 8) (a0 := (8, .inr (.inl (fun _ => 0)))) (N' := 8) hx hb (hts (.arrayClass .long) (by decide +kernel)) rfl hE.1 hP hD hS hA (fun _ => rfl) (by decide) (by decide) (Nat.le_of_ble_eq_true rfl) (Nat.le_of_ble_eq_true rfl) (Nat.le_of_ble_eq_true rfl) dX3_init_15 (fun qq15 cA H hK hP hD hS => ?_)
  obtain rfl : cJ = cA := (cJ_eq hE hK).symm
  have hP : va_P D vwCl [(dk, .inr (3, [.ref qq7, .null, .null, .null])), (qq7, .inl (cJ, 16, .inr (.inl (fun _ => 0)))), (qq15, .inl (cJ, 8, .inr (.inl (fun _ => 0))))] H := hP
  have hD : va_D A [(dk, .inr (3, [.ref qq7, .null, .null, .null])), (qq7, .inl (cJ, 16, .inr (.inl (fun _ => 0)))), (qq15, .inl (cJ, 8, .inr (.inl (fun _ => 0))))] := hD
  refine W.widen (k := 2) (n := 24) (by decide) (by decide) ?_
  refine va_putF (D := D) (ci := 3) (v := .ref qq15) (ty := .array .long) (C := RX3) (T := TX3) (N := 4) hx hb hts iwX3_init_3 tyX3 tyX3_ok nmX3 hown hE.1 hP hD hS 0 rfl rfl 1 (by decide) (hts _ lkX3_init_1) (fun _ h9 => h9) rfl hin rfl (by decide +kernel) rfl rfl (Nat.le_of_ble_eq_true rfl) dX3_init_17 (fun H locs hP hD hS => ?_)
  have hP : va_P D vwCl [(dk, .inr (3, [.ref qq7, .ref qq15, .null, .null])), (qq7, .inl (cJ, 16, .inr (.inl (fun _ => 0)))), (qq15, .inl (cJ, 8, .inr (.inl (fun _ => 0))))] H := hP
  have hD : va_D A [(dk, .inr (3, [.ref qq7, .ref qq15, .null, .null])), (qq7, .inl (cJ, 16, .inr (.inl (fun _ => 0)))), (qq15, .inl (cJ, 8, .inr (.inl (fun _ => 0))))] := hD
  refine lv_aload_n hx hb dX3_init_20 rfl (lv_at hl 0 rfl) ?_
  refine kE (wc := [(dk, .inr (3, [.ref qq7, .ref qq15, .null, .null])), (qq7, .inl (cJ, 16, .inr (.inl (fun _ => 0)))), (qq15, .inl (cJ, 8, .inr (.inl (fun _ => 0))))]) (wr := []) [0, 1, 2] [] hP hD hS hA rfl rfl rfl (by decide) rfl (eV (As := []) (rest := []) C0 (kX3_clearRows l D cJ cZ dk qq7 qq15 N .null .null (fun _ => 0) (fun _ => 0) H.size zS zV h) gX3_init_X3_clearRows rfl ⟨rfl, rfl⟩ hdX3_clearRows ⟨Nat.le_of_ble_eq_true rfl, Nat.le_of_ble_eq_true rfl⟩ 3 0 rfl rfl rfl hP hD hE hl rfl rfl (Nat.le_of_ble_eq_true rfl) dX3_init_21 ⟨Nat.le_of_ble_eq_true rfl, Nat.le_of_ble_eq_true rfl⟩) (fun H locs hP hD hS => ?_)
  have hP : va_P D vwCl [(dk, .inr (3, [.ref qq7, .ref qq15, .null, .null])), (qq7, .inl (cJ, 16, .inr (.inl zS))), (qq15, .inl (cJ, 8, .inr (.inl zV)))] H := hP
  have hD : va_D A [(dk, .inr (3, [.ref qq7, .ref qq15, .null, .null])), (qq7, .inl (cJ, 16, .inr (.inl zS))), (qq15, .inl (cJ, 8, .inr (.inl zV)))] := hD
  exact W.vret hx hb hr (fun t ht _ => ⟨⟨(qq7, qq15), rfl, by rw [ht]; exact hP, hD⟩, hS.F ht⟩) hS.2.2 dX3_init_24 hlocks
