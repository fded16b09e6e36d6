def fX4_in  (q0 : Int64) (q1 : Int64) (q2 : Int64) : Option (Bool) :=
  if q0 < q1 then
    some false
  else
    if q2 < q0 then
      some false
    else
      some true
abbrev rmX4_in : Room := { frames := 0, cells := 0, slots := 0, locals := 0 }
theorem hdX4_in : KN yX4_in 3 := by decide +kernel
set_option maxHeartbeats 4000000 in
set_option maxRecDepth 100000 in
theorem kX4_in (l : Launch) (D : va_G) (cJ cZ : ClassId) (q0 : Int64) (q1 : Int64) (q2 : Int64) (rr : Bool) (h : fX4_in q0 q1 q2 = some rr) : Met l yX4_in wsX4_in rmX4_in (PP D cJ cZ [.long q0, .long q1, .long q2] []) (SI (bI rr)) 0 0 (fun _ => False) := by
  refine Met.ofW (cc := cX4_in) (maxL := 6) (ret := some .boolean) (by decide) rfl ?_
  intro pg e s m args below meth c s₁ B hml hv
  obtain ⟨rfl, hP, hE⟩ := hv
  have hx := B.exec
  have hb := B.bytes
  have hr := B.returns
  have hlocks := B.notSynchronized
  have C0 : CallFix pg m c cX4_in 6 s ([.long q0, .long q1, .long q2] : List Value).toArray wsX4_in RX4 := ⟨hx, hb, hml, findClass_of_methodNamed B.named, atoms_spec (ws := wsX4_in) B.pre⟩
  have hown := C0.2.2.2.1
  have hts := C0.2.2.2.2
  have hl := lv_entry ([.long q0, .long q1, .long q2]) (n := 6) (Nat.le_of_ble_eq_true rfl)
  rw [lg_entry_eq]
  generalize (lg_sl ([.long q0, .long q1, .long q2]) ++ List.replicate (6 - (lg_sl ([.long q0, .long q1, .long q2])).length) Slot.unset).toArray = ls at hl ⊢
  have hl : lv_has ls 6 [(0, .long q0), (2, .long q1), (4, .long q2)] := hl
  unfold fX4_in at h
  refine lv_lload_n hx hb dX4_in_0 rfl (lv_at hl 0 rfl) ?_
  refine lv_lload_n hx hb dX4_in_1 rfl (lv_at hl 1 rfl) ?_
  refine lc_lt (tgt := 17) hx hb dX4_in_2 dX4_in_3 (by decide) (fun c1 => ?_) (fun c1 => ?_)
  · have h := ite_t c1 h
    refine lv_iconst (v := 0) hx hb dX4_in_17 (by decide) ?_
    exact reZ (v := false) hx hb hr hlocks h dX4_in_18
  · have h := ite_f c1 h
    refine lv_lload_n hx hb dX4_in_6 rfl (lv_at hl 0 rfl) ?_
    refine lv_lload hx hb dX4_in_7 (lv_at hl 2 rfl) ?_
    refine lc_gt (tgt := 17) hx hb dX4_in_9 dX4_in_10 (by decide) (fun c2 => ?_) (fun c2 => ?_)
    · have h := ite_t c2 h
      refine lv_iconst (v := 0) hx hb dX4_in_17 (by decide) ?_
      exact reZ (v := false) hx hb hr hlocks h dX4_in_18
    · have h := ite_f c2 h
      refine lv_iconst (v := 1) hx hb dX4_in_13 (by decide) ?_
      refine lv_goto (tgt := 18) hx hb dX4_in_14 (by decide) ?_
      exact reZ (v := true) hx hb hr hlocks h dX4_in_18
def fX4_isPrime_14 (N : Nat) (l0 : Int64) : Nat → Int64 → Option (Bool)
  | 0, _ => none
  | n + 1, l2 =>
    if l0 < (l2 * l2) then
      some true
    else
      if l2 = 0 then none else
      if (jrem l0 l2) = 0 then
        some false
      else
        bnd (l2 + 1) fun w5 =>
        fX4_isPrime_14 N l0 n w5
def fX4_isPrime (N : Nat) (q0 : Int64) : Option (Bool) :=
  if 2 ≤ q0 then
    fX4_isPrime_14 N q0 N 2
  else
    some false
abbrev rmX4_isPrime : Room := { frames := 0, cells := 0, slots := 0, locals := 0 }
theorem lkX4_isPrime_0 : (.constantLong RX4 26 (2) : Cond) ∈ wsX4_isPrime := by decide +kernel
theorem hdX4_isPrime : KN yX4_isPrime 1 := by decide +kernel
set_option maxHeartbeats 4000000 in
set_option maxRecDepth 100000 in
theorem kX4_isPrime (l : Launch) (D : va_G) (cJ cZ : ClassId) (N : Nat) (q0 : Int64) (rr : Bool) (h : fX4_isPrime N q0 = some rr) : Met l yX4_isPrime wsX4_isPrime rmX4_isPrime (PP D cJ cZ [.long q0] []) (SI (bI rr)) 0 0 (fun _ => False) := by
  refine Met.ofW (cc := cX4_isPrime) (maxL := 4) (ret := some .boolean) (by decide) rfl ?_
  intro pg e s m args below meth c s₁ B hml hv
  obtain ⟨rfl, hP, hE⟩ := hv
  have hx := B.exec
  have hb := B.bytes
  have hr := B.returns
  have hlocks := B.notSynchronized
  have C0 : CallFix pg m c cX4_isPrime 4 s ([.long q0] : List Value).toArray wsX4_isPrime RX4 := ⟨hx, hb, hml, findClass_of_methodNamed B.named, atoms_spec (ws := wsX4_isPrime) B.pre⟩
  have hown := C0.2.2.2.1
  have hts := C0.2.2.2.2
  have hl := lv_entry ([.long q0]) (n := 4) (Nat.le_of_ble_eq_true rfl)
  rw [lg_entry_eq]
  generalize (lg_sl ([.long q0]) ++ List.replicate (4 - (lg_sl ([.long q0])).length) Slot.unset).toArray = ls at hl ⊢
  have hl : lv_has ls 4 [(0, .long q0)] := hl
  have loop14 : ∀ (l0 : Int64), ∀ (n : Nat) (l2 : Int64), fX4_isPrime_14 N l0 n l2 = some rr → ∀ ls : Array Slot, lv_has ls 4 [(0, .long l0), (2, .long l2)] → W pg l e (headSpec wsX4_isPrime rmX4_isPrime).room s m ([.long q0] : List Value).toArray below meth c s.heap [] 0 0 (MQ below (SI (bI rr)) ([.long q0] : List Value).toArray s 0 0 (fun _ => False)) (F0 m 14 ls []) := by
    intro l0
    intro n
    induction n with
    | zero =>
      intro l2 h
      cases h
    | succ n ih =>
      intro l2 h ls hl
      rw [fX4_isPrime_14] at h
      refine lv_lload_n hx hb dX4_isPrime_14 rfl (lv_at hl 1 rfl) ?_
      refine lv_lload_n hx hb dX4_isPrime_15 rfl (lv_at hl 1 rfl) ?_
      refine lv_lmul hx hb dX4_isPrime_16 ?_
      refine lv_lload_n hx hb dX4_isPrime_17 rfl (lv_at hl 0 rfl) ?_
      refine lc_gt (tgt := 39) hx hb dX4_isPrime_18 dX4_isPrime_19 (by decide) (fun c2 => ?_) (fun c2 => ?_)
      · have h := ite_t c2 h
        refine lv_iconst (v := 1) hx hb dX4_isPrime_39 (by decide) ?_
        exact reZ (v := true) hx hb hr hlocks h dX4_isPrime_40
      · have h := ite_f c2 h
        refine lv_lload_n hx hb dX4_isPrime_22 rfl (lv_at hl 0 rfl) ?_
        refine lv_lload_n hx hb dX4_isPrime_23 rfl (lv_at hl 1 rfl) ?_
        obtain ⟨c3, h⟩ := ite_n h
        refine lv_lremJ hx hb dX4_isPrime_24 c3 ?_
        refine lv_lconst (v := 0) hx hb dX4_isPrime_25 (by decide) ?_
        refine lc_ne (tgt := 32) hx hb dX4_isPrime_26 dX4_isPrime_27 (by decide) (fun c4 => ?_) (fun c4 => ?_)
        · have h := ite_f c4 h
          refine lv_lload_n hx hb dX4_isPrime_32 rfl (lv_at hl 1 rfl) ?_
          refine lv_lconst (v := 1) hx hb dX4_isPrime_33 (by decide) ?_
          refine lv_ladd hx hb dX4_isPrime_34 ?_
          obtain ⟨w5, ew5, h⟩ := bnd_s h
          refine tl ew5.symm ?_
          refine lv_lstore_n (lv' := [(2, .long w5), (0, .long l0)]) hx hb dX4_isPrime_35 rfl hl (by decide) rfl (fun ls hl => ?_)
          refine lv_goto (tgt := 14) hx hb dX4_isPrime_36 (by decide) ?_
          exact ih w5 h ls (lv_sub hl [1, 0] rfl)
        · have h := ite_t c4 h
          refine lv_iconst (v := 0) hx hb dX4_isPrime_30 (by decide) ?_
          exact reZ (v := false) hx hb hr hlocks h dX4_isPrime_31
  unfold fX4_isPrime at h
  refine lv_lload_n hx hb dX4_isPrime_0 rfl (lv_at hl 0 rfl) ?_
  refine lv_ldc2 (v := 2) hx hb hown (hts _ lkX4_isPrime_0) dX4_isPrime_1 ?_
  refine lc_ge (tgt := 10) hx hb dX4_isPrime_4 dX4_isPrime_5 (by decide) (fun c1 => ?_) (fun c1 => ?_)
  · have h := ite_t c1 h
    refine lv_ldc2 (v := 2) hx hb hown (hts _ lkX4_isPrime_0) dX4_isPrime_10 ?_
    refine lv_lstore_n (lv' := [(2, .long 2), (0, .long q0)]) hx hb dX4_isPrime_13 rfl hl (by decide) rfl (fun ls hl => ?_)
    exact loop14 q0 N 2 h ls (lv_sub hl [1, 0] rfl)
  · have h := ite_f c1 h
    refine lv_iconst (v := 0) hx hb dX4_isPrime_8 (by decide) ?_
    exact reZ (v := false) hx hb hr hlocks h dX4_isPrime_9
def fX4_fit  (zp : Int64) (q0 : Int64) : Option (Int64) :=
  if zp = 0 then none else
  bnd (jrem q0 zp) fun w2 =>
  if 0 ≤ w2 then
    some w2
  else
    some (w2 + zp)
abbrev rmX4_fit : Room := { frames := 0, cells := 0, slots := 0, locals := 0 }
theorem lkX4_fit_0 : (.fieldLink RX4 28 "PairingDeskModel" "p" "J" : Cond) ∈ wsX4_fit := by decide +kernel
theorem iwX4_fit_4 : ∀ w ∈ wsX40, w ∈ wsX4_fit := by decide +kernel
theorem hdX4_fit : KN yX4_fit 1 := by decide +kernel
set_option maxHeartbeats 4000000 in
set_option maxRecDepth 100000 in
theorem kX4_fit (l : Launch) (D : va_G) (cJ cZ : ClassId) (mo a1 a2 a3 a4 a5 : Nat) (zp : Int64) (zr : Int64) (zh : Int64) (zx : Int64) (zy : Int64) (zi : Bool) (zu : Int64) (zv : Int64) (zl : Int32) (zpx : Nat → Int64) (zpy : Nat → Int64) (zip : Nat → Bool) (zvu : Nat → Int64) (zvv : Nat → Int64) (q0 : Int64) (rr : Int64) (h : fX4_fit zp q0 = some rr) : Met l yX4_fit wsX4_fit rmX4_fit (PP D cJ cZ [.ref mo, .long q0] [(mo, .inr (4, [.long zp, .long zr, .long zh, .ref a1, .ref a2, .ref a3, .ref a4, .ref a5, .long zx, .long zy, .int (bI zi), .long zu, .long zv, .int zl])), (a1, .inl (cJ, 16, .inr (.inl zpx))), (a2, .inl (cJ, 16, .inr (.inl zpy))), (a3, .inl (cZ, 16, .inl (fun i => bI (zip i)))), (a4, .inl (cJ, 8, .inr (.inl zvu))), (a5, .inl (cJ, 8, .inr (.inl zvv)))]) (SL rr) 0 0 (fun _ => False) := by
  refine Met.ofW (cc := cX4_fit) (maxL := 5) (ret := some .long) (by decide) rfl ?_
  intro pg e s m args below meth c s₁ B hml hv
  obtain ⟨rfl, hP, hE⟩ := hv
  have hx := B.exec
  have hb := B.bytes
  have hr := B.returns
  have hlocks := B.notSynchronized
  have C0 : CallFix pg m c cX4_fit 5 s ([.ref mo, .long q0] : List Value).toArray wsX4_fit RX4 := ⟨hx, hb, hml, findClass_of_methodNamed B.named, atoms_spec (ws := wsX4_fit) B.pre⟩
  have hown := C0.2.2.2.1
  have hts := C0.2.2.2.2
  have hl := lv_entry ([.ref mo, .long q0]) (n := 5) (Nat.le_of_ble_eq_true rfl)
  rw [lg_entry_eq]
  generalize (lg_sl ([.ref mo, .long q0]) ++ List.replicate (5 - (lg_sl ([.ref mo, .long q0])).length) Slot.unset).toArray = ls at hl ⊢
  have hl : lv_has ls 5 [(0, .ref mo), (1, .long q0)] := hl
  unfold fX4_fit at h
  refine lv_lload_n hx hb dX4_fit_0 rfl (lv_at hl 1 rfl) ?_
  refine lv_aload_n hx hb dX4_fit_1 rfl (lv_at hl 0 rfl) ?_
  refine va_get (D := D) (ci := 4) (v := .long zp) (C := RX4) (T := TX4) (N := 14) hx hb hts iwX4_fit_4 hown hE.1 hP 0 rfl rfl 0 (by decide) (hts _ lkX4_fit_0) (fun _ h9 => h9) rfl dX4_fit_2 ?_
  obtain ⟨c1, h⟩ := ite_n h
  refine lv_lremJ hx hb dX4_fit_5 c1 ?_
  obtain ⟨w2, ew2, h⟩ := bnd_s h
  refine tl ew2.symm ?_
  refine lv_lstore_n (lv' := [(3, .long w2), (0, .ref mo), (1, .long q0)]) hx hb dX4_fit_6 rfl hl (by decide) rfl (fun ls hl => ?_)
  refine lv_lload_n hx hb dX4_fit_7 rfl (lv_at hl 0 rfl) ?_
  refine lv_lconst (v := 0) hx hb dX4_fit_8 (by decide) ?_
  refine lc_ge (tgt := 22) hx hb dX4_fit_9 dX4_fit_10 (by decide) (fun c3 => ?_) (fun c3 => ?_)
  · have h := ite_t c3 h
    refine lv_lload_n hx hb dX4_fit_22 rfl (lv_at hl 0 rfl) ?_
    exact reL hx hb hr hlocks h dX4_fit_23
  · have h := ite_f c3 h
    refine lv_lload_n hx hb dX4_fit_13 rfl (lv_at hl 0 rfl) ?_
    refine lv_aload_n hx hb dX4_fit_14 rfl (lv_at hl 1 rfl) ?_
    refine va_get (D := D) (ci := 4) (v := .long zp) (C := RX4) (T := TX4) (N := 14) hx hb hts iwX4_fit_4 hown hE.1 hP 0 rfl rfl 0 (by decide) (hts _ lkX4_fit_0) (fun _ h9 => h9) rfl dX4_fit_15 ?_
    refine lv_ladd hx hb dX4_fit_18 ?_
    refine lv_goto (tgt := 23) hx hb dX4_fit_19 (by decide) ?_
    exact reL hx hb hr hlocks h dX4_fit_23
def fX4_raised_13 (N : Nat) (zp : Int64) : Nat → Int64 → Int64 → Int64 → Option (Int64)
  | 0, _, _, _ => none
  | n + 1, l5, l7, l9 =>
    if l9 ≤ 0 then
      some l5
    else
      if (l9 &&& 1) = 1 then
        if zp = 0 then none else
        bnd (jrem (l5 * l7) zp) fun w9 =>
        bnd (jrem (l7 * l7) zp) fun w10 =>
        bnd (jshr l9 1) fun w11 =>
        fX4_raised_13 N zp n w9 w10 w11
      else
        if zp = 0 then none else
        bnd (jrem (l7 * l7) zp) fun w6 =>
        bnd (jshr l9 1) fun w7 =>
        fX4_raised_13 N zp n l5 w6 w7
def fX4_raised (N : Nat) (zp : Int64) (q0 : Int64) (q1 : Int64) : Option (Int64) :=
  (fX4_fit zp q0).bind fun r1 =>
  fX4_raised_13 N zp N 1 r1 q1
abbrev rmX4_raised : Room := { frames := 1, cells := 0, slots := 0, locals := 24 }
theorem lkX4_raised_0 : (.fieldLink RX4 28 "PairingDeskModel" "p" "J" : Cond) ∈ wsX4_raised := by decide +kernel
theorem iwX4_raised_4 : ∀ w ∈ wsX40, w ∈ wsX4_raised := by decide +kernel
theorem hdX4_raised : KN yX4_raised 2 := by decide +kernel
set_option maxHeartbeats 4000000 in
set_option maxRecDepth 100000 in
theorem kX4_raised (l : Launch) (D : va_G) (cJ cZ : ClassId) (mo a1 a2 a3 a4 a5 : Nat) (N : Nat) (zp : Int64) (zr : Int64) (zh : Int64) (zx : Int64) (zy : Int64) (zi : Bool) (zu : Int64) (zv : Int64) (zl : Int32) (zpx : Nat → Int64) (zpy : Nat → Int64) (zip : Nat → Bool) (zvu : Nat → Int64) (zvv : Nat → Int64) (q0 : Int64) (q1 : Int64) (rr : Int64) (h : fX4_raised N zp q0 q1 = some rr) : Met l yX4_raised wsX4_raised rmX4_raised (PP D cJ cZ [.ref mo, .long q0, .long q1] [(mo, .inr (4, [.long zp, .long zr, .long zh, .ref a1, .ref a2, .ref a3, .ref a4, .ref a5, .long zx, .long zy, .int (bI zi), .long zu, .long zv, .int zl])), (a1, .inl (cJ, 16, .inr (.inl zpx))), (a2, .inl (cJ, 16, .inr (.inl zpy))), (a3, .inl (cZ, 16, .inl (fun i => bI (zip i)))), (a4, .inl (cJ, 8, .inr (.inl zvu))), (a5, .inl (cJ, 8, .inr (.inl zvv)))]) (SL rr) 0 0 (fun _ => False) := by
  refine Met.ofW (cc := cX4_raised) (maxL := 11) (ret := some .long) (by decide) rfl ?_
  intro pg e s m args below meth c s₁ B hml hv
  obtain ⟨rfl, hP, hE⟩ := hv
  have hx := B.exec
  have hb := B.bytes
  have hr := B.returns
  have hlocks := B.notSynchronized
  have C0 : CallFix pg m c cX4_raised 11 s ([.ref mo, .long q0, .long q1] : List Value).toArray wsX4_raised RX4 := ⟨hx, hb, hml, findClass_of_methodNamed B.named, atoms_spec (ws := wsX4_raised) B.pre⟩
  have hown := C0.2.2.2.1
  have hts := C0.2.2.2.2
  have hl := lv_entry ([.ref mo, .long q0, .long q1]) (n := 11) (Nat.le_of_ble_eq_true rfl)
  rw [lg_entry_eq]
  generalize (lg_sl ([.ref mo, .long q0, .long q1]) ++ List.replicate (11 - (lg_sl ([.ref mo, .long q0, .long q1])).length) Slot.unset).toArray = ls at hl ⊢
  have hl : lv_has ls 11 [(0, .ref mo), (1, .long q0), (3, .long q1)] := hl
  have loop13 : ∀ (n : Nat) (l5 : Int64) (l7 : Int64) (l9 : Int64), fX4_raised_13 N zp n l5 l7 l9 = some rr → ∀ ls : Array Slot, lv_has ls 11 [(0, .ref mo), (5, .long l5), (7, .long l7), (9, .long l9)] → W pg l e (headSpec wsX4_raised rmX4_raised).room s m ([.ref mo, .long q0, .long q1] : List Value).toArray below meth c s.heap [] 0 0 (MQ below (SL rr) ([.ref mo, .long q0, .long q1] : List Value).toArray s 0 0 (fun _ => False)) (F0 m 13 ls []) := by
    intro n
    induction n with
    | zero =>
      intro l5 l7 l9 h
      cases h
    | succ n ih =>
      intro l5 l7 l9 h ls hl
      rw [fX4_raised_13] at h
      refine lv_lload hx hb dX4_raised_13 (lv_at hl 3 rfl) ?_
      refine lv_lconst (v := 0) hx hb dX4_raised_15 (by decide) ?_
      refine lc_le (tgt := 67) hx hb dX4_raised_16 dX4_raised_17 (by decide) (fun c3 => ?_) (fun c3 => ?_)
      · have h := ite_t c3 h
        refine lv_lload hx hb dX4_raised_67 (lv_at hl 1 rfl) ?_
        exact reL hx hb hr hlocks h dX4_raised_69
      · have h := ite_f c3 h
        refine lv_lload hx hb dX4_raised_20 (lv_at hl 3 rfl) ?_
        refine lv_lconst (v := 1) hx hb dX4_raised_22 (by decide) ?_
        refine lv_land hx hb dX4_raised_23 ?_
        refine lv_lconst (v := 1) hx hb dX4_raised_24 (by decide) ?_
        refine lc_ne (tgt := 42) hx hb dX4_raised_25 dX4_raised_26 (by decide) (fun c4 => ?_) (fun c4 => ?_)
        · have h := ite_f c4 h
          refine lv_lload hx hb dX4_raised_42 (lv_at hl 1 rfl) ?_
          refine lv_lstore (lv' := [(5, .long l5), (0, .ref mo), (7, .long l7), (9, .long l9)]) hx hb dX4_raised_44 hl (by decide) rfl (fun ls hl => ?_)
          refine lv_lload hx hb dX4_raised_46 (lv_at hl 2 rfl) ?_
          refine lv_lload hx hb dX4_raised_48 (lv_at hl 2 rfl) ?_
          refine lv_lmul hx hb dX4_raised_50 ?_
          refine lv_aload_n hx hb dX4_raised_51 rfl (lv_at hl 1 rfl) ?_
          refine va_get (D := D) (ci := 4) (v := .long zp) (C := RX4) (T := TX4) (N := 14) hx hb hts iwX4_raised_4 hown hE.1 hP 0 rfl rfl 0 (by decide) (hts _ lkX4_raised_0) (fun _ h9 => h9) rfl dX4_raised_52 ?_
          obtain ⟨c5, h⟩ := ite_n h
          refine lv_lremJ hx hb dX4_raised_55 c5 ?_
          obtain ⟨w6, ew6, h⟩ := bnd_s h
          refine tl ew6.symm ?_
          refine lv_lstore (lv' := [(7, .long w6), (5, .long l5), (0, .ref mo), (9, .long l9)]) hx hb dX4_raised_56 hl (by decide) rfl (fun ls hl => ?_)
          refine lv_lload hx hb dX4_raised_58 (lv_at hl 3 rfl) ?_
          refine lv_iconst (v := 1) hx hb dX4_raised_60 (by decide) ?_
          refine lv_lshr (v := jshr l9 1) hx hb dX4_raised_61 rfl ?_
          obtain ⟨w7, ew7, h⟩ := bnd_s h
          refine tl ew7.symm ?_
          refine lv_lstore (lv' := [(9, .long w7), (7, .long w6), (5, .long l5), (0, .ref mo)]) hx hb dX4_raised_62 hl (by decide) rfl (fun ls hl => ?_)
          refine lv_goto (tgt := 13) hx hb dX4_raised_64 (by decide) ?_
          exact ih l5 w6 w7 h ls (lv_sub hl [3, 2, 1, 0] rfl)
        · have h := ite_t c4 h
          refine lv_lload hx hb dX4_raised_29 (lv_at hl 1 rfl) ?_
          refine lv_lload hx hb dX4_raised_31 (lv_at hl 2 rfl) ?_
          refine lv_lmul hx hb dX4_raised_33 ?_
          refine lv_aload_n hx hb dX4_raised_34 rfl (lv_at hl 0 rfl) ?_
          refine va_get (D := D) (ci := 4) (v := .long zp) (C := RX4) (T := TX4) (N := 14) hx hb hts iwX4_raised_4 hown hE.1 hP 0 rfl rfl 0 (by decide) (hts _ lkX4_raised_0) (fun _ h9 => h9) rfl dX4_raised_35 ?_
          obtain ⟨c8, h⟩ := ite_n h
          refine lv_lremJ hx hb dX4_raised_38 c8 ?_
          refine lv_goto (tgt := 44) hx hb dX4_raised_39 (by decide) ?_
          obtain ⟨w9, ew9, h⟩ := bnd_s h
          refine tl ew9.symm ?_
          refine lv_lstore (lv' := [(5, .long w9), (0, .ref mo), (7, .long l7), (9, .long l9)]) hx hb dX4_raised_44 hl (by decide) rfl (fun ls hl => ?_)
          refine lv_lload hx hb dX4_raised_46 (lv_at hl 2 rfl) ?_
          refine lv_lload hx hb dX4_raised_48 (lv_at hl 2 rfl) ?_
          refine lv_lmul hx hb dX4_raised_50 ?_
          refine lv_aload_n hx hb dX4_raised_51 rfl (lv_at hl 1 rfl) ?_
          refine va_get (D := D) (ci := 4) (v := .long zp) (C := RX4) (T := TX4) (N := 14) hx hb hts iwX4_raised_4 hown hE.1 hP 0 rfl rfl 0 (by decide) (hts _ lkX4_raised_0) (fun _ h9 => h9) rfl dX4_raised_52 ?_
          refine lv_lremJ hx hb dX4_raised_55 c8 ?_
          obtain ⟨w10, ew10, h⟩ := bnd_s h
          refine tl ew10.symm ?_
          refine lv_lstore (lv' := [(7, .long w10), (5, .long w9), (0, .ref mo), (9, .long l9)]) hx hb dX4_raised_56 hl (by decide) rfl (fun ls hl => ?_)
          refine lv_lload hx hb dX4_raised_58 (lv_at hl 3 rfl) ?_
          refine lv_iconst (v := 1) hx hb dX4_raised_60 (by decide) ?_
          refine lv_lshr (v := jshr l9 1) hx hb dX4_raised_61 rfl ?_
          obtain ⟨w11, ew11, h⟩ := bnd_s h
          refine tl ew11.symm ?_
          refine lv_lstore (lv' := [(9, .long w11), (7, .long w10), (5, .long w9), (0, .ref mo)]) hx hb dX4_raised_62 hl (by decide) rfl (fun ls hl => ?_)
          refine lv_goto (tgt := 13) hx hb dX4_raised_64 (by decide) ?_
          exact ih w9 w10 w11 h ls (lv_sub hl [3, 2, 1, 0] rfl)
  unfold fX4_raised at h
  refine lv_lconst (v := 1) hx hb dX4_raised_0 (by decide) ?_
  refine lv_lstore (lv' := [(5, .long 1), (0, .ref mo), (1, .long q0), (3, .long q1)]) hx hb dX4_raised_1 hl (by decide) rfl (fun ls hl => ?_)
  refine lv_aload_n hx hb dX4_raised_3 rfl (lv_at hl 1 rfl) ?_
  refine lv_lload_n hx hb dX4_raised_4 rfl (lv_at hl 2 rfl) ?_
  obtain ⟨r1, h2, h⟩ := bind_s h
  refine kl (kV (As := [.long q0]) (rest := []) C0 (kX4_fit l D cJ cZ mo a1 a2 a3 a4 a5 zp zr zh zx zy zi zu zv zl zpx zpy zip zvu zvv q0 r1 h2) gX4_raised_X4_fit rfl ⟨rfl, rfl⟩ hdX4_fit ⟨Nat.le_of_ble_eq_true rfl, Nat.le_of_ble_eq_true rfl⟩ 4 0 rfl rfl rfl hP hE hl rfl rfl (Nat.le_of_ble_eq_true rfl) dX4_raised_5 (Nat.zero_le _) (Nat.zero_le _)) ?_
  refine lv_lstore (lv' := [(7, .long r1), (5, .long 1), (0, .ref mo), (1, .long q0), (3, .long q1)]) hx hb dX4_raised_8 hl (by decide) rfl (fun ls hl => ?_)
  refine lv_lload_n hx hb dX4_raised_10 rfl (lv_at hl 4 rfl) ?_
  refine lv_lstore (lv' := [(9, .long q1), (7, .long r1), (5, .long 1), (0, .ref mo), (1, .long q0), (3, .long q1)]) hx hb dX4_raised_11 hl (by decide) rfl (fun ls hl => ?_)
  exact loop13 N 1 r1 q1 h ls (lv_sub hl [3, 2, 1, 0] rfl)
def fX4_turned (N : Nat) (zp : Int64) (q0 : Int64) : Option (Int64) :=
  (fX4_raised N zp q0 (zp - 2)).bind fun r1 =>
  some r1
abbrev rmX4_turned : Room := { frames := 2, cells := 0, slots := 0, locals := 54 }
theorem lkX4_turned_0 : (.fieldLink RX4 28 "PairingDeskModel" "p" "J" : Cond) ∈ wsX4_turned := by decide +kernel
theorem lkX4_turned_1 : (.constantLong RX4 26 (2) : Cond) ∈ wsX4_turned := by decide +kernel
theorem iwX4_turned_4 : ∀ w ∈ wsX40, w ∈ wsX4_turned := by decide +kernel
theorem hdX4_turned : KN yX4_turned 1 := by decide +kernel
set_option maxHeartbeats 4000000 in
set_option maxRecDepth 100000 in
theorem kX4_turned (l : Launch) (D : va_G) (cJ cZ : ClassId) (mo a1 a2 a3 a4 a5 : Nat) (N : Nat) (zp : Int64) (zr : Int64) (zh : Int64) (zx : Int64) (zy : Int64) (zi : Bool) (zu : Int64) (zv : Int64) (zl : Int32) (zpx : Nat → Int64) (zpy : Nat → Int64) (zip : Nat → Bool) (zvu : Nat → Int64) (zvv : Nat → Int64) (q0 : Int64) (rr : Int64) (h : fX4_turned N zp q0 = some rr) : Met l yX4_turned wsX4_turned rmX4_turned (PP D cJ cZ [.ref mo, .long q0] [(mo, .inr (4, [.long zp, .long zr, .long zh, .ref a1, .ref a2, .ref a3, .ref a4, .ref a5, .long zx, .long zy, .int (bI zi), .long zu, .long zv, .int zl])), (a1, .inl (cJ, 16, .inr (.inl zpx))), (a2, .inl (cJ, 16, .inr (.inl zpy))), (a3, .inl (cZ, 16, .inl (fun i => bI (zip i)))), (a4, .inl (cJ, 8, .inr (.inl zvu))), (a5, .inl (cJ, 8, .inr (.inl zvv)))]) (SL rr) 0 0 (fun _ => False) := by
  refine Met.ofW (cc := cX4_turned) (maxL := 3) (ret := some .long) (by decide) rfl ?_
  intro pg e s m args below meth c s₁ B hml hv
  obtain ⟨rfl, hP, hE⟩ := hv
  have hx := B.exec
  have hb := B.bytes
  have hr := B.returns
  have hlocks := B.notSynchronized
  have C0 : CallFix pg m c cX4_turned 3 s ([.ref mo, .long q0] : List Value).toArray wsX4_turned RX4 := ⟨hx, hb, hml, findClass_of_methodNamed B.named, atoms_spec (ws := wsX4_turned) B.pre⟩
  have hown := C0.2.2.2.1
  have hts := C0.2.2.2.2
  have hl := lv_entry ([.ref mo, .long q0]) (n := 3) (Nat.le_of_ble_eq_true rfl)
  rw [lg_entry_eq]
  generalize (lg_sl ([.ref mo, .long q0]) ++ List.replicate (3 - (lg_sl ([.ref mo, .long q0])).length) Slot.unset).toArray = ls at hl ⊢
  have hl : lv_has ls 3 [(0, .ref mo), (1, .long q0)] := hl
  unfold fX4_turned at h
  refine lv_aload_n hx hb dX4_turned_0 rfl (lv_at hl 0 rfl) ?_
  refine lv_lload_n hx hb dX4_turned_1 rfl (lv_at hl 1 rfl) ?_
  refine lv_aload_n hx hb dX4_turned_2 rfl (lv_at hl 0 rfl) ?_
  refine va_get (D := D) (ci := 4) (v := .long zp) (C := RX4) (T := TX4) (N := 14) hx hb hts iwX4_turned_4 hown hE.1 hP 0 rfl rfl 0 (by decide) (hts _ lkX4_turned_0) (fun _ h9 => h9) rfl dX4_turned_3 ?_
  refine lv_ldc2 (v := 2) hx hb hown (hts _ lkX4_turned_1) dX4_turned_6 ?_
  refine lv_lsub hx hb dX4_turned_9 ?_
  obtain ⟨r1, h2, h⟩ := bind_s h
  refine kl (kV (As := [.long q0, .long (zp - 2)]) (rest := []) C0 (kX4_raised l D cJ cZ mo a1 a2 a3 a4 a5 N zp zr zh zx zy zi zu zv zl zpx zpy zip zvu zvv q0 (zp - 2) r1 h2) gX4_turned_X4_raised rfl ⟨rfl, rfl⟩ hdX4_raised ⟨Nat.le_of_ble_eq_true rfl, Nat.le_of_ble_eq_true rfl⟩ 4 0 rfl rfl rfl hP hE hl rfl rfl (Nat.le_of_ble_eq_true rfl) dX4_turned_10 (Nat.zero_le _) (Nat.zero_le _)) ?_
  exact reL hx hb hr hlocks h dX4_turned_13
def fX4_rootOf (N : Nat) (zp : Int64) (q0 : Int64) : Option (Int64) :=
  (fX4_raised N zp q0 ((zp + 1) / 4)).bind fun r1 =>
  if zp = 0 then none else
  (fX4_fit zp q0).bind fun r4 =>
  if (jrem (r1 * r1) zp) = r4 then
    if (r1 &&& 1) = 0 then
      some r1
    else
      some (zp - r1)
  else
    some (-1)
abbrev rmX4_rootOf : Room := { frames := 2, cells := 0, slots := 0, locals := 54 }
theorem lkX4_rootOf_0 : (.fieldLink RX4 28 "PairingDeskModel" "p" "J" : Cond) ∈ wsX4_rootOf := by decide +kernel
theorem lkX4_rootOf_1 : (.constantLong RX4 40 (4) : Cond) ∈ wsX4_rootOf := by decide +kernel
theorem lkX4_rootOf_2 : (.constantLong RX4 42 (-1) : Cond) ∈ wsX4_rootOf := by decide +kernel
theorem iwX4_rootOf_4 : ∀ w ∈ wsX40, w ∈ wsX4_rootOf := by decide +kernel
theorem hdX4_rootOf : KN yX4_rootOf 1 := by decide +kernel
set_option maxHeartbeats 4000000 in
set_option maxRecDepth 100000 in
theorem kX4_rootOf (l : Launch) (D : va_G) (cJ cZ : ClassId) (mo a1 a2 a3 a4 a5 : Nat) (N : Nat) (zp : Int64) (zr : Int64) (zh : Int64) (zx : Int64) (zy : Int64) (zi : Bool) (zu : Int64) (zv : Int64) (zl : Int32) (zpx : Nat → Int64) (zpy : Nat → Int64) (zip : Nat → Bool) (zvu : Nat → Int64) (zvv : Nat → Int64) (q0 : Int64) (rr : Int64) (h : fX4_rootOf N zp q0 = some rr) : Met l yX4_rootOf wsX4_rootOf rmX4_rootOf (PP D cJ cZ [.ref mo, .long q0] [(mo, .inr (4, [.long zp, .long zr, .long zh, .ref a1, .ref a2, .ref a3, .ref a4, .ref a5, .long zx, .long zy, .int (bI zi), .long zu, .long zv, .int zl])), (a1, .inl (cJ, 16, .inr (.inl zpx))), (a2, .inl (cJ, 16, .inr (.inl zpy))), (a3, .inl (cZ, 16, .inl (fun i => bI (zip i)))), (a4, .inl (cJ, 8, .inr (.inl zvu))), (a5, .inl (cJ, 8, .inr (.inl zvv)))]) (SL rr) 0 0 (fun _ => False) := by
  refine Met.ofW (cc := cX4_rootOf) (maxL := 5) (ret := some .long) (by decide) rfl ?_
  intro pg e s m args below meth c s₁ B hml hv
  obtain ⟨rfl, hP, hE⟩ := hv
  have hx := B.exec
  have hb := B.bytes
  have hr := B.returns
  have hlocks := B.notSynchronized
  have C0 : CallFix pg m c cX4_rootOf 5 s ([.ref mo, .long q0] : List Value).toArray wsX4_rootOf RX4 := ⟨hx, hb, hml, findClass_of_methodNamed B.named, atoms_spec (ws := wsX4_rootOf) B.pre⟩
  have hown := C0.2.2.2.1
  have hts := C0.2.2.2.2
  have hl := lv_entry ([.ref mo, .long q0]) (n := 5) (Nat.le_of_ble_eq_true rfl)
  rw [lg_entry_eq]
  generalize (lg_sl ([.ref mo, .long q0]) ++ List.replicate (5 - (lg_sl ([.ref mo, .long q0])).length) Slot.unset).toArray = ls at hl ⊢
  have hl : lv_has ls 5 [(0, .ref mo), (1, .long q0)] := hl
  unfold fX4_rootOf at h
  refine lv_aload_n hx hb dX4_rootOf_0 rfl (lv_at hl 0 rfl) ?_
  refine lv_lload_n hx hb dX4_rootOf_1 rfl (lv_at hl 1 rfl) ?_
  refine lv_aload_n hx hb dX4_rootOf_2 rfl (lv_at hl 0 rfl) ?_
  refine va_get (D := D) (ci := 4) (v := .long zp) (C := RX4) (T := TX4) (N := 14) hx hb hts iwX4_rootOf_4 hown hE.1 hP 0 rfl rfl 0 (by decide) (hts _ lkX4_rootOf_0) (fun _ h9 => h9) rfl dX4_rootOf_3 ?_
  refine lv_lconst (v := 1) hx hb dX4_rootOf_6 (by decide) ?_
  refine lv_ladd hx hb dX4_rootOf_7 ?_
  refine lv_ldc2 (v := 4) hx hb hown (hts _ lkX4_rootOf_1) dX4_rootOf_8 ?_
  refine lv_ldiv hx hb dX4_rootOf_11 (by decide) ?_
  obtain ⟨r1, h2, h⟩ := bind_s h
  refine kl (kV (As := [.long q0, .long ((zp + 1) / 4)]) (rest := []) C0 (kX4_raised l D cJ cZ mo a1 a2 a3 a4 a5 N zp zr zh zx zy zi zu zv zl zpx zpy zip zvu zvv q0 ((zp + 1) / 4) r1 h2) gX4_rootOf_X4_raised rfl ⟨rfl, rfl⟩ hdX4_raised ⟨Nat.le_of_ble_eq_true rfl, Nat.le_of_ble_eq_true rfl⟩ 4 0 rfl rfl rfl hP hE hl rfl rfl (Nat.le_of_ble_eq_true rfl) dX4_rootOf_12 (Nat.zero_le _) (Nat.zero_le _)) ?_
  refine lv_lstore_n (lv' := [(3, .long r1), (0, .ref mo), (1, .long q0)]) hx hb dX4_rootOf_15 rfl hl (by decide) rfl (fun ls hl => ?_)
  refine lv_lload_n hx hb dX4_rootOf_16 rfl (lv_at hl 0 rfl) ?_
  refine lv_lload_n hx hb dX4_rootOf_17 rfl (lv_at hl 0 rfl) ?_
  refine lv_lmul hx hb dX4_rootOf_18 ?_
  refine lv_aload_n hx hb dX4_rootOf_19 rfl (lv_at hl 1 rfl) ?_
  refine va_get (D := D) (ci := 4) (v := .long zp) (C := RX4) (T := TX4) (N := 14) hx hb hts iwX4_rootOf_4 hown hE.1 hP 0 rfl rfl 0 (by decide) (hts _ lkX4_rootOf_0) (fun _ h9 => h9) rfl dX4_rootOf_20 ?_
  obtain ⟨c3, h⟩ := ite_n h
  refine lv_lremJ hx hb dX4_rootOf_23 c3 ?_
  refine lv_aload_n hx hb dX4_rootOf_24 rfl (lv_at hl 1 rfl) ?_
  refine lv_lload_n hx hb dX4_rootOf_25 rfl (lv_at hl 2 rfl) ?_
  obtain ⟨r4, h5, h⟩ := bind_s h
  refine kl (kV (As := [.long q0]) (rest := [.long (jrem (r1 * r1) zp)]) C0 (kX4_fit l D cJ cZ mo a1 a2 a3 a4 a5 zp zr zh zx zy zi zu zv zl zpx zpy zip zvu zvv q0 r4 h5) gX4_rootOf_X4_fit rfl ⟨rfl, rfl⟩ hdX4_fit ⟨Nat.le_of_ble_eq_true rfl, Nat.le_of_ble_eq_true rfl⟩ 4 0 rfl rfl rfl hP hE hl rfl rfl (Nat.le_of_ble_eq_true rfl) dX4_rootOf_26 (Nat.zero_le _) (Nat.zero_le _)) ?_
  refine lc_eq (tgt := 37) hx hb dX4_rootOf_29 dX4_rootOf_30 (by decide) (fun c6 => ?_) (fun c6 => ?_)
  · have h := ite_t c6 h
    refine lv_lload_n hx hb dX4_rootOf_37 rfl (lv_at hl 0 rfl) ?_
    refine lv_lconst (v := 1) hx hb dX4_rootOf_38 (by decide) ?_
    refine lv_land hx hb dX4_rootOf_39 ?_
    refine lv_lconst (v := 0) hx hb dX4_rootOf_40 (by decide) ?_
    refine lc_ne (tgt := 49) hx hb dX4_rootOf_41 dX4_rootOf_42 (by decide) (fun c7 => ?_) (fun c7 => ?_)
    · have h := ite_f c7 h
      refine lv_aload_n hx hb dX4_rootOf_49 rfl (lv_at hl 1 rfl) ?_
      refine va_get (D := D) (ci := 4) (v := .long zp) (C := RX4) (T := TX4) (N := 14) hx hb hts iwX4_rootOf_4 hown hE.1 hP 0 rfl rfl 0 (by decide) (hts _ lkX4_rootOf_0) (fun _ h9 => h9) rfl dX4_rootOf_50 ?_
      refine lv_lload_n hx hb dX4_rootOf_53 rfl (lv_at hl 0 rfl) ?_
      refine lv_lsub hx hb dX4_rootOf_54 ?_
      exact reL hx hb hr hlocks h dX4_rootOf_55
    · have h := ite_t c7 h
      refine lv_lload_n hx hb dX4_rootOf_45 rfl (lv_at hl 0 rfl) ?_
      refine lv_goto (tgt := 55) hx hb dX4_rootOf_46 (by decide) ?_
      exact reL hx hb hr hlocks h dX4_rootOf_55
  · have h := ite_f c6 h
    refine lv_ldc2 (v := (-1)) hx hb hown (hts _ lkX4_rootOf_2) dX4_rootOf_33 ?_
    exact reL hx hb hr hlocks h dX4_rootOf_36
def fX4_curve  (zp : Int64) (q0 : Int64) : Option (Int64) :=
  if zp = 0 then none else
  some (jrem (((jrem (q0 * q0) zp) * q0) + q0) zp)
abbrev rmX4_curve : Room := { frames := 0, cells := 0, slots := 0, locals := 0 }
theorem lkX4_curve_0 : (.fieldLink RX4 28 "PairingDeskModel" "p" "J" : Cond) ∈ wsX4_curve := by decide +kernel
theorem iwX4_curve_4 : ∀ w ∈ wsX40, w ∈ wsX4_curve := by decide +kernel
theorem hdX4_curve : KN yX4_curve 1 := by decide +kernel
set_option maxHeartbeats 4000000 in
set_option maxRecDepth 100000 in
theorem kX4_curve (l : Launch) (D : va_G) (cJ cZ : ClassId) (mo a1 a2 a3 a4 a5 : Nat) (zp : Int64) (zr : Int64) (zh : Int64) (zx : Int64) (zy : Int64) (zi : Bool) (zu : Int64) (zv : Int64) (zl : Int32) (zpx : Nat → Int64) (zpy : Nat → Int64) (zip : Nat → Bool) (zvu : Nat → Int64) (zvv : Nat → Int64) (q0 : Int64) (rr : Int64) (h : fX4_curve zp q0 = some rr) : Met l yX4_curve wsX4_curve rmX4_curve (PP D cJ cZ [.ref mo, .long q0] [(mo, .inr (4, [.long zp, .long zr, .long zh, .ref a1, .ref a2, .ref a3, .ref a4, .ref a5, .long zx, .long zy, .int (bI zi), .long zu, .long zv, .int zl])), (a1, .inl (cJ, 16, .inr (.inl zpx))), (a2, .inl (cJ, 16, .inr (.inl zpy))), (a3, .inl (cZ, 16, .inl (fun i => bI (zip i)))), (a4, .inl (cJ, 8, .inr (.inl zvu))), (a5, .inl (cJ, 8, .inr (.inl zvv)))]) (SL rr) 0 0 (fun _ => False) := by
  refine Met.ofW (cc := cX4_curve) (maxL := 3) (ret := some .long) (by decide) rfl ?_
  intro pg e s m args below meth c s₁ B hml hv
  obtain ⟨rfl, hP, hE⟩ := hv
  have hx := B.exec
  have hb := B.bytes
  have hr := B.returns
  have hlocks := B.notSynchronized
  have C0 : CallFix pg m c cX4_curve 3 s ([.ref mo, .long q0] : List Value).toArray wsX4_curve RX4 := ⟨hx, hb, hml, findClass_of_methodNamed B.named, atoms_spec (ws := wsX4_curve) B.pre⟩
  have hown := C0.2.2.2.1
  have hts := C0.2.2.2.2
  have hl := lv_entry ([.ref mo, .long q0]) (n := 3) (Nat.le_of_ble_eq_true rfl)
  rw [lg_entry_eq]
  generalize (lg_sl ([.ref mo, .long q0]) ++ List.replicate (3 - (lg_sl ([.ref mo, .long q0])).length) Slot.unset).toArray = ls at hl ⊢
  have hl : lv_has ls 3 [(0, .ref mo), (1, .long q0)] := hl
  unfold fX4_curve at h
  refine lv_lload_n hx hb dX4_curve_0 rfl (lv_at hl 1 rfl) ?_
  refine lv_lload_n hx hb dX4_curve_1 rfl (lv_at hl 1 rfl) ?_
  refine lv_lmul hx hb dX4_curve_2 ?_
  refine lv_aload_n hx hb dX4_curve_3 rfl (lv_at hl 0 rfl) ?_
  refine va_get (D := D) (ci := 4) (v := .long zp) (C := RX4) (T := TX4) (N := 14) hx hb hts iwX4_curve_4 hown hE.1 hP 0 rfl rfl 0 (by decide) (hts _ lkX4_curve_0) (fun _ h9 => h9) rfl dX4_curve_4 ?_
  obtain ⟨c1, h⟩ := ite_n h
  refine lv_lremJ hx hb dX4_curve_7 c1 ?_
  refine lv_lload_n hx hb dX4_curve_8 rfl (lv_at hl 1 rfl) ?_
  refine lv_lmul hx hb dX4_curve_9 ?_
  refine lv_lload_n hx hb dX4_curve_10 rfl (lv_at hl 1 rfl) ?_
  refine lv_ladd hx hb dX4_curve_11 ?_
  refine lv_aload_n hx hb dX4_curve_12 rfl (lv_at hl 0 rfl) ?_
  refine va_get (D := D) (ci := 4) (v := .long zp) (C := RX4) (T := TX4) (N := 14) hx hb hts iwX4_curve_4 hown hE.1 hP 0 rfl rfl 0 (by decide) (hts _ lkX4_curve_0) (fun _ h9 => h9) rfl dX4_curve_13 ?_
  refine lv_lremJ hx hb dX4_curve_16 c1 ?_
  exact reL hx hb hr hlocks h dX4_curve_17
def fX4_told  (zp : Int64) (zr : Int64) (zh : Int64) (q0 : Int32) : Option (Int32) :=
  (fX4_in q0.toInt64 0 2).bind fun r1 =>
  if (bI r1) = 0 then
    some (-2)
  else
    if zp = 0 then
      some (-3)
    else
      if q0 = 0 then
        some zp.toInt32
      else
        if q0 = 1 then
          some zr.toInt32
        else
          some zh.toInt32
abbrev rmX4_told : Room := { frames := 1, cells := 0, slots := 0, locals := 25 }
theorem lkX4_told_0 : (.constantLong RX4 26 (2) : Cond) ∈ wsX4_told := by decide +kernel
theorem lkX4_told_1 : (.fieldLink RX4 28 "PairingDeskModel" "p" "J" : Cond) ∈ wsX4_told := by decide +kernel
theorem lkX4_told_2 : (.fieldLink RX4 51 "PairingDeskModel" "h" "J" : Cond) ∈ wsX4_told := by decide +kernel
theorem lkX4_told_3 : (.fieldLink RX4 48 "PairingDeskModel" "\x72" "J" : Cond) ∈ wsX4_told := by decide +kernel
theorem iwX4_told_4 : ∀ w ∈ wsX40, w ∈ wsX4_told := by decide +kernel
theorem hdX4_told : KN yX4_told 1 := by decide +kernel
set_option maxHeartbeats 4000000 in
set_option maxRecDepth 100000 in
theorem kX4_told (l : Launch) (D : va_G) (cJ cZ : ClassId) (mo a1 a2 a3 a4 a5 : Nat) (zp : Int64) (zr : Int64) (zh : Int64) (zx : Int64) (zy : Int64) (zi : Bool) (zu : Int64) (zv : Int64) (zl : Int32) (zpx : Nat → Int64) (zpy : Nat → Int64) (zip : Nat → Bool) (zvu : Nat → Int64) (zvv : Nat → Int64) (q0 : Int32) (rr : Int32) (h : fX4_told zp zr zh q0 = some rr) : Met l yX4_told wsX4_told rmX4_told (PP D cJ cZ [.ref mo, .int q0] [(mo, .inr (4, [.long zp, .long zr, .long zh, .ref a1, .ref a2, .ref a3, .ref a4, .ref a5, .long zx, .long zy, .int (bI zi), .long zu, .long zv, .int zl])), (a1, .inl (cJ, 16, .inr (.inl zpx))), (a2, .inl (cJ, 16, .inr (.inl zpy))), (a3, .inl (cZ, 16, .inl (fun i => bI (zip i)))), (a4, .inl (cJ, 8, .inr (.inl zvu))), (a5, .inl (cJ, 8, .inr (.inl zvv)))]) (SI rr) 0 0 (fun _ => False) := by
  refine Met.ofW (cc := cX4_told) (maxL := 2) (ret := some .int) (by decide) rfl ?_
  intro pg e s m args below meth c s₁ B hml hv
  obtain ⟨rfl, hP, hE⟩ := hv
  have hx := B.exec
  have hb := B.bytes
  have hr := B.returns
  have hlocks := B.notSynchronized
  have C0 : CallFix pg m c cX4_told 2 s ([.ref mo, .int q0] : List Value).toArray wsX4_told RX4 := ⟨hx, hb, hml, findClass_of_methodNamed B.named, atoms_spec (ws := wsX4_told) B.pre⟩
  have hown := C0.2.2.2.1
  have hts := C0.2.2.2.2
  have hl := lv_entry ([.ref mo, .int q0]) (n := 2) (Nat.le_of_ble_eq_true rfl)
  rw [lg_entry_eq]
  generalize (lg_sl ([.ref mo, .int q0]) ++ List.replicate (2 - (lg_sl ([.ref mo, .int q0])).length) Slot.unset).toArray = ls at hl ⊢
  have hl : lv_has ls 2 [(0, .ref mo), (1, .int q0)] := hl
  unfold fX4_told at h
  refine lv_iload_n hx hb dX4_told_0 rfl (lv_at hl 1 rfl) ?_
  refine lv_i2l (v := q0.toInt64) hx hb dX4_told_1 rfl ?_
  refine lv_lconst (v := 0) hx hb dX4_told_2 (by decide) ?_
  refine lv_ldc2 (v := 2) hx hb hown (hts _ lkX4_told_0) dX4_told_3 ?_
  obtain ⟨r1, h2, h⟩ := bind_s h
  refine ki (kS (As := [.long q0.toInt64, .long 0, .long 2]) (rest := []) C0 (kX4_in l D cJ cZ q0.toInt64 0 2 r1 h2) gX4_told_X4_in rfl ⟨rfl, rfl⟩ hdX4_in ⟨Nat.le_of_ble_eq_true rfl, Nat.le_of_ble_eq_true rfl⟩ (hP.sub [] rfl) hE hl rfl rfl (Nat.le_of_ble_eq_true rfl) dX4_told_6 (Nat.zero_le _) (Nat.zero_le _)) ?_
  refine lv_if_ne (tgt := 15) hx hb dX4_told_9 (by decide) (fun c3 => ?_) (fun c3 => ?_)
  · have h := ite_f c3 h
    refine lv_aload_n hx hb dX4_told_15 rfl (lv_at hl 0 rfl) ?_
    refine va_get (D := D) (ci := 4) (v := .long zp) (C := RX4) (T := TX4) (N := 14) hx hb hts iwX4_told_4 hown hE.1 hP 0 rfl rfl 0 (by decide) (hts _ lkX4_told_1) (fun _ h9 => h9) rfl dX4_told_16 ?_
    refine lv_lconst (v := 0) hx hb dX4_told_19 (by decide) ?_
    refine lc_ne (tgt := 29) hx hb dX4_told_20 dX4_told_21 (by decide) (fun c4 => ?_) (fun c4 => ?_)
    · have h := ite_f c4 h
      refine lv_iload_n hx hb dX4_told_29 rfl (lv_at hl 1 rfl) ?_
      refine lv_if_ne (tgt := 40) hx hb dX4_told_30 (by decide) (fun c5 => ?_) (fun c5 => ?_)
      · have h := ite_f c5 h
        refine lv_iload_n hx hb dX4_told_40 rfl (lv_at hl 1 rfl) ?_
        refine lv_iconst (v := 1) hx hb dX4_told_41 (by decide) ?_
        refine lv_icmp_ne (tgt := 52) hx hb dX4_told_42 (by decide) (fun c6 => ?_) (fun c6 => ?_)
        · have h := ite_f c6 h
          refine lv_aload_n hx hb dX4_told_52 rfl (lv_at hl 0 rfl) ?_
          refine va_get (D := D) (ci := 4) (v := .long zh) (C := RX4) (T := TX4) (N := 14) hx hb hts iwX4_told_4 hown hE.1 hP 0 rfl rfl 2 (by decide) (hts _ lkX4_told_2) (fun _ h9 => h9) rfl dX4_told_53 ?_
          refine lv_l2i (v := zh.toInt32) hx hb dX4_told_56 rfl ?_
          exact reI hx hb hr hlocks h dX4_told_57
        · have h := ite_t c6 h
          refine lv_aload_n hx hb dX4_told_45 rfl (lv_at hl 0 rfl) ?_
          refine va_get (D := D) (ci := 4) (v := .long zr) (C := RX4) (T := TX4) (N := 14) hx hb hts iwX4_told_4 hown hE.1 hP 0 rfl rfl 1 (by decide) (hts _ lkX4_told_3) (fun _ h9 => h9) rfl dX4_told_46 ?_
          refine lv_goto (tgt := 56) hx hb dX4_told_49 (by decide) ?_
          refine lv_l2i (v := zr.toInt32) hx hb dX4_told_56 rfl ?_
          exact reI hx hb hr hlocks h dX4_told_57
      · have h := ite_t c5 h
        refine lv_aload_n hx hb dX4_told_33 rfl (lv_at hl 0 rfl) ?_
        refine va_get (D := D) (ci := 4) (v := .long zp) (C := RX4) (T := TX4) (N := 14) hx hb hts iwX4_told_4 hown hE.1 hP 0 rfl rfl 0 (by decide) (hts _ lkX4_told_1) (fun _ h9 => h9) rfl dX4_told_34 ?_
        refine lv_goto (tgt := 56) hx hb dX4_told_37 (by decide) ?_
        refine lv_l2i (v := zp.toInt32) hx hb dX4_told_56 rfl ?_
        exact reI hx hb hr hlocks h dX4_told_57
    · have h := ite_t c4 h
      refine lv_bipush (v := (-3)) hx hb dX4_told_24 (by decide) ?_
      refine lv_goto (tgt := 57) hx hb dX4_told_26 (by decide) ?_
      exact reI hx hb hr hlocks h dX4_told_57
  · have h := ite_t c3 h
    refine lv_bipush (v := (-2)) hx hb dX4_told_12 (by decide) ?_
    exact reI hx hb hr hlocks h dX4_told_14
def fX4_root (N : Nat) (zp : Int64) (q0 : Int32) : Option (Int32) :=
  if zp = 0 then
    some (-3)
  else
    (fX4_in q0.toInt64 0 (zp - 1)).bind fun r2 =>
    if (bI r2) = 0 then
      some (-2)
    else
      (fX4_rootOf N zp q0.toInt64).bind fun r5 =>
      some r5.toInt32
abbrev rmX4_root : Room := { frames := 3, cells := 0, slots := 0, locals := 78 }
theorem lkX4_root_0 : (.fieldLink RX4 28 "PairingDeskModel" "p" "J" : Cond) ∈ wsX4_root := by decide +kernel
theorem iwX4_root_4 : ∀ w ∈ wsX40, w ∈ wsX4_root := by decide +kernel
theorem hdX4_root : KN yX4_root 1 := by decide +kernel
set_option maxHeartbeats 4000000 in
set_option maxRecDepth 100000 in
theorem kX4_root (l : Launch) (D : va_G) (cJ cZ : ClassId) (mo a1 a2 a3 a4 a5 : Nat) (N : Nat) (zp : Int64) (zr : Int64) (zh : Int64) (zx : Int64) (zy : Int64) (zi : Bool) (zu : Int64) (zv : Int64) (zl : Int32) (zpx : Nat → Int64) (zpy : Nat → Int64) (zip : Nat → Bool) (zvu : Nat → Int64) (zvv : Nat → Int64) (q0 : Int32) (rr : Int32) (h : fX4_root N zp q0 = some rr) : Met l yX4_root wsX4_root rmX4_root (PP D cJ cZ [.ref mo, .int q0] [(mo, .inr (4, [.long zp, .long zr, .long zh, .ref a1, .ref a2, .ref a3, .ref a4, .ref a5, .long zx, .long zy, .int (bI zi), .long zu, .long zv, .int zl])), (a1, .inl (cJ, 16, .inr (.inl zpx))), (a2, .inl (cJ, 16, .inr (.inl zpy))), (a3, .inl (cZ, 16, .inl (fun i => bI (zip i)))), (a4, .inl (cJ, 8, .inr (.inl zvu))), (a5, .inl (cJ, 8, .inr (.inl zvv)))]) (SI rr) 0 0 (fun _ => False) := by
  refine Met.ofW (cc := cX4_root) (maxL := 2) (ret := some .int) (by decide) rfl ?_
  intro pg e s m args below meth c s₁ B hml hv
  obtain ⟨rfl, hP, hE⟩ := hv
  have hx := B.exec
  have hb := B.bytes
  have hr := B.returns
  have hlocks := B.notSynchronized
  have C0 : CallFix pg m c cX4_root 2 s ([.ref mo, .int q0] : List Value).toArray wsX4_root RX4 := ⟨hx, hb, hml, findClass_of_methodNamed B.named, atoms_spec (ws := wsX4_root) B.pre⟩
  have hown := C0.2.2.2.1
  have hts := C0.2.2.2.2
  have hl := lv_entry ([.ref mo, .int q0]) (n := 2) (Nat.le_of_ble_eq_true rfl)
  rw [lg_entry_eq]
  generalize (lg_sl ([.ref mo, .int q0]) ++ List.replicate (2 - (lg_sl ([.ref mo, .int q0])).length) Slot.unset).toArray = ls at hl ⊢
  have hl : lv_has ls 2 [(0, .ref mo), (1, .int q0)] := hl
  unfold fX4_root at h
  refine lv_aload_n hx hb dX4_root_0 rfl (lv_at hl 0 rfl) ?_
  refine va_get (D := D) (ci := 4) (v := .long zp) (C := RX4) (T := TX4) (N := 14) hx hb hts iwX4_root_4 hown hE.1 hP 0 rfl rfl 0 (by decide) (hts _ lkX4_root_0) (fun _ h9 => h9) rfl dX4_root_1 ?_
  refine lv_lconst (v := 0) hx hb dX4_root_4 (by decide) ?_
  refine lc_ne (tgt := 12) hx hb dX4_root_5 dX4_root_6 (by decide) (fun c1 => ?_) (fun c1 => ?_)
  · have h := ite_f c1 h
    refine lv_iload_n hx hb dX4_root_12 rfl (lv_at hl 1 rfl) ?_
    refine lv_i2l (v := q0.toInt64) hx hb dX4_root_13 rfl ?_
    refine lv_lconst (v := 0) hx hb dX4_root_14 (by decide) ?_
    refine lv_aload_n hx hb dX4_root_15 rfl (lv_at hl 0 rfl) ?_
    refine va_get (D := D) (ci := 4) (v := .long zp) (C := RX4) (T := TX4) (N := 14) hx hb hts iwX4_root_4 hown hE.1 hP 0 rfl rfl 0 (by decide) (hts _ lkX4_root_0) (fun _ h9 => h9) rfl dX4_root_16 ?_
    refine lv_lconst (v := 1) hx hb dX4_root_19 (by decide) ?_
    refine lv_lsub hx hb dX4_root_20 ?_
    obtain ⟨r2, h3, h⟩ := bind_s h
    refine ki (kS (As := [.long q0.toInt64, .long 0, .long (zp - 1)]) (rest := []) C0 (kX4_in l D cJ cZ q0.toInt64 0 (zp - 1) r2 h3) gX4_root_X4_in rfl ⟨rfl, rfl⟩ hdX4_in ⟨Nat.le_of_ble_eq_true rfl, Nat.le_of_ble_eq_true rfl⟩ (hP.sub [] rfl) hE hl rfl rfl (Nat.le_of_ble_eq_true rfl) dX4_root_21 (Nat.zero_le _) (Nat.zero_le _)) ?_
    refine lv_if_eq (tgt := 37) hx hb dX4_root_24 (by decide) (fun c4 => ?_) (fun c4 => ?_)
    · have h := ite_t c4 h
      refine lv_bipush (v := (-2)) hx hb dX4_root_37 (by decide) ?_
      exact reI hx hb hr hlocks h dX4_root_39
    · have h := ite_f c4 h
      refine lv_aload_n hx hb dX4_root_27 rfl (lv_at hl 0 rfl) ?_
      refine lv_iload_n hx hb dX4_root_28 rfl (lv_at hl 1 rfl) ?_
      refine lv_i2l (v := q0.toInt64) hx hb dX4_root_29 rfl ?_
      obtain ⟨r5, h6, h⟩ := bind_s h
      refine kl (kV (As := [.long q0.toInt64]) (rest := []) C0 (kX4_rootOf l D cJ cZ mo a1 a2 a3 a4 a5 N zp zr zh zx zy zi zu zv zl zpx zpy zip zvu zvv q0.toInt64 r5 h6) gX4_root_X4_rootOf rfl ⟨rfl, rfl⟩ hdX4_rootOf ⟨Nat.le_of_ble_eq_true rfl, Nat.le_of_ble_eq_true rfl⟩ 4 0 rfl rfl rfl hP hE hl rfl rfl (Nat.le_of_ble_eq_true rfl) dX4_root_30 (Nat.zero_le _) (Nat.zero_le _)) ?_
      refine lv_l2i (v := r5.toInt32) hx hb dX4_root_33 rfl ?_
      refine lv_goto (tgt := 39) hx hb dX4_root_34 (by decide) ?_
      exact reI hx hb hr hlocks h dX4_root_39
  · have h := ite_t c1 h
    refine lv_bipush (v := (-3)) hx hb dX4_root_9 (by decide) ?_
    exact reI hx hb hr hlocks h dX4_root_11
def fX4_load  (zx : Int64) (zy : Int64) (zi : Bool) (zpx : Nat → Int64) (zpy : Nat → Int64) (zip : Nat → Bool) (q0 : Int32) : Option (Int64 × Int64 × Bool) :=
  if q0 < 0 ∨ 16 ≤ q0.toNatClampNeg then none else
  bnd (zpx q0.toNatClampNeg) fun w2 =>
  bnd (zpy q0.toNatClampNeg) fun w3 =>
  some (w2, w3, zip q0.toNatClampNeg)
abbrev rmX4_load : Room := { frames := 0, cells := 0, slots := 0, locals := 0 }
theorem lkX4_load_0 : (.fieldLink RX4 7 "PairingDeskModel" "px" "[J" : Cond) ∈ wsX4_load := by decide +kernel
theorem lkX4_load_1 : (.fieldLink RX4 61 "PairingDeskModel" "x" "J" : Cond) ∈ wsX4_load := by decide +kernel
theorem lkX4_load_2 : (.fieldLink RX4 13 "PairingDeskModel" "py" "[J" : Cond) ∈ wsX4_load := by decide +kernel
theorem lkX4_load_3 : (.fieldLink RX4 64 "PairingDeskModel" "y" "J" : Cond) ∈ wsX4_load := by decide +kernel
theorem lkX4_load_4 : (.fieldLink RX4 16 "PairingDeskModel" "isPoint" "[Z" : Cond) ∈ wsX4_load := by decide +kernel
theorem lkX4_load_5 : (.fieldLink RX4 67 "PairingDeskModel" "is" "Z" : Cond) ∈ wsX4_load := by decide +kernel
theorem iwX4_load_4 : ∀ w ∈ wsX40, w ∈ wsX4_load := by decide +kernel
theorem hdX4_load : KN yX4_load 1 := by decide +kernel
set_option maxHeartbeats 4000000 in
set_option maxRecDepth 100000 in
theorem kX4_load (l : Launch) (D : va_G) (cJ cZ : ClassId) (mo a1 a2 a3 a4 a5 : Nat) (zp : Int64) (zr : Int64) (zh : Int64) (zx : Int64) (zy : Int64) (zi : Bool) (zu : Int64) (zv : Int64) (zl : Int32) (zpx : Nat → Int64) (zpy : Nat → Int64) (zip : Nat → Bool) (zvu : Nat → Int64) (zvv : Nat → Int64) (q0 : Int32) (sz : Nat) (ozx : Int64) (ozy : Int64) (ozi : Bool) (h : fX4_load zx zy zi zpx zpy zip q0 = some (ozx, ozy, ozi)) : Met l yX4_load wsX4_load rmX4_load (PE D cJ cZ [.ref mo, .int q0] [(mo, .inr (4, [.long zp, .long zr, .long zh, .ref a1, .ref a2, .ref a3, .ref a4, .ref a5, .long zx, .long zy, .int (bI zi), .long zu, .long zv, .int zl])), (a1, .inl (cJ, 16, .inr (.inl zpx))), (a2, .inl (cJ, 16, .inr (.inl zpy))), (a3, .inl (cZ, 16, .inl (fun i => bI (zip i)))), (a4, .inl (cJ, 8, .inr (.inl zvu))), (a5, .inl (cJ, 8, .inr (.inl zvv)))] sz) (QE D (none) [(mo, .inr (4, [.long zp, .long zr, .long zh, .ref a1, .ref a2, .ref a3, .ref a4, .ref a5, .long ozx, .long ozy, .int (bI ozi), .long zu, .long zv, .int zl])), (a1, .inl (cJ, 16, .inr (.inl zpx))), (a2, .inl (cJ, 16, .inr (.inl zpy))), (a3, .inl (cZ, 16, .inl (fun i => bI (zip i)))), (a4, .inl (cJ, 8, .inr (.inl zvu))), (a5, .inl (cJ, 8, .inr (.inl zvv)))] (va_A [(mo, .inr (4, [.long zp, .long zr, .long zh, .ref a1, .ref a2, .ref a3, .ref a4, .ref a5, .long zx, .long zy, .int (bI zi), .long zu, .long zv, .int zl])), (a1, .inl (cJ, 16, .inr (.inl zpx))), (a2, .inl (cJ, 16, .inr (.inl zpy))), (a3, .inl (cZ, 16, .inl (fun i => bI (zip i)))), (a4, .inl (cJ, 8, .inr (.inl zvu))), (a5, .inl (cJ, 8, .inr (.inl zvv)))] sz)) 0 0 (va_A [(mo, .inr (4, [.long zp, .long zr, .long zh, .ref a1, .ref a2, .ref a3, .ref a4, .ref a5, .long zx, .long zy, .int (bI zi), .long zu, .long zv, .int zl])), (a1, .inl (cJ, 16, .inr (.inl zpx))), (a2, .inl (cJ, 16, .inr (.inl zpy))), (a3, .inl (cZ, 16, .inl (fun i => bI (zip i)))), (a4, .inl (cJ, 8, .inr (.inl zvu))), (a5, .inl (cJ, 8, .inr (.inl zvv)))] sz) := by
  refine Met.ofW (cc := cX4_load) (maxL := 2) (ret := none) (by decide) rfl ?_
  intro pg e s m args below meth c s₁ B hml hv
  obtain ⟨rfl, hsz, hP, hE, hD0⟩ := hv
  have hx := B.exec
  have hb := B.bytes
  have hr := B.returns
  have hlocks := B.notSynchronized
  have C0 : CallFix pg m c cX4_load 2 s ([.ref mo, .int q0] : List Value).toArray wsX4_load RX4 := ⟨hx, hb, hml, findClass_of_methodNamed B.named, atoms_spec (ws := wsX4_load) B.pre⟩
  have hown := C0.2.2.2.1
  have hts := C0.2.2.2.2
  subst hsz
  have hD := hD0.self (sz := s.heap.size)
  generalize hAe : va_A [(mo, .inr (4, [.long zp, .long zr, .long zh, .ref a1, .ref a2, .ref a3, .ref a4, .ref a5, .long zx, .long zy, .int (bI zi), .long zu, .long zv, .int zl])), (a1, .inl (cJ, 16, .inr (.inl zpx))), (a2, .inl (cJ, 16, .inr (.inl zpy))), (a3, .inl (cZ, 16, .inl (fun i => bI (zip i)))), (a4, .inl (cJ, 8, .inr (.inl zvu))), (a5, .inl (cJ, 8, .inr (.inl zvv)))] s.heap.size = A at hD ⊢
  have hA : ∀ q : Nat, s.heap.size ≤ q → A q := fun q h => by rw [← hAe]; exact Or.inr h
  have hS : va_S A s.heap s.heap [] := va_S.rf
  have hP : va_P D vwCl [(mo, .inr (4, [.long zp, .long zr, .long zh, .ref a1, .ref a2, .ref a3, .ref a4, .ref a5, .long zx, .long zy, .int (bI zi), .long zu, .long zv, .int zl])), (a1, .inl (cJ, 16, .inr (.inl zpx))), (a2, .inl (cJ, 16, .inr (.inl zpy))), (a3, .inl (cZ, 16, .inl (fun i => bI (zip i)))), (a4, .inl (cJ, 8, .inr (.inl zvu))), (a5, .inl (cJ, 8, .inr (.inl zvv)))] s.heap := hP
  have hl := lv_entry ([.ref mo, .int q0]) (n := 2) (Nat.le_of_ble_eq_true rfl)
  rw [lg_entry_eq]
  generalize (lg_sl ([.ref mo, .int q0]) ++ List.replicate (2 - (lg_sl ([.ref mo, .int q0])).length) Slot.unset).toArray = ls at hl ⊢
  have hl : lv_has ls 2 [(0, .ref mo), (1, .int q0)] := hl
  suffices key : ∀ (H : Heap) (locs : List Loc), va_P D vwCl [(mo, .inr (4, [.long zp, .long zr, .long zh, .ref a1, .ref a2, .ref a3, .ref a4, .ref a5, .long zx, .long zy, .int (bI zi), .long zu, .long zv, .int zl])), (a1, .inl (cJ, 16, .inr (.inl zpx))), (a2, .inl (cJ, 16, .inr (.inl zpy))), (a3, .inl (cZ, 16, .inl (fun i => bI (zip i)))), (a4, .inl (cJ, 8, .inr (.inl zvu))), (a5, .inl (cJ, 8, .inr (.inl zvv)))] H → va_D A [(mo, .inr (4, [.long zp, .long zr, .long zh, .ref a1, .ref a2, .ref a3, .ref a4, .ref a5, .long zx, .long zy, .int (bI zi), .long zu, .long zv, .int zl])), (a1, .inl (cJ, 16, .inr (.inl zpx))), (a2, .inl (cJ, 16, .inr (.inl zpy))), (a3, .inl (cZ, 16, .inl (fun i => bI (zip i)))), (a4, .inl (cJ, 8, .inr (.inl zvu))), (a5, .inl (cJ, 8, .inr (.inl zvv)))] → va_S A s.heap H locs → W pg l e (headSpec wsX4_load rmX4_load).room s m ([.ref mo, .int q0] : List Value).toArray below meth c H locs 0 0 (MQ below (QE D (none) [(mo, .inr (4, [.long zp, .long zr, .long zh, .ref a1, .ref a2, .ref a3, .ref a4, .ref a5, .long ozx, .long ozy, .int (bI ozi), .long zu, .long zv, .int zl])), (a1, .inl (cJ, 16, .inr (.inl zpx))), (a2, .inl (cJ, 16, .inr (.inl zpy))), (a3, .inl (cZ, 16, .inl (fun i => bI (zip i)))), (a4, .inl (cJ, 8, .inr (.inl zvu))), (a5, .inl (cJ, 8, .inr (.inl zvv)))] A) ([.ref mo, .int q0] : List Value).toArray s 0 0 A) (F0 m 0 ls []) from key s.heap [] hP hD hS
  intro H locs hP hD hS
  unfold fX4_load at h
  refine lv_aload_n hx hb dX4_load_0 rfl (lv_at hl 0 rfl) ?_
  refine lv_aload_n hx hb dX4_load_1 rfl (lv_at hl 0 rfl) ?_
  refine va_get (D := D) (ci := 4) (v := .ref a1) (C := RX4) (T := TX4) (N := 14) hx hb hts iwX4_load_4 hown hE.1 hP 0 rfl rfl 3 (by decide) (hts _ lkX4_load_0) (fun _ h9 => h9) rfl dX4_load_2 ?_
  refine lv_iload_n hx hb dX4_load_5 rfl (lv_at hl 1 rfl) ?_
  obtain ⟨c1, h⟩ := ite_n h
  refine va_lald hx hb hE.1 hP 1 0 rfl rfl c1 dX4_load_6 ?_
  obtain ⟨w2, ew2, h⟩ := bnd_s h
  refine tl ew2.symm ?_
  refine va_put (D := D) (ci := 4) (v := .long w2) (ty := .long) (C := RX4) (T := TX4) (N := 14) hx hb hts iwX4_load_4 tyX4 tyX4_ok nmX4 hown hE.1 hP hD hS 0 rfl rfl 8 (by decide) (hts _ lkX4_load_1) (fun _ h9 => h9) rfl (by decide +kernel) rfl rfl (Nat.le_of_ble_eq_true rfl) dX4_load_7 (fun H locs hP hD hS => ?_)
  have hP : va_P D vwCl [(mo, .inr (4, [.long zp, .long zr, .long zh, .ref a1, .ref a2, .ref a3, .ref a4, .ref a5, .long w2, .long zy, .int (bI zi), .long zu, .long zv, .int zl])), (a1, .inl (cJ, 16, .inr (.inl zpx))), (a2, .inl (cJ, 16, .inr (.inl zpy))), (a3, .inl (cZ, 16, .inl (fun i => bI (zip i)))), (a4, .inl (cJ, 8, .inr (.inl zvu))), (a5, .inl (cJ, 8, .inr (.inl zvv)))] H := hP
  have hD : va_D A [(mo, .inr (4, [.long zp, .long zr, .long zh, .ref a1, .ref a2, .ref a3, .ref a4, .ref a5, .long w2, .long zy, .int (bI zi), .long zu, .long zv, .int zl])), (a1, .inl (cJ, 16, .inr (.inl zpx))), (a2, .inl (cJ, 16, .inr (.inl zpy))), (a3, .inl (cZ, 16, .inl (fun i => bI (zip i)))), (a4, .inl (cJ, 8, .inr (.inl zvu))), (a5, .inl (cJ, 8, .inr (.inl zvv)))] := hD
  refine lv_aload_n hx hb dX4_load_10 rfl (lv_at hl 0 rfl) ?_
  refine lv_aload_n hx hb dX4_load_11 rfl (lv_at hl 0 rfl) ?_
  refine va_get (D := D) (ci := 4) (v := .ref a2) (C := RX4) (T := TX4) (N := 14) hx hb hts iwX4_load_4 hown hE.1 hP 0 rfl rfl 4 (by decide) (hts _ lkX4_load_2) (fun _ h9 => h9) rfl dX4_load_12 ?_
  refine lv_iload_n hx hb dX4_load_15 rfl (lv_at hl 1 rfl) ?_
  refine va_lald hx hb hE.1 hP 2 0 rfl rfl c1 dX4_load_16 ?_
  obtain ⟨w3, ew3, h⟩ := bnd_s h
  refine tl ew3.symm ?_
  refine va_put (D := D) (ci := 4) (v := .long w3) (ty := .long) (C := RX4) (T := TX4) (N := 14) hx hb hts iwX4_load_4 tyX4 tyX4_ok nmX4 hown hE.1 hP hD hS 0 rfl rfl 9 (by decide) (hts _ lkX4_load_3) (fun _ h9 => h9) rfl (by decide +kernel) rfl rfl (Nat.le_of_ble_eq_true rfl) dX4_load_17 (fun H locs hP hD hS => ?_)
  have hP : va_P D vwCl [(mo, .inr (4, [.long zp, .long zr, .long zh, .ref a1, .ref a2, .ref a3, .ref a4, .ref a5, .long w2, .long w3, .int (bI zi), .long zu, .long zv, .int zl])), (a1, .inl (cJ, 16, .inr (.inl zpx))), (a2, .inl (cJ, 16, .inr (.inl zpy))), (a3, .inl (cZ, 16, .inl (fun i => bI (zip i)))), (a4, .inl (cJ, 8, .inr (.inl zvu))), (a5, .inl (cJ, 8, .inr (.inl zvv)))] H := hP
  have hD : va_D A [(mo, .inr (4, [.long zp, .long zr, .long zh, .ref a1, .ref a2, .ref a3, .ref a4, .ref a5, .long w2, .long w3, .int (bI zi), .long zu, .long zv, .int zl])), (a1, .inl (cJ, 16, .inr (.inl zpx))), (a2, .inl (cJ, 16, .inr (.inl zpy))), (a3, .inl (cZ, 16, .inl (fun i => bI (zip i)))), (a4, .inl (cJ, 8, .inr (.inl zvu))), (a5, .inl (cJ, 8, .inr (.inl zvv)))] := hD
  refine lv_aload_n hx hb dX4_load_20 rfl (lv_at hl 0 rfl) ?_
  refine lv_aload_n hx hb dX4_load_21 rfl (lv_at hl 0 rfl) ?_
  refine va_get (D := D) (ci := 4) (v := .ref a3) (C := RX4) (T := TX4) (N := 14) hx hb hts iwX4_load_4 hown hE.1 hP 0 rfl rfl 5 (by decide) (hts _ lkX4_load_4) (fun _ h9 => h9) rfl dX4_load_22 ?_
  refine lv_iload_n hx hb dX4_load_25 rfl (lv_at hl 1 rfl) ?_
  refine va_zald hx hb hE.1 hP 3 1 rfl rfl c1 dX4_load_26 ?_
  refine va_put (D := D) (ci := 4) (v := .int (bI (zip q0.toNatClampNeg))) (ty := .boolean) (C := RX4) (T := TX4) (N := 14) hx hb hts iwX4_load_4 tyX4 tyX4_ok nmX4 hown hE.1 hP hD hS 0 rfl rfl 10 (by decide) (hts _ lkX4_load_5) (fun _ h9 => h9) rfl (by decide +kernel) (narv_bI _) (fits_bI _) (Nat.le_of_ble_eq_true rfl) dX4_load_27 (fun H locs hP hD hS => ?_)
  have hP : va_P D vwCl [(mo, .inr (4, [.long zp, .long zr, .long zh, .ref a1, .ref a2, .ref a3, .ref a4, .ref a5, .long w2, .long w3, .int (bI (zip q0.toNatClampNeg)), .long zu, .long zv, .int zl])), (a1, .inl (cJ, 16, .inr (.inl zpx))), (a2, .inl (cJ, 16, .inr (.inl zpy))), (a3, .inl (cZ, 16, .inl (fun i => bI (zip i)))), (a4, .inl (cJ, 8, .inr (.inl zvu))), (a5, .inl (cJ, 8, .inr (.inl zvv)))] H := hP
  have hD : va_D A [(mo, .inr (4, [.long zp, .long zr, .long zh, .ref a1, .ref a2, .ref a3, .ref a4, .ref a5, .long w2, .long w3, .int (bI (zip q0.toNatClampNeg)), .long zu, .long zv, .int zl])), (a1, .inl (cJ, 16, .inr (.inl zpx))), (a2, .inl (cJ, 16, .inr (.inl zpy))), (a3, .inl (cZ, 16, .inl (fun i => bI (zip i)))), (a4, .inl (cJ, 8, .inr (.inl zvu))), (a5, .inl (cJ, 8, .inr (.inl zvv)))] := hD
  cases h
  exact rfV hx hb hr hlocks hP hD hS dX4_load_30
def fX4_store  (zx : Int64) (zy : Int64) (zi : Bool) (zpx : Nat → Int64) (zpy : Nat → Int64) (zip : Nat → Bool) (q0 : Int32) : Option ((Nat → Int64) × (Nat → Int64) × (Nat → Bool)) :=
  if q0 < 0 ∨ 16 ≤ q0.toNatClampNeg then none else
  bnd (vp_updL zpx q0.toNatClampNeg zx) fun w2 =>
  bnd (vp_updL zpy q0.toNatClampNeg zy) fun w3 =>
  bnd (uB zip q0.toNatClampNeg zi) fun w4 =>
  some (w2, w3, w4)
abbrev rmX4_store : Room := { frames := 0, cells := 0, slots := 0, locals := 0 }
theorem lkX4_store_0 : (.fieldLink RX4 7 "PairingDeskModel" "px" "[J" : Cond) ∈ wsX4_store := by decide +kernel
theorem lkX4_store_1 : (.fieldLink RX4 61 "PairingDeskModel" "x" "J" : Cond) ∈ wsX4_store := by decide +kernel
theorem lkX4_store_2 : (.fieldLink RX4 13 "PairingDeskModel" "py" "[J" : Cond) ∈ wsX4_store := by decide +kernel
theorem lkX4_store_3 : (.fieldLink RX4 64 "PairingDeskModel" "y" "J" : Cond) ∈ wsX4_store := by decide +kernel
theorem lkX4_store_4 : (.fieldLink RX4 16 "PairingDeskModel" "isPoint" "[Z" : Cond) ∈ wsX4_store := by decide +kernel
theorem lkX4_store_5 : (.fieldLink RX4 67 "PairingDeskModel" "is" "Z" : Cond) ∈ wsX4_store := by decide +kernel
theorem iwX4_store_4 : ∀ w ∈ wsX40, w ∈ wsX4_store := by decide +kernel
theorem hdX4_store : KN yX4_store 1 := by decide +kernel
set_option maxHeartbeats 4000000 in
set_option maxRecDepth 100000 in
theorem kX4_store (l : Launch) (D : va_G) (cJ cZ : ClassId) (mo a1 a2 a3 a4 a5 : Nat) (zp : Int64) (zr : Int64) (zh : Int64) (zx : Int64) (zy : Int64) (zi : Bool) (zu : Int64) (zv : Int64) (zl : Int32) (zpx : Nat → Int64) (zpy : Nat → Int64) (zip : Nat → Bool) (zvu : Nat → Int64) (zvv : Nat → Int64) (q0 : Int32) (sz : Nat) (ozpx : Nat → Int64) (ozpy : Nat → Int64) (ozip : Nat → Bool) (h : fX4_store zx zy zi zpx zpy zip q0 = some (ozpx, ozpy, ozip)) : Met l yX4_store wsX4_store rmX4_store (PE D cJ cZ [.ref mo, .int q0] [(mo, .inr (4, [.long zp, .long zr, .long zh, .ref a1, .ref a2, .ref a3, .ref a4, .ref a5, .long zx, .long zy, .int (bI zi), .long zu, .long zv, .int zl])), (a1, .inl (cJ, 16, .inr (.inl zpx))), (a2, .inl (cJ, 16, .inr (.inl zpy))), (a3, .inl (cZ, 16, .inl (fun i => bI (zip i)))), (a4, .inl (cJ, 8, .inr (.inl zvu))), (a5, .inl (cJ, 8, .inr (.inl zvv)))] sz) (QE D (none) [(mo, .inr (4, [.long zp, .long zr, .long zh, .ref a1, .ref a2, .ref a3, .ref a4, .ref a5, .long zx, .long zy, .int (bI zi), .long zu, .long zv, .int zl])), (a1, .inl (cJ, 16, .inr (.inl ozpx))), (a2, .inl (cJ, 16, .inr (.inl ozpy))), (a3, .inl (cZ, 16, .inl (fun i => bI (ozip i)))), (a4, .inl (cJ, 8, .inr (.inl zvu))), (a5, .inl (cJ, 8, .inr (.inl zvv)))] (va_A [(mo, .inr (4, [.long zp, .long zr, .long zh, .ref a1, .ref a2, .ref a3, .ref a4, .ref a5, .long zx, .long zy, .int (bI zi), .long zu, .long zv, .int zl])), (a1, .inl (cJ, 16, .inr (.inl zpx))), (a2, .inl (cJ, 16, .inr (.inl zpy))), (a3, .inl (cZ, 16, .inl (fun i => bI (zip i)))), (a4, .inl (cJ, 8, .inr (.inl zvu))), (a5, .inl (cJ, 8, .inr (.inl zvv)))] sz)) 0 0 (va_A [(mo, .inr (4, [.long zp, .long zr, .long zh, .ref a1, .ref a2, .ref a3, .ref a4, .ref a5, .long zx, .long zy, .int (bI zi), .long zu, .long zv, .int zl])), (a1, .inl (cJ, 16, .inr (.inl zpx))), (a2, .inl (cJ, 16, .inr (.inl zpy))), (a3, .inl (cZ, 16, .inl (fun i => bI (zip i)))), (a4, .inl (cJ, 8, .inr (.inl zvu))), (a5, .inl (cJ, 8, .inr (.inl zvv)))] sz) := by
  refine Met.ofW (cc := cX4_store) (maxL := 2) (ret := none) (by decide) rfl ?_
  intro pg e s m args below meth c s₁ B hml hv
  obtain ⟨rfl, hsz, hP, hE, hD0⟩ := hv
  have hx := B.exec
  have hb := B.bytes
  have hr := B.returns
  have hlocks := B.notSynchronized
  have C0 : CallFix pg m c cX4_store 2 s ([.ref mo, .int q0] : List Value).toArray wsX4_store RX4 := ⟨hx, hb, hml, findClass_of_methodNamed B.named, atoms_spec (ws := wsX4_store) B.pre⟩
  have hown := C0.2.2.2.1
  have hts := C0.2.2.2.2
  subst hsz
  have hD := hD0.self (sz := s.heap.size)
  generalize hAe : va_A [(mo, .inr (4, [.long zp, .long zr, .long zh, .ref a1, .ref a2, .ref a3, .ref a4, .ref a5, .long zx, .long zy, .int (bI zi), .long zu, .long zv, .int zl])), (a1, .inl (cJ, 16, .inr (.inl zpx))), (a2, .inl (cJ, 16, .inr (.inl zpy))), (a3, .inl (cZ, 16, .inl (fun i => bI (zip i)))), (a4, .inl (cJ, 8, .inr (.inl zvu))), (a5, .inl (cJ, 8, .inr (.inl zvv)))] s.heap.size = A at hD ⊢
  have hA : ∀ q : Nat, s.heap.size ≤ q → A q := fun q h => by rw [← hAe]; exact Or.inr h
  have hS : va_S A s.heap s.heap [] := va_S.rf
  have hP : va_P D vwCl [(mo, .inr (4, [.long zp, .long zr, .long zh, .ref a1, .ref a2, .ref a3, .ref a4, .ref a5, .long zx, .long zy, .int (bI zi), .long zu, .long zv, .int zl])), (a1, .inl (cJ, 16, .inr (.inl zpx))), (a2, .inl (cJ, 16, .inr (.inl zpy))), (a3, .inl (cZ, 16, .inl (fun i => bI (zip i)))), (a4, .inl (cJ, 8, .inr (.inl zvu))), (a5, .inl (cJ, 8, .inr (.inl zvv)))] s.heap := hP
  have hl := lv_entry ([.ref mo, .int q0]) (n := 2) (Nat.le_of_ble_eq_true rfl)
  rw [lg_entry_eq]
  generalize (lg_sl ([.ref mo, .int q0]) ++ List.replicate (2 - (lg_sl ([.ref mo, .int q0])).length) Slot.unset).toArray = ls at hl ⊢
  have hl : lv_has ls 2 [(0, .ref mo), (1, .int q0)] := hl
  suffices key : ∀ (H : Heap) (locs : List Loc), va_P D vwCl [(mo, .inr (4, [.long zp, .long zr, .long zh, .ref a1, .ref a2, .ref a3, .ref a4, .ref a5, .long zx, .long zy, .int (bI zi), .long zu, .long zv, .int zl])), (a1, .inl (cJ, 16, .inr (.inl zpx))), (a2, .inl (cJ, 16, .inr (.inl zpy))), (a3, .inl (cZ, 16, .inl (fun i => bI (zip i)))), (a4, .inl (cJ, 8, .inr (.inl zvu))), (a5, .inl (cJ, 8, .inr (.inl zvv)))] H → va_D A [(mo, .inr (4, [.long zp, .long zr, .long zh, .ref a1, .ref a2, .ref a3, .ref a4, .ref a5, .long zx, .long zy, .int (bI zi), .long zu, .long zv, .int zl])), (a1, .inl (cJ, 16, .inr (.inl zpx))), (a2, .inl (cJ, 16, .inr (.inl zpy))), (a3, .inl (cZ, 16, .inl (fun i => bI (zip i)))), (a4, .inl (cJ, 8, .inr (.inl zvu))), (a5, .inl (cJ, 8, .inr (.inl zvv)))] → va_S A s.heap H locs → W pg l e (headSpec wsX4_store rmX4_store).room s m ([.ref mo, .int q0] : List Value).toArray below meth c H locs 0 0 (MQ below (QE D (none) [(mo, .inr (4, [.long zp, .long zr, .long zh, .ref a1, .ref a2, .ref a3, .ref a4, .ref a5, .long zx, .long zy, .int (bI zi), .long zu, .long zv, .int zl])), (a1, .inl (cJ, 16, .inr (.inl ozpx))), (a2, .inl (cJ, 16, .inr (.inl ozpy))), (a3, .inl (cZ, 16, .inl (fun i => bI (ozip i)))), (a4, .inl (cJ, 8, .inr (.inl zvu))), (a5, .inl (cJ, 8, .inr (.inl zvv)))] A) ([.ref mo, .int q0] : List Value).toArray s 0 0 A) (F0 m 0 ls []) from key s.heap [] hP hD hS
  intro H locs hP hD hS
  unfold fX4_store at h
  refine lv_aload_n hx hb dX4_store_0 rfl (lv_at hl 0 rfl) ?_
  refine va_get (D := D) (ci := 4) (v := .ref a1) (C := RX4) (T := TX4) (N := 14) hx hb hts iwX4_store_4 hown hE.1 hP 0 rfl rfl 3 (by decide) (hts _ lkX4_store_0) (fun _ h9 => h9) rfl dX4_store_1 ?_
  refine lv_iload_n hx hb dX4_store_4 rfl (lv_at hl 1 rfl) ?_
  refine lv_aload_n hx hb dX4_store_5 rfl (lv_at hl 0 rfl) ?_
  refine va_get (D := D) (ci := 4) (v := .long zx) (C := RX4) (T := TX4) (N := 14) hx hb hts iwX4_store_4 hown hE.1 hP 0 rfl rfl 8 (by decide) (hts _ lkX4_store_1) (fun _ h9 => h9) rfl dX4_store_6 ?_
  obtain ⟨c1, h⟩ := ite_n h
  refine va_last hx hb hE.1 hP hD hS 1 0 rfl rfl c1 dX4_store_9 (fun H locs hP hD hS => ?_)
  have hP : va_P D vwCl [(mo, .inr (4, [.long zp, .long zr, .long zh, .ref a1, .ref a2, .ref a3, .ref a4, .ref a5, .long zx, .long zy, .int (bI zi), .long zu, .long zv, .int zl])), (a1, .inl (cJ, 16, .inr (.inl (vp_updL zpx q0.toNatClampNeg zx)))), (a2, .inl (cJ, 16, .inr (.inl zpy))), (a3, .inl (cZ, 16, .inl (fun i => bI (zip i)))), (a4, .inl (cJ, 8, .inr (.inl zvu))), (a5, .inl (cJ, 8, .inr (.inl zvv)))] H := hP
  have hD : va_D A [(mo, .inr (4, [.long zp, .long zr, .long zh, .ref a1, .ref a2, .ref a3, .ref a4, .ref a5, .long zx, .long zy, .int (bI zi), .long zu, .long zv, .int zl])), (a1, .inl (cJ, 16, .inr (.inl (vp_updL zpx q0.toNatClampNeg zx)))), (a2, .inl (cJ, 16, .inr (.inl zpy))), (a3, .inl (cZ, 16, .inl (fun i => bI (zip i)))), (a4, .inl (cJ, 8, .inr (.inl zvu))), (a5, .inl (cJ, 8, .inr (.inl zvv)))] := hD
  obtain ⟨w2, ew2, h⟩ := bnd_s h
  rw [← ew2] at hP hD
  refine lv_aload_n hx hb dX4_store_10 rfl (lv_at hl 0 rfl) ?_
  refine va_get (D := D) (ci := 4) (v := .ref a2) (C := RX4) (T := TX4) (N := 14) hx hb hts iwX4_store_4 hown hE.1 hP 0 rfl rfl 4 (by decide) (hts _ lkX4_store_2) (fun _ h9 => h9) rfl dX4_store_11 ?_
  refine lv_iload_n hx hb dX4_store_14 rfl (lv_at hl 1 rfl) ?_
  refine lv_aload_n hx hb dX4_store_15 rfl (lv_at hl 0 rfl) ?_
  refine va_get (D := D) (ci := 4) (v := .long zy) (C := RX4) (T := TX4) (N := 14) hx hb hts iwX4_store_4 hown hE.1 hP 0 rfl rfl 9 (by decide) (hts _ lkX4_store_3) (fun _ h9 => h9) rfl dX4_store_16 ?_
  refine va_last hx hb hE.1 hP hD hS 2 0 rfl rfl c1 dX4_store_19 (fun H locs hP hD hS => ?_)
  have hP : va_P D vwCl [(mo, .inr (4, [.long zp, .long zr, .long zh, .ref a1, .ref a2, .ref a3, .ref a4, .ref a5, .long zx, .long zy, .int (bI zi), .long zu, .long zv, .int zl])), (a1, .inl (cJ, 16, .inr (.inl w2))), (a2, .inl (cJ, 16, .inr (.inl (vp_updL zpy q0.toNatClampNeg zy)))), (a3, .inl (cZ, 16, .inl (fun i => bI (zip i)))), (a4, .inl (cJ, 8, .inr (.inl zvu))), (a5, .inl (cJ, 8, .inr (.inl zvv)))] H := hP
  have hD : va_D A [(mo, .inr (4, [.long zp, .long zr, .long zh, .ref a1, .ref a2, .ref a3, .ref a4, .ref a5, .long zx, .long zy, .int (bI zi), .long zu, .long zv, .int zl])), (a1, .inl (cJ, 16, .inr (.inl w2))), (a2, .inl (cJ, 16, .inr (.inl (vp_updL zpy q0.toNatClampNeg zy)))), (a3, .inl (cZ, 16, .inl (fun i => bI (zip i)))), (a4, .inl (cJ, 8, .inr (.inl zvu))), (a5, .inl (cJ, 8, .inr (.inl zvv)))] := hD
  obtain ⟨w3, ew3, h⟩ := bnd_s h
  rw [← ew3] at hP hD
  refine lv_aload_n hx hb dX4_store_20 rfl (lv_at hl 0 rfl) ?_
  refine va_get (D := D) (ci := 4) (v := .ref a3) (C := RX4) (T := TX4) (N := 14) hx hb hts iwX4_store_4 hown hE.1 hP 0 rfl rfl 5 (by decide) (hts _ lkX4_store_4) (fun _ h9 => h9) rfl dX4_store_21 ?_
  refine lv_iload_n hx hb dX4_store_24 rfl (lv_at hl 1 rfl) ?_
  refine lv_aload_n hx hb dX4_store_25 rfl (lv_at hl 0 rfl) ?_
  refine va_get (D := D) (ci := 4) (v := .int (bI zi)) (C := RX4) (T := TX4) (N := 14) hx hb hts iwX4_store_4 hown hE.1 hP 0 rfl rfl 10 (by decide) (hts _ lkX4_store_5) (fun _ h9 => h9) rfl dX4_store_26 ?_
  refine va_zast (x := bI zi) hx hb hE.1 hP hD hS 3 1 rfl rfl c1 dX4_store_29 (fun H locs hP hD hS => ?_)
  rw [upd_bI] at hP hD
  have hP : va_P D vwCl [(mo, .inr (4, [.long zp, .long zr, .long zh, .ref a1, .ref a2, .ref a3, .ref a4, .ref a5, .long zx, .long zy, .int (bI zi), .long zu, .long zv, .int zl])), (a1, .inl (cJ, 16, .inr (.inl w2))), (a2, .inl (cJ, 16, .inr (.inl w3))), (a3, .inl (cZ, 16, .inl (fun i => bI ((uB zip q0.toNatClampNeg zi) i)))), (a4, .inl (cJ, 8, .inr (.inl zvu))), (a5, .inl (cJ, 8, .inr (.inl zvv)))] H := hP
  have hD : va_D A [(mo, .inr (4, [.long zp, .long zr, .long zh, .ref a1, .ref a2, .ref a3, .ref a4, .ref a5, .long zx, .long zy, .int (bI zi), .long zu, .long zv, .int zl])), (a1, .inl (cJ, 16, .inr (.inl w2))), (a2, .inl (cJ, 16, .inr (.inl w3))), (a3, .inl (cZ, 16, .inl (fun i => bI ((uB zip q0.toNatClampNeg zi) i)))), (a4, .inl (cJ, 8, .inr (.inl zvu))), (a5, .inl (cJ, 8, .inr (.inl zvv)))] := hD
  obtain ⟨w4, ew4, h⟩ := bnd_s h
  rw [← ew4] at hP hD
  cases h
  exact rfV hx hb hr hlocks hP hD hS dX4_store_30
def fX4_slope (N : Nat) (zp : Int64) (q0 : Int64) (q1 : Int64) (q2 : Int64) (q3 : Int64) : Option (Int64) :=
  if q0 = q2 then
    if zp = 0 then none else
    (fX4_turned N zp (2 * q1)).bind fun r8 =>
    some (jrem ((jrem ((3 * (jrem (q0 * q0) zp)) + 1) zp) * r8) zp)
  else
    (fX4_fit zp (q3 - q1)).bind fun r2 =>
    (fX4_turned N zp (q2 - q0)).bind fun r4 =>
    if zp = 0 then none else
    some (jrem (r2 * r4) zp)
abbrev rmX4_slope : Room := { frames := 3, cells := 0, slots := 0, locals := 76 }
theorem lkX4_slope_0 : (.fieldLink RX4 28 "PairingDeskModel" "p" "J" : Cond) ∈ wsX4_slope := by decide +kernel
theorem lkX4_slope_1 : (.constantLong RX4 71 (3) : Cond) ∈ wsX4_slope := by decide +kernel
theorem lkX4_slope_2 : (.constantLong RX4 26 (2) : Cond) ∈ wsX4_slope := by decide +kernel
theorem iwX4_slope_4 : ∀ w ∈ wsX40, w ∈ wsX4_slope := by decide +kernel
theorem hdX4_slope : KN yX4_slope 4 := by decide +kernel
set_option maxHeartbeats 4000000 in
set_option maxRecDepth 100000 in
theorem kX4_slope (l : Launch) (D : va_G) (cJ cZ : ClassId) (mo a1 a2 a3 a4 a5 : Nat) (N : Nat) (zp : Int64) (zr : Int64) (zh : Int64) (zx : Int64) (zy : Int64) (zi : Bool) (zu : Int64) (zv : Int64) (zl : Int32) (zpx : Nat → Int64) (zpy : Nat → Int64) (zip : Nat → Bool) (zvu : Nat → Int64) (zvv : Nat → Int64) (q0 : Int64) (q1 : Int64) (q2 : Int64) (q3 : Int64) (rr : Int64) (h : fX4_slope N zp q0 q1 q2 q3 = some rr) : Met l yX4_slope wsX4_slope rmX4_slope (PP D cJ cZ [.ref mo, .long q0, .long q1, .long q2, .long q3] [(mo, .inr (4, [.long zp, .long zr, .long zh, .ref a1, .ref a2, .ref a3, .ref a4, .ref a5, .long zx, .long zy, .int (bI zi), .long zu, .long zv, .int zl])), (a1, .inl (cJ, 16, .inr (.inl zpx))), (a2, .inl (cJ, 16, .inr (.inl zpy))), (a3, .inl (cZ, 16, .inl (fun i => bI (zip i)))), (a4, .inl (cJ, 8, .inr (.inl zvu))), (a5, .inl (cJ, 8, .inr (.inl zvv)))]) (SL rr) 0 0 (fun _ => False) := by
  refine Met.ofW (cc := cX4_slope) (maxL := 9) (ret := some .long) (by decide) rfl ?_
  intro pg e s m args below meth c s₁ B hml hv
  obtain ⟨rfl, hP, hE⟩ := hv
  have hx := B.exec
  have hb := B.bytes
  have hr := B.returns
  have hlocks := B.notSynchronized
  have C0 : CallFix pg m c cX4_slope 9 s ([.ref mo, .long q0, .long q1, .long q2, .long q3] : List Value).toArray wsX4_slope RX4 := ⟨hx, hb, hml, findClass_of_methodNamed B.named, atoms_spec (ws := wsX4_slope) B.pre⟩
  have hown := C0.2.2.2.1
  have hts := C0.2.2.2.2
  have hl := lv_entry ([.ref mo, .long q0, .long q1, .long q2, .long q3]) (n := 9) (Nat.le_of_ble_eq_true rfl)
  rw [lg_entry_eq]
  generalize (lg_sl ([.ref mo, .long q0, .long q1, .long q2, .long q3]) ++ List.replicate (9 - (lg_sl ([.ref mo, .long q0, .long q1, .long q2, .long q3])).length) Slot.unset).toArray = ls at hl ⊢
  have hl : lv_has ls 9 [(0, .ref mo), (1, .long q0), (3, .long q1), (5, .long q2), (7, .long q3)] := hl
  unfold fX4_slope at h
  refine lv_lload_n hx hb dX4_slope_0 rfl (lv_at hl 1 rfl) ?_
  refine lv_lload hx hb dX4_slope_1 (lv_at hl 3 rfl) ?_
  refine lc_ne (tgt := 42) hx hb dX4_slope_3 dX4_slope_4 (by decide) (fun c1 => ?_) (fun c1 => ?_)
  · have h := ite_f c1 h
    refine lv_aload_n hx hb dX4_slope_42 rfl (lv_at hl 0 rfl) ?_
    refine lv_lload hx hb dX4_slope_43 (lv_at hl 4 rfl) ?_
    refine lv_lload_n hx hb dX4_slope_45 rfl (lv_at hl 2 rfl) ?_
    refine lv_lsub hx hb dX4_slope_46 ?_
    obtain ⟨r2, h3, h⟩ := bind_s h
    refine kl (kV (As := [.long (q3 - q1)]) (rest := []) C0 (kX4_fit l D cJ cZ mo a1 a2 a3 a4 a5 zp zr zh zx zy zi zu zv zl zpx zpy zip zvu zvv (q3 - q1) r2 h3) gX4_slope_X4_fit rfl ⟨rfl, rfl⟩ hdX4_fit ⟨Nat.le_of_ble_eq_true rfl, Nat.le_of_ble_eq_true rfl⟩ 4 0 rfl rfl rfl hP hE hl rfl rfl (Nat.le_of_ble_eq_true rfl) dX4_slope_47 (Nat.zero_le _) (Nat.zero_le _)) ?_
    refine lv_aload_n hx hb dX4_slope_50 rfl (lv_at hl 0 rfl) ?_
    refine lv_lload hx hb dX4_slope_51 (lv_at hl 3 rfl) ?_
    refine lv_lload_n hx hb dX4_slope_53 rfl (lv_at hl 1 rfl) ?_
    refine lv_lsub hx hb dX4_slope_54 ?_
    obtain ⟨r4, h5, h⟩ := bind_s h
    refine kl (kV (As := [.long (q2 - q0)]) (rest := [.long r2]) C0 (kX4_turned l D cJ cZ mo a1 a2 a3 a4 a5 N zp zr zh zx zy zi zu zv zl zpx zpy zip zvu zvv (q2 - q0) r4 h5) gX4_slope_X4_turned rfl ⟨rfl, rfl⟩ hdX4_turned ⟨Nat.le_of_ble_eq_true rfl, Nat.le_of_ble_eq_true rfl⟩ 4 0 rfl rfl rfl hP hE hl rfl rfl (Nat.le_of_ble_eq_true rfl) dX4_slope_55 (Nat.zero_le _) (Nat.zero_le _)) ?_
    refine lv_lmul hx hb dX4_slope_58 ?_
    refine lv_aload_n hx hb dX4_slope_59 rfl (lv_at hl 0 rfl) ?_
    refine va_get (D := D) (ci := 4) (v := .long zp) (C := RX4) (T := TX4) (N := 14) hx hb hts iwX4_slope_4 hown hE.1 hP 0 rfl rfl 0 (by decide) (hts _ lkX4_slope_0) (fun _ h9 => h9) rfl dX4_slope_60 ?_
    obtain ⟨c6, h⟩ := ite_n h
    refine lv_lremJ hx hb dX4_slope_63 c6 ?_
    exact reL hx hb hr hlocks h dX4_slope_64
  · have h := ite_t c1 h
    refine lv_ldc2 (v := 3) hx hb hown (hts _ lkX4_slope_1) dX4_slope_7 ?_
    refine lv_lload_n hx hb dX4_slope_10 rfl (lv_at hl 1 rfl) ?_
    refine lv_lload_n hx hb dX4_slope_11 rfl (lv_at hl 1 rfl) ?_
    refine lv_lmul hx hb dX4_slope_12 ?_
    refine lv_aload_n hx hb dX4_slope_13 rfl (lv_at hl 0 rfl) ?_
    refine va_get (D := D) (ci := 4) (v := .long zp) (C := RX4) (T := TX4) (N := 14) hx hb hts iwX4_slope_4 hown hE.1 hP 0 rfl rfl 0 (by decide) (hts _ lkX4_slope_0) (fun _ h9 => h9) rfl dX4_slope_14 ?_
    obtain ⟨c7, h⟩ := ite_n h
    refine lv_lremJ hx hb dX4_slope_17 c7 ?_
    refine lv_lmul hx hb dX4_slope_18 ?_
    refine lv_lconst (v := 1) hx hb dX4_slope_19 (by decide) ?_
    refine lv_ladd hx hb dX4_slope_20 ?_
    refine lv_aload_n hx hb dX4_slope_21 rfl (lv_at hl 0 rfl) ?_
    refine va_get (D := D) (ci := 4) (v := .long zp) (C := RX4) (T := TX4) (N := 14) hx hb hts iwX4_slope_4 hown hE.1 hP 0 rfl rfl 0 (by decide) (hts _ lkX4_slope_0) (fun _ h9 => h9) rfl dX4_slope_22 ?_
    refine lv_lremJ hx hb dX4_slope_25 c7 ?_
    refine lv_aload_n hx hb dX4_slope_26 rfl (lv_at hl 0 rfl) ?_
    refine lv_ldc2 (v := 2) hx hb hown (hts _ lkX4_slope_2) dX4_slope_27 ?_
    refine lv_lload_n hx hb dX4_slope_30 rfl (lv_at hl 2 rfl) ?_
    refine lv_lmul hx hb dX4_slope_31 ?_
    obtain ⟨r8, h9, h⟩ := bind_s h
    refine kl (kV (As := [.long (2 * q1)]) (rest := [.long (jrem ((3 * (jrem (q0 * q0) zp)) + 1) zp)]) C0 (kX4_turned l D cJ cZ mo a1 a2 a3 a4 a5 N zp zr zh zx zy zi zu zv zl zpx zpy zip zvu zvv (2 * q1) r8 h9) gX4_slope_X4_turned rfl ⟨rfl, rfl⟩ hdX4_turned ⟨Nat.le_of_ble_eq_true rfl, Nat.le_of_ble_eq_true rfl⟩ 4 0 rfl rfl rfl hP hE hl rfl rfl (Nat.le_of_ble_eq_true rfl) dX4_slope_32 (Nat.zero_le _) (Nat.zero_le _)) ?_
    refine lv_lmul hx hb dX4_slope_35 ?_
    refine lv_aload_n hx hb dX4_slope_36 rfl (lv_at hl 0 rfl) ?_
    refine va_get (D := D) (ci := 4) (v := .long zp) (C := RX4) (T := TX4) (N := 14) hx hb hts iwX4_slope_4 hown hE.1 hP 0 rfl rfl 0 (by decide) (hts _ lkX4_slope_0) (fun _ h9 => h9) rfl dX4_slope_37 ?_
    refine lv_lremJ hx hb dX4_slope_40 c7 ?_
    exact reL hx hb hr hlocks h dX4_slope_41
def fX4_plus (N : Nat) (zp : Int64) (zx : Int64) (zy : Int64) (zi : Bool) (q0 : Int64) (q1 : Int64) (q2 : Bool) : Option (Int64 × Int64 × Bool) :=
  if (bI q2) = 0 then
    some (zx, zy, zi)
  else
    if (bI zi) = 0 then
      some (q0, q1, true)
    else
      if zx = q0 then
        if zp = 0 then none else
        if (jrem (zy + q1) zp) = 0 then
          some (zx, zy, false)
        else
          (fX4_slope N zp zx zy q0 q1).bind fun r15 =>
          (fX4_fit zp (((jrem (r15 * r15) zp) - zx) - q0)).bind fun r17 =>
          (fX4_fit zp (zx - r17)).bind fun r19 =>
          (fX4_fit zp ((jrem (r15 * r19) zp) - zy)).bind fun r21 =>
          some (r17, r21, zi)
      else
        (fX4_slope N zp zx zy q0 q1).bind fun r4 =>
        if zp = 0 then none else
        (fX4_fit zp (((jrem (r4 * r4) zp) - zx) - q0)).bind fun r7 =>
        (fX4_fit zp (zx - r7)).bind fun r9 =>
        (fX4_fit zp ((jrem (r4 * r9) zp) - zy)).bind fun r11 =>
        some (r7, r11, zi)
abbrev rmX4_plus : Room := { frames := 4, cells := 0, slots := 0, locals := 104 }
theorem lkX4_plus_0 : (.fieldLink RX4 67 "PairingDeskModel" "is" "Z" : Cond) ∈ wsX4_plus := by decide +kernel
theorem lkX4_plus_1 : (.fieldLink RX4 61 "PairingDeskModel" "x" "J" : Cond) ∈ wsX4_plus := by decide +kernel
theorem lkX4_plus_2 : (.fieldLink RX4 64 "PairingDeskModel" "y" "J" : Cond) ∈ wsX4_plus := by decide +kernel
theorem lkX4_plus_3 : (.fieldLink RX4 28 "PairingDeskModel" "p" "J" : Cond) ∈ wsX4_plus := by decide +kernel
theorem iwX4_plus_4 : ∀ w ∈ wsX40, w ∈ wsX4_plus := by decide +kernel
theorem hdX4_plus : KN yX4_plus 3 := by decide +kernel
set_option maxHeartbeats 4000000 in
set_option maxRecDepth 100000 in
theorem kX4_plus (l : Launch) (D : va_G) (cJ cZ : ClassId) (mo a1 a2 a3 a4 a5 : Nat) (N : Nat) (zp : Int64) (zr : Int64) (zh : Int64) (zx : Int64) (zy : Int64) (zi : Bool) (zu : Int64) (zv : Int64) (zl : Int32) (zpx : Nat → Int64) (zpy : Nat → Int64) (zip : Nat → Bool) (zvu : Nat → Int64) (zvv : Nat → Int64) (q0 : Int64) (q1 : Int64) (q2 : Bool) (sz : Nat) (ozx : Int64) (ozy : Int64) (ozi : Bool) (h : fX4_plus N zp zx zy zi q0 q1 q2 = some (ozx, ozy, ozi)) : Met l yX4_plus wsX4_plus rmX4_plus (PE D cJ cZ [.ref mo, .long q0, .long q1, .int (bI q2)] [(mo, .inr (4, [.long zp, .long zr, .long zh, .ref a1, .ref a2, .ref a3, .ref a4, .ref a5, .long zx, .long zy, .int (bI zi), .long zu, .long zv, .int zl])), (a1, .inl (cJ, 16, .inr (.inl zpx))), (a2, .inl (cJ, 16, .inr (.inl zpy))), (a3, .inl (cZ, 16, .inl (fun i => bI (zip i)))), (a4, .inl (cJ, 8, .inr (.inl zvu))), (a5, .inl (cJ, 8, .inr (.inl zvv)))] sz) (QE D (none) [(mo, .inr (4, [.long zp, .long zr, .long zh, .ref a1, .ref a2, .ref a3, .ref a4, .ref a5, .long ozx, .long ozy, .int (bI ozi), .long zu, .long zv, .int zl])), (a1, .inl (cJ, 16, .inr (.inl zpx))), (a2, .inl (cJ, 16, .inr (.inl zpy))), (a3, .inl (cZ, 16, .inl (fun i => bI (zip i)))), (a4, .inl (cJ, 8, .inr (.inl zvu))), (a5, .inl (cJ, 8, .inr (.inl zvv)))] (va_A [(mo, .inr (4, [.long zp, .long zr, .long zh, .ref a1, .ref a2, .ref a3, .ref a4, .ref a5, .long zx, .long zy, .int (bI zi), .long zu, .long zv, .int zl])), (a1, .inl (cJ, 16, .inr (.inl zpx))), (a2, .inl (cJ, 16, .inr (.inl zpy))), (a3, .inl (cZ, 16, .inl (fun i => bI (zip i)))), (a4, .inl (cJ, 8, .inr (.inl zvu))), (a5, .inl (cJ, 8, .inr (.inl zvv)))] sz)) 0 0 (va_A [(mo, .inr (4, [.long zp, .long zr, .long zh, .ref a1, .ref a2, .ref a3, .ref a4, .ref a5, .long zx, .long zy, .int (bI zi), .long zu, .long zv, .int zl])), (a1, .inl (cJ, 16, .inr (.inl zpx))), (a2, .inl (cJ, 16, .inr (.inl zpy))), (a3, .inl (cZ, 16, .inl (fun i => bI (zip i)))), (a4, .inl (cJ, 8, .inr (.inl zvu))), (a5, .inl (cJ, 8, .inr (.inl zvv)))] sz) := by
  refine Met.ofW (cc := cX4_plus) (maxL := 10) (ret := none) (by decide) rfl ?_
  intro pg e s m args below meth c s₁ B hml hv
  obtain ⟨rfl, hsz, hP, hE, hD0⟩ := hv
  have hx := B.exec
  have hb := B.bytes
  have hr := B.returns
  have hlocks := B.notSynchronized
  have C0 : CallFix pg m c cX4_plus 10 s ([.ref mo, .long q0, .long q1, .int (bI q2)] : List Value).toArray wsX4_plus RX4 := ⟨hx, hb, hml, findClass_of_methodNamed B.named, atoms_spec (ws := wsX4_plus) B.pre⟩
  have hown := C0.2.2.2.1
  have hts := C0.2.2.2.2
  subst hsz
  have hD := hD0.self (sz := s.heap.size)
  generalize hAe : va_A [(mo, .inr (4, [.long zp, .long zr, .long zh, .ref a1, .ref a2, .ref a3, .ref a4, .ref a5, .long zx, .long zy, .int (bI zi), .long zu, .long zv, .int zl])), (a1, .inl (cJ, 16, .inr (.inl zpx))), (a2, .inl (cJ, 16, .inr (.inl zpy))), (a3, .inl (cZ, 16, .inl (fun i => bI (zip i)))), (a4, .inl (cJ, 8, .inr (.inl zvu))), (a5, .inl (cJ, 8, .inr (.inl zvv)))] s.heap.size = A at hD ⊢
  have hA : ∀ q : Nat, s.heap.size ≤ q → A q := fun q h => by rw [← hAe]; exact Or.inr h
  have hS : va_S A s.heap s.heap [] := va_S.rf
  have hP : va_P D vwCl [(mo, .inr (4, [.long zp, .long zr, .long zh, .ref a1, .ref a2, .ref a3, .ref a4, .ref a5, .long zx, .long zy, .int (bI zi), .long zu, .long zv, .int zl])), (a1, .inl (cJ, 16, .inr (.inl zpx))), (a2, .inl (cJ, 16, .inr (.inl zpy))), (a3, .inl (cZ, 16, .inl (fun i => bI (zip i)))), (a4, .inl (cJ, 8, .inr (.inl zvu))), (a5, .inl (cJ, 8, .inr (.inl zvv)))] s.heap := hP
  have hl := lv_entry ([.ref mo, .long q0, .long q1, .int (bI q2)]) (n := 10) (Nat.le_of_ble_eq_true rfl)
  rw [lg_entry_eq]
  generalize (lg_sl ([.ref mo, .long q0, .long q1, .int (bI q2)]) ++ List.replicate (10 - (lg_sl ([.ref mo, .long q0, .long q1, .int (bI q2)])).length) Slot.unset).toArray = ls at hl ⊢
  have hl : lv_has ls 10 [(0, .ref mo), (1, .long q0), (3, .long q1), (5, .int (bI q2))] := hl
  suffices key : ∀ (H : Heap) (locs : List Loc), va_P D vwCl [(mo, .inr (4, [.long zp, .long zr, .long zh, .ref a1, .ref a2, .ref a3, .ref a4, .ref a5, .long zx, .long zy, .int (bI zi), .long zu, .long zv, .int zl])), (a1, .inl (cJ, 16, .inr (.inl zpx))), (a2, .inl (cJ, 16, .inr (.inl zpy))), (a3, .inl (cZ, 16, .inl (fun i => bI (zip i)))), (a4, .inl (cJ, 8, .inr (.inl zvu))), (a5, .inl (cJ, 8, .inr (.inl zvv)))] H → va_D A [(mo, .inr (4, [.long zp, .long zr, .long zh, .ref a1, .ref a2, .ref a3, .ref a4, .ref a5, .long zx, .long zy, .int (bI zi), .long zu, .long zv, .int zl])), (a1, .inl (cJ, 16, .inr (.inl zpx))), (a2, .inl (cJ, 16, .inr (.inl zpy))), (a3, .inl (cZ, 16, .inl (fun i => bI (zip i)))), (a4, .inl (cJ, 8, .inr (.inl zvu))), (a5, .inl (cJ, 8, .inr (.inl zvv)))] → va_S A s.heap H locs → W pg l e (headSpec wsX4_plus rmX4_plus).room s m ([.ref mo, .long q0, .long q1, .int (bI q2)] : List Value).toArray below meth c H locs 0 0 (MQ below (QE D (none) [(mo, .inr (4, [.long zp, .long zr, .long zh, .ref a1, .ref a2, .ref a3, .ref a4, .ref a5, .long ozx, .long ozy, .int (bI ozi), .long zu, .long zv, .int zl])), (a1, .inl (cJ, 16, .inr (.inl zpx))), (a2, .inl (cJ, 16, .inr (.inl zpy))), (a3, .inl (cZ, 16, .inl (fun i => bI (zip i)))), (a4, .inl (cJ, 8, .inr (.inl zvu))), (a5, .inl (cJ, 8, .inr (.inl zvv)))] A) ([.ref mo, .long q0, .long q1, .int (bI q2)] : List Value).toArray s 0 0 A) (F0 m 0 ls []) from key s.heap [] hP hD hS
  intro H locs hP hD hS
  unfold fX4_plus at h
  refine lv_iload hx hb dX4_plus_0 (lv_at hl 3 rfl) ?_
  refine lv_if_ne (tgt := 6) hx hb dX4_plus_2 (by decide) (fun c1 => ?_) (fun c1 => ?_)
  · have h := ite_f c1 h
    refine lv_aload_n hx hb dX4_plus_6 rfl (lv_at hl 0 rfl) ?_
    refine va_get (D := D) (ci := 4) (v := .int (bI zi)) (C := RX4) (T := TX4) (N := 14) hx hb hts iwX4_plus_4 hown hE.1 hP 0 rfl rfl 10 (by decide) (hts _ lkX4_plus_0) (fun _ h9 => h9) rfl dX4_plus_7 ?_
    refine lv_if_ne (tgt := 29) hx hb dX4_plus_10 (by decide) (fun c2 => ?_) (fun c2 => ?_)
    · have h := ite_f c2 h
      refine lv_aload_n hx hb dX4_plus_29 rfl (lv_at hl 0 rfl) ?_
      refine va_get (D := D) (ci := 4) (v := .long zx) (C := RX4) (T := TX4) (N := 14) hx hb hts iwX4_plus_4 hown hE.1 hP 0 rfl rfl 8 (by decide) (hts _ lkX4_plus_1) (fun _ h9 => h9) rfl dX4_plus_30 ?_
      refine lv_lload_n hx hb dX4_plus_33 rfl (lv_at hl 1 rfl) ?_
      refine lc_ne (tgt := 60) hx hb dX4_plus_34 dX4_plus_35 (by decide) (fun c3 => ?_) (fun c3 => ?_)
      · have h := ite_f c3 h
        refine lv_aload_n hx hb dX4_plus_60 rfl (lv_at hl 0 rfl) ?_
        refine lv_aload_n hx hb dX4_plus_61 rfl (lv_at hl 0 rfl) ?_
        refine va_get (D := D) (ci := 4) (v := .long zx) (C := RX4) (T := TX4) (N := 14) hx hb hts iwX4_plus_4 hown hE.1 hP 0 rfl rfl 8 (by decide) (hts _ lkX4_plus_1) (fun _ h9 => h9) rfl dX4_plus_62 ?_
        refine lv_aload_n hx hb dX4_plus_65 rfl (lv_at hl 0 rfl) ?_
        refine va_get (D := D) (ci := 4) (v := .long zy) (C := RX4) (T := TX4) (N := 14) hx hb hts iwX4_plus_4 hown hE.1 hP 0 rfl rfl 9 (by decide) (hts _ lkX4_plus_2) (fun _ h9 => h9) rfl dX4_plus_66 ?_
        refine lv_lload_n hx hb dX4_plus_69 rfl (lv_at hl 1 rfl) ?_
        refine lv_lload_n hx hb dX4_plus_70 rfl (lv_at hl 2 rfl) ?_
        obtain ⟨r4, h5, h⟩ := bind_s h
        refine kl (kV (As := [.long zx, .long zy, .long q0, .long q1]) (rest := []) C0 (kX4_slope l D cJ cZ mo a1 a2 a3 a4 a5 N zp zr zh zx zy zi zu zv zl zpx zpy zip zvu zvv zx zy q0 q1 r4 h5) gX4_plus_X4_slope rfl ⟨rfl, rfl⟩ hdX4_slope ⟨Nat.le_of_ble_eq_true rfl, Nat.le_of_ble_eq_true rfl⟩ 4 0 rfl rfl rfl hP hE hl rfl rfl (Nat.le_of_ble_eq_true rfl) dX4_plus_71 (Nat.zero_le _) (Nat.zero_le _)) ?_
        refine lv_lstore (lv' := [(6, .long r4), (0, .ref mo), (1, .long q0), (3, .long q1), (5, .int (bI q2))]) hx hb dX4_plus_74 hl (by decide) rfl (fun ls hl => ?_)
        refine lv_aload_n hx hb dX4_plus_76 rfl (lv_at hl 1 rfl) ?_
        refine lv_lload hx hb dX4_plus_77 (lv_at hl 0 rfl) ?_
        refine lv_lload hx hb dX4_plus_79 (lv_at hl 0 rfl) ?_
        refine lv_lmul hx hb dX4_plus_81 ?_
        refine lv_aload_n hx hb dX4_plus_82 rfl (lv_at hl 1 rfl) ?_
        refine va_get (D := D) (ci := 4) (v := .long zp) (C := RX4) (T := TX4) (N := 14) hx hb hts iwX4_plus_4 hown hE.1 hP 0 rfl rfl 0 (by decide) (hts _ lkX4_plus_3) (fun _ h9 => h9) rfl dX4_plus_83 ?_
        obtain ⟨c6, h⟩ := ite_n h
        refine lv_lremJ hx hb dX4_plus_86 c6 ?_
        refine lv_aload_n hx hb dX4_plus_87 rfl (lv_at hl 1 rfl) ?_
        refine va_get (D := D) (ci := 4) (v := .long zx) (C := RX4) (T := TX4) (N := 14) hx hb hts iwX4_plus_4 hown hE.1 hP 0 rfl rfl 8 (by decide) (hts _ lkX4_plus_1) (fun _ h9 => h9) rfl dX4_plus_88 ?_
        refine lv_lsub hx hb dX4_plus_91 ?_
        refine lv_lload_n hx hb dX4_plus_92 rfl (lv_at hl 2 rfl) ?_
        refine lv_lsub hx hb dX4_plus_93 ?_
        obtain ⟨r7, h8, h⟩ := bind_s h
        refine kl (kV (As := [.long (((jrem (r4 * r4) zp) - zx) - q0)]) (rest := []) C0 (kX4_fit l D cJ cZ mo a1 a2 a3 a4 a5 zp zr zh zx zy zi zu zv zl zpx zpy zip zvu zvv (((jrem (r4 * r4) zp) - zx) - q0) r7 h8) gX4_plus_X4_fit rfl ⟨rfl, rfl⟩ hdX4_fit ⟨Nat.le_of_ble_eq_true rfl, Nat.le_of_ble_eq_true rfl⟩ 4 0 rfl rfl rfl hP hE hl rfl rfl (Nat.le_of_ble_eq_true rfl) dX4_plus_94 (Nat.zero_le _) (Nat.zero_le _)) ?_
        refine lv_lstore (lv' := [(8, .long r7), (6, .long r4), (0, .ref mo), (1, .long q0), (3, .long q1), (5, .int (bI q2))]) hx hb dX4_plus_97 hl (by decide) rfl (fun ls hl => ?_)
        refine lv_aload_n hx hb dX4_plus_99 rfl (lv_at hl 2 rfl) ?_
        refine lv_aload_n hx hb dX4_plus_100 rfl (lv_at hl 2 rfl) ?_
        refine lv_lload hx hb dX4_plus_101 (lv_at hl 1 rfl) ?_
        refine lv_aload_n hx hb dX4_plus_103 rfl (lv_at hl 2 rfl) ?_
        refine lv_aload_n hx hb dX4_plus_104 rfl (lv_at hl 2 rfl) ?_
        refine va_get (D := D) (ci := 4) (v := .long zx) (C := RX4) (T := TX4) (N := 14) hx hb hts iwX4_plus_4 hown hE.1 hP 0 rfl rfl 8 (by decide) (hts _ lkX4_plus_1) (fun _ h9 => h9) rfl dX4_plus_105 ?_
        refine lv_lload hx hb dX4_plus_108 (lv_at hl 0 rfl) ?_
        refine lv_lsub hx hb dX4_plus_110 ?_
        obtain ⟨r9, h10, h⟩ := bind_s h
        refine kl (kV (As := [.long (zx - r7)]) (rest := [.long r4, .ref mo, .ref mo]) C0 (kX4_fit l D cJ cZ mo a1 a2 a3 a4 a5 zp zr zh zx zy zi zu zv zl zpx zpy zip zvu zvv (zx - r7) r9 h10) gX4_plus_X4_fit rfl ⟨rfl, rfl⟩ hdX4_fit ⟨Nat.le_of_ble_eq_true rfl, Nat.le_of_ble_eq_true rfl⟩ 4 0 rfl rfl rfl hP hE hl rfl rfl (Nat.le_of_ble_eq_true rfl) dX4_plus_111 (Nat.zero_le _) (Nat.zero_le _)) ?_
        refine lv_lmul hx hb dX4_plus_114 ?_
        refine lv_aload_n hx hb dX4_plus_115 rfl (lv_at hl 2 rfl) ?_
        refine va_get (D := D) (ci := 4) (v := .long zp) (C := RX4) (T := TX4) (N := 14) hx hb hts iwX4_plus_4 hown hE.1 hP 0 rfl rfl 0 (by decide) (hts _ lkX4_plus_3) (fun _ h9 => h9) rfl dX4_plus_116 ?_
        refine lv_lremJ hx hb dX4_plus_119 c6 ?_
        refine lv_aload_n hx hb dX4_plus_120 rfl (lv_at hl 2 rfl) ?_
        refine va_get (D := D) (ci := 4) (v := .long zy) (C := RX4) (T := TX4) (N := 14) hx hb hts iwX4_plus_4 hown hE.1 hP 0 rfl rfl 9 (by decide) (hts _ lkX4_plus_2) (fun _ h9 => h9) rfl dX4_plus_121 ?_
        refine lv_lsub hx hb dX4_plus_124 ?_
        obtain ⟨r11, h12, h⟩ := bind_s h
        refine kl (kV (As := [.long ((jrem (r4 * r9) zp) - zy)]) (rest := [.ref mo]) C0 (kX4_fit l D cJ cZ mo a1 a2 a3 a4 a5 zp zr zh zx zy zi zu zv zl zpx zpy zip zvu zvv ((jrem (r4 * r9) zp) - zy) r11 h12) gX4_plus_X4_fit rfl ⟨rfl, rfl⟩ hdX4_fit ⟨Nat.le_of_ble_eq_true rfl, Nat.le_of_ble_eq_true rfl⟩ 4 0 rfl rfl rfl hP hE hl rfl rfl (Nat.le_of_ble_eq_true rfl) dX4_plus_125 (Nat.zero_le _) (Nat.zero_le _)) ?_
        refine va_put (D := D) (ci := 4) (v := .long r11) (ty := .long) (C := RX4) (T := TX4) (N := 14) hx hb hts iwX4_plus_4 tyX4 tyX4_ok nmX4 hown hE.1 hP hD hS 0 rfl rfl 9 (by decide) (hts _ lkX4_plus_2) (fun _ h9 => h9) rfl (by decide +kernel) rfl rfl (Nat.le_of_ble_eq_true rfl) dX4_plus_128 (fun H locs hP hD hS => ?_)
        have hP : va_P D vwCl [(mo, .inr (4, [.long zp, .long zr, .long zh, .ref a1, .ref a2, .ref a3, .ref a4, .ref a5, .long zx, .long r11, .int (bI zi), .long zu, .long zv, .int zl])), (a1, .inl (cJ, 16, .inr (.inl zpx))), (a2, .inl (cJ, 16, .inr (.inl zpy))), (a3, .inl (cZ, 16, .inl (fun i => bI (zip i)))), (a4, .inl (cJ, 8, .inr (.inl zvu))), (a5, .inl (cJ, 8, .inr (.inl zvv)))] H := hP
        have hD : va_D A [(mo, .inr (4, [.long zp, .long zr, .long zh, .ref a1, .ref a2, .ref a3, .ref a4, .ref a5, .long zx, .long r11, .int (bI zi), .long zu, .long zv, .int zl])), (a1, .inl (cJ, 16, .inr (.inl zpx))), (a2, .inl (cJ, 16, .inr (.inl zpy))), (a3, .inl (cZ, 16, .inl (fun i => bI (zip i)))), (a4, .inl (cJ, 8, .inr (.inl zvu))), (a5, .inl (cJ, 8, .inr (.inl zvv)))] := hD
        refine lv_aload_n hx hb dX4_plus_131 rfl (lv_at hl 2 rfl) ?_
        refine lv_lload hx hb dX4_plus_132 (lv_at hl 0 rfl) ?_
        refine va_put (D := D) (ci := 4) (v := .long r7) (ty := .long) (C := RX4) (T := TX4) (N := 14) hx hb hts iwX4_plus_4 tyX4 tyX4_ok nmX4 hown hE.1 hP hD hS 0 rfl rfl 8 (by decide) (hts _ lkX4_plus_1) (fun _ h9 => h9) rfl (by decide +kernel) rfl rfl (Nat.le_of_ble_eq_true rfl) dX4_plus_134 (fun H locs hP hD hS => ?_)
        have hP : va_P D vwCl [(mo, .inr (4, [.long zp, .long zr, .long zh, .ref a1, .ref a2, .ref a3, .ref a4, .ref a5, .long r7, .long r11, .int (bI zi), .long zu, .long zv, .int zl])), (a1, .inl (cJ, 16, .inr (.inl zpx))), (a2, .inl (cJ, 16, .inr (.inl zpy))), (a3, .inl (cZ, 16, .inl (fun i => bI (zip i)))), (a4, .inl (cJ, 8, .inr (.inl zvu))), (a5, .inl (cJ, 8, .inr (.inl zvv)))] H := hP
        have hD : va_D A [(mo, .inr (4, [.long zp, .long zr, .long zh, .ref a1, .ref a2, .ref a3, .ref a4, .ref a5, .long r7, .long r11, .int (bI zi), .long zu, .long zv, .int zl])), (a1, .inl (cJ, 16, .inr (.inl zpx))), (a2, .inl (cJ, 16, .inr (.inl zpy))), (a3, .inl (cZ, 16, .inl (fun i => bI (zip i)))), (a4, .inl (cJ, 8, .inr (.inl zvu))), (a5, .inl (cJ, 8, .inr (.inl zvv)))] := hD
        cases h
        exact rfV hx hb hr hlocks hP hD hS dX4_plus_137
      · have h := ite_t c3 h
        refine lv_aload_n hx hb dX4_plus_38 rfl (lv_at hl 0 rfl) ?_
        refine va_get (D := D) (ci := 4) (v := .long zy) (C := RX4) (T := TX4) (N := 14) hx hb hts iwX4_plus_4 hown hE.1 hP 0 rfl rfl 9 (by decide) (hts _ lkX4_plus_2) (fun _ h9 => h9) rfl dX4_plus_39 ?_
        refine lv_lload_n hx hb dX4_plus_42 rfl (lv_at hl 2 rfl) ?_
        refine lv_ladd hx hb dX4_plus_43 ?_
        refine lv_aload_n hx hb dX4_plus_44 rfl (lv_at hl 0 rfl) ?_
        refine va_get (D := D) (ci := 4) (v := .long zp) (C := RX4) (T := TX4) (N := 14) hx hb hts iwX4_plus_4 hown hE.1 hP 0 rfl rfl 0 (by decide) (hts _ lkX4_plus_3) (fun _ h9 => h9) rfl dX4_plus_45 ?_
        obtain ⟨c13, h⟩ := ite_n h
        refine lv_lremJ hx hb dX4_plus_48 c13 ?_
        refine lv_lconst (v := 0) hx hb dX4_plus_49 (by decide) ?_
        refine lc_ne (tgt := 60) hx hb dX4_plus_50 dX4_plus_51 (by decide) (fun c14 => ?_) (fun c14 => ?_)
        · have h := ite_f c14 h
          refine lv_aload_n hx hb dX4_plus_60 rfl (lv_at hl 0 rfl) ?_
          refine lv_aload_n hx hb dX4_plus_61 rfl (lv_at hl 0 rfl) ?_
          refine va_get (D := D) (ci := 4) (v := .long zx) (C := RX4) (T := TX4) (N := 14) hx hb hts iwX4_plus_4 hown hE.1 hP 0 rfl rfl 8 (by decide) (hts _ lkX4_plus_1) (fun _ h9 => h9) rfl dX4_plus_62 ?_
          refine lv_aload_n hx hb dX4_plus_65 rfl (lv_at hl 0 rfl) ?_
          refine va_get (D := D) (ci := 4) (v := .long zy) (C := RX4) (T := TX4) (N := 14) hx hb hts iwX4_plus_4 hown hE.1 hP 0 rfl rfl 9 (by decide) (hts _ lkX4_plus_2) (fun _ h9 => h9) rfl dX4_plus_66 ?_
          refine lv_lload_n hx hb dX4_plus_69 rfl (lv_at hl 1 rfl) ?_
          refine lv_lload_n hx hb dX4_plus_70 rfl (lv_at hl 2 rfl) ?_
          obtain ⟨r15, h16, h⟩ := bind_s h
          refine kl (kV (As := [.long zx, .long zy, .long q0, .long q1]) (rest := []) C0 (kX4_slope l D cJ cZ mo a1 a2 a3 a4 a5 N zp zr zh zx zy zi zu zv zl zpx zpy zip zvu zvv zx zy q0 q1 r15 h16) gX4_plus_X4_slope rfl ⟨rfl, rfl⟩ hdX4_slope ⟨Nat.le_of_ble_eq_true rfl, Nat.le_of_ble_eq_true rfl⟩ 4 0 rfl rfl rfl hP hE hl rfl rfl (Nat.le_of_ble_eq_true rfl) dX4_plus_71 (Nat.zero_le _) (Nat.zero_le _)) ?_
          refine lv_lstore (lv' := [(6, .long r15), (0, .ref mo), (1, .long q0), (3, .long q1), (5, .int (bI q2))]) hx hb dX4_plus_74 hl (by decide) rfl (fun ls hl => ?_)
          refine lv_aload_n hx hb dX4_plus_76 rfl (lv_at hl 1 rfl) ?_
          refine lv_lload hx hb dX4_plus_77 (lv_at hl 0 rfl) ?_
          refine lv_lload hx hb dX4_plus_79 (lv_at hl 0 rfl) ?_
          refine lv_lmul hx hb dX4_plus_81 ?_
          refine lv_aload_n hx hb dX4_plus_82 rfl (lv_at hl 1 rfl) ?_
          refine va_get (D := D) (ci := 4) (v := .long zp) (C := RX4) (T := TX4) (N := 14) hx hb hts iwX4_plus_4 hown hE.1 hP 0 rfl rfl 0 (by decide) (hts _ lkX4_plus_3) (fun _ h9 => h9) rfl dX4_plus_83 ?_
          refine lv_lremJ hx hb dX4_plus_86 c13 ?_
          refine lv_aload_n hx hb dX4_plus_87 rfl (lv_at hl 1 rfl) ?_
          refine va_get (D := D) (ci := 4) (v := .long zx) (C := RX4) (T := TX4) (N := 14) hx hb hts iwX4_plus_4 hown hE.1 hP 0 rfl rfl 8 (by decide) (hts _ lkX4_plus_1) (fun _ h9 => h9) rfl dX4_plus_88 ?_
          refine lv_lsub hx hb dX4_plus_91 ?_
          refine lv_lload_n hx hb dX4_plus_92 rfl (lv_at hl 2 rfl) ?_
          refine lv_lsub hx hb dX4_plus_93 ?_
          obtain ⟨r17, h18, h⟩ := bind_s h
          refine kl (kV (As := [.long (((jrem (r15 * r15) zp) - zx) - q0)]) (rest := []) C0 (kX4_fit l D cJ cZ mo a1 a2 a3 a4 a5 zp zr zh zx zy zi zu zv zl zpx zpy zip zvu zvv (((jrem (r15 * r15) zp) - zx) - q0) r17 h18) gX4_plus_X4_fit rfl ⟨rfl, rfl⟩ hdX4_fit ⟨Nat.le_of_ble_eq_true rfl, Nat.le_of_ble_eq_true rfl⟩ 4 0 rfl rfl rfl hP hE hl rfl rfl (Nat.le_of_ble_eq_true rfl) dX4_plus_94 (Nat.zero_le _) (Nat.zero_le _)) ?_
          refine lv_lstore (lv' := [(8, .long r17), (6, .long r15), (0, .ref mo), (1, .long q0), (3, .long q1), (5, .int (bI q2))]) hx hb dX4_plus_97 hl (by decide) rfl (fun ls hl => ?_)
          refine lv_aload_n hx hb dX4_plus_99 rfl (lv_at hl 2 rfl) ?_
          refine lv_aload_n hx hb dX4_plus_100 rfl (lv_at hl 2 rfl) ?_
          refine lv_lload hx hb dX4_plus_101 (lv_at hl 1 rfl) ?_
          refine lv_aload_n hx hb dX4_plus_103 rfl (lv_at hl 2 rfl) ?_
          refine lv_aload_n hx hb dX4_plus_104 rfl (lv_at hl 2 rfl) ?_
          refine va_get (D := D) (ci := 4) (v := .long zx) (C := RX4) (T := TX4) (N := 14) hx hb hts iwX4_plus_4 hown hE.1 hP 0 rfl rfl 8 (by decide) (hts _ lkX4_plus_1) (fun _ h9 => h9) rfl dX4_plus_105 ?_
          refine lv_lload hx hb dX4_plus_108 (lv_at hl 0 rfl) ?_
          refine lv_lsub hx hb dX4_plus_110 ?_
          obtain ⟨r19, h20, h⟩ := bind_s h
          refine kl (kV (As := [.long (zx - r17)]) (rest := [.long r15, .ref mo, .ref mo]) C0 (kX4_fit l D cJ cZ mo a1 a2 a3 a4 a5 zp zr zh zx zy zi zu zv zl zpx zpy zip zvu zvv (zx - r17) r19 h20) gX4_plus_X4_fit rfl ⟨rfl, rfl⟩ hdX4_fit ⟨Nat.le_of_ble_eq_true rfl, Nat.le_of_ble_eq_true rfl⟩ 4 0 rfl rfl rfl hP hE hl rfl rfl (Nat.le_of_ble_eq_true rfl) dX4_plus_111 (Nat.zero_le _) (Nat.zero_le _)) ?_
          refine lv_lmul hx hb dX4_plus_114 ?_
          refine lv_aload_n hx hb dX4_plus_115 rfl (lv_at hl 2 rfl) ?_
          refine va_get (D := D) (ci := 4) (v := .long zp) (C := RX4) (T := TX4) (N := 14) hx hb hts iwX4_plus_4 hown hE.1 hP 0 rfl rfl 0 (by decide) (hts _ lkX4_plus_3) (fun _ h9 => h9) rfl dX4_plus_116 ?_
          refine lv_lremJ hx hb dX4_plus_119 c13 ?_
          refine lv_aload_n hx hb dX4_plus_120 rfl (lv_at hl 2 rfl) ?_
          refine va_get (D := D) (ci := 4) (v := .long zy) (C := RX4) (T := TX4) (N := 14) hx hb hts iwX4_plus_4 hown hE.1 hP 0 rfl rfl 9 (by decide) (hts _ lkX4_plus_2) (fun _ h9 => h9) rfl dX4_plus_121 ?_
          refine lv_lsub hx hb dX4_plus_124 ?_
          obtain ⟨r21, h22, h⟩ := bind_s h
          refine kl (kV (As := [.long ((jrem (r15 * r19) zp) - zy)]) (rest := [.ref mo]) C0 (kX4_fit l D cJ cZ mo a1 a2 a3 a4 a5 zp zr zh zx zy zi zu zv zl zpx zpy zip zvu zvv ((jrem (r15 * r19) zp) - zy) r21 h22) gX4_plus_X4_fit rfl ⟨rfl, rfl⟩ hdX4_fit ⟨Nat.le_of_ble_eq_true rfl, Nat.le_of_ble_eq_true rfl⟩ 4 0 rfl rfl rfl hP hE hl rfl rfl (Nat.le_of_ble_eq_true rfl) dX4_plus_125 (Nat.zero_le _) (Nat.zero_le _)) ?_
          refine va_put (D := D) (ci := 4) (v := .long r21) (ty := .long) (C := RX4) (T := TX4) (N := 14) hx hb hts iwX4_plus_4 tyX4 tyX4_ok nmX4 hown hE.1 hP hD hS 0 rfl rfl 9 (by decide) (hts _ lkX4_plus_2) (fun _ h9 => h9) rfl (by decide +kernel) rfl rfl (Nat.le_of_ble_eq_true rfl) dX4_plus_128 (fun H locs hP hD hS => ?_)
          have hP : va_P D vwCl [(mo, .inr (4, [.long zp, .long zr, .long zh, .ref a1, .ref a2, .ref a3, .ref a4, .ref a5, .long zx, .long r21, .int (bI zi), .long zu, .long zv, .int zl])), (a1, .inl (cJ, 16, .inr (.inl zpx))), (a2, .inl (cJ, 16, .inr (.inl zpy))), (a3, .inl (cZ, 16, .inl (fun i => bI (zip i)))), (a4, .inl (cJ, 8, .inr (.inl zvu))), (a5, .inl (cJ, 8, .inr (.inl zvv)))] H := hP
          have hD : va_D A [(mo, .inr (4, [.long zp, .long zr, .long zh, .ref a1, .ref a2, .ref a3, .ref a4, .ref a5, .long zx, .long r21, .int (bI zi), .long zu, .long zv, .int zl])), (a1, .inl (cJ, 16, .inr (.inl zpx))), (a2, .inl (cJ, 16, .inr (.inl zpy))), (a3, .inl (cZ, 16, .inl (fun i => bI (zip i)))), (a4, .inl (cJ, 8, .inr (.inl zvu))), (a5, .inl (cJ, 8, .inr (.inl zvv)))] := hD
          refine lv_aload_n hx hb dX4_plus_131 rfl (lv_at hl 2 rfl) ?_
          refine lv_lload hx hb dX4_plus_132 (lv_at hl 0 rfl) ?_
          refine va_put (D := D) (ci := 4) (v := .long r17) (ty := .long) (C := RX4) (T := TX4) (N := 14) hx hb hts iwX4_plus_4 tyX4 tyX4_ok nmX4 hown hE.1 hP hD hS 0 rfl rfl 8 (by decide) (hts _ lkX4_plus_1) (fun _ h9 => h9) rfl (by decide +kernel) rfl rfl (Nat.le_of_ble_eq_true rfl) dX4_plus_134 (fun H locs hP hD hS => ?_)
          have hP : va_P D vwCl [(mo, .inr (4, [.long zp, .long zr, .long zh, .ref a1, .ref a2, .ref a3, .ref a4, .ref a5, .long r17, .long r21, .int (bI zi), .long zu, .long zv, .int zl])), (a1, .inl (cJ, 16, .inr (.inl zpx))), (a2, .inl (cJ, 16, .inr (.inl zpy))), (a3, .inl (cZ, 16, .inl (fun i => bI (zip i)))), (a4, .inl (cJ, 8, .inr (.inl zvu))), (a5, .inl (cJ, 8, .inr (.inl zvv)))] H := hP
          have hD : va_D A [(mo, .inr (4, [.long zp, .long zr, .long zh, .ref a1, .ref a2, .ref a3, .ref a4, .ref a5, .long r17, .long r21, .int (bI zi), .long zu, .long zv, .int zl])), (a1, .inl (cJ, 16, .inr (.inl zpx))), (a2, .inl (cJ, 16, .inr (.inl zpy))), (a3, .inl (cZ, 16, .inl (fun i => bI (zip i)))), (a4, .inl (cJ, 8, .inr (.inl zvu))), (a5, .inl (cJ, 8, .inr (.inl zvv)))] := hD
          cases h
          exact rfV hx hb hr hlocks hP hD hS dX4_plus_137
        · have h := ite_t c14 h
          refine lv_aload_n hx hb dX4_plus_54 rfl (lv_at hl 0 rfl) ?_
          refine lv_iconst (v := 0) hx hb dX4_plus_55 (by decide) ?_
          refine va_put (D := D) (ci := 4) (v := .int (bI false)) (ty := .boolean) (C := RX4) (T := TX4) (N := 14) hx hb hts iwX4_plus_4 tyX4 tyX4_ok nmX4 hown hE.1 hP hD hS 0 rfl rfl 10 (by decide) (hts _ lkX4_plus_0) (fun _ h9 => h9) rfl (by decide +kernel) (narv_bI _) (fits_bI _) (Nat.le_of_ble_eq_true rfl) dX4_plus_56 (fun H locs hP hD hS => ?_)
          have hP : va_P D vwCl [(mo, .inr (4, [.long zp, .long zr, .long zh, .ref a1, .ref a2, .ref a3, .ref a4, .ref a5, .long zx, .long zy, .int (bI false), .long zu, .long zv, .int zl])), (a1, .inl (cJ, 16, .inr (.inl zpx))), (a2, .inl (cJ, 16, .inr (.inl zpy))), (a3, .inl (cZ, 16, .inl (fun i => bI (zip i)))), (a4, .inl (cJ, 8, .inr (.inl zvu))), (a5, .inl (cJ, 8, .inr (.inl zvv)))] H := hP
          have hD : va_D A [(mo, .inr (4, [.long zp, .long zr, .long zh, .ref a1, .ref a2, .ref a3, .ref a4, .ref a5, .long zx, .long zy, .int (bI false), .long zu, .long zv, .int zl])), (a1, .inl (cJ, 16, .inr (.inl zpx))), (a2, .inl (cJ, 16, .inr (.inl zpy))), (a3, .inl (cZ, 16, .inl (fun i => bI (zip i)))), (a4, .inl (cJ, 8, .inr (.inl zvu))), (a5, .inl (cJ, 8, .inr (.inl zvv)))] := hD
          cases h
          exact rfV hx hb hr hlocks hP hD hS dX4_plus_59
    · have h := ite_t c2 h
      refine lv_aload_n hx hb dX4_plus_13 rfl (lv_at hl 0 rfl) ?_
      refine lv_lload_n hx hb dX4_plus_14 rfl (lv_at hl 1 rfl) ?_
      refine va_put (D := D) (ci := 4) (v := .long q0) (ty := .long) (C := RX4) (T := TX4) (N := 14) hx hb hts iwX4_plus_4 tyX4 tyX4_ok nmX4 hown hE.1 hP hD hS 0 rfl rfl 8 (by decide) (hts _ lkX4_plus_1) (fun _ h9 => h9) rfl (by decide +kernel) rfl rfl (Nat.le_of_ble_eq_true rfl) dX4_plus_15 (fun H locs hP hD hS => ?_)
      have hP : va_P D vwCl [(mo, .inr (4, [.long zp, .long zr, .long zh, .ref a1, .ref a2, .ref a3, .ref a4, .ref a5, .long q0, .long zy, .int (bI zi), .long zu, .long zv, .int zl])), (a1, .inl (cJ, 16, .inr (.inl zpx))), (a2, .inl (cJ, 16, .inr (.inl zpy))), (a3, .inl (cZ, 16, .inl (fun i => bI (zip i)))), (a4, .inl (cJ, 8, .inr (.inl zvu))), (a5, .inl (cJ, 8, .inr (.inl zvv)))] H := hP
      have hD : va_D A [(mo, .inr (4, [.long zp, .long zr, .long zh, .ref a1, .ref a2, .ref a3, .ref a4, .ref a5, .long q0, .long zy, .int (bI zi), .long zu, .long zv, .int zl])), (a1, .inl (cJ, 16, .inr (.inl zpx))), (a2, .inl (cJ, 16, .inr (.inl zpy))), (a3, .inl (cZ, 16, .inl (fun i => bI (zip i)))), (a4, .inl (cJ, 8, .inr (.inl zvu))), (a5, .inl (cJ, 8, .inr (.inl zvv)))] := hD
      refine lv_aload_n hx hb dX4_plus_18 rfl (lv_at hl 0 rfl) ?_
      refine lv_lload_n hx hb dX4_plus_19 rfl (lv_at hl 2 rfl) ?_
      refine va_put (D := D) (ci := 4) (v := .long q1) (ty := .long) (C := RX4) (T := TX4) (N := 14) hx hb hts iwX4_plus_4 tyX4 tyX4_ok nmX4 hown hE.1 hP hD hS 0 rfl rfl 9 (by decide) (hts _ lkX4_plus_2) (fun _ h9 => h9) rfl (by decide +kernel) rfl rfl (Nat.le_of_ble_eq_true rfl) dX4_plus_20 (fun H locs hP hD hS => ?_)
      have hP : va_P D vwCl [(mo, .inr (4, [.long zp, .long zr, .long zh, .ref a1, .ref a2, .ref a3, .ref a4, .ref a5, .long q0, .long q1, .int (bI zi), .long zu, .long zv, .int zl])), (a1, .inl (cJ, 16, .inr (.inl zpx))), (a2, .inl (cJ, 16, .inr (.inl zpy))), (a3, .inl (cZ, 16, .inl (fun i => bI (zip i)))), (a4, .inl (cJ, 8, .inr (.inl zvu))), (a5, .inl (cJ, 8, .inr (.inl zvv)))] H := hP
      have hD : va_D A [(mo, .inr (4, [.long zp, .long zr, .long zh, .ref a1, .ref a2, .ref a3, .ref a4, .ref a5, .long q0, .long q1, .int (bI zi), .long zu, .long zv, .int zl])), (a1, .inl (cJ, 16, .inr (.inl zpx))), (a2, .inl (cJ, 16, .inr (.inl zpy))), (a3, .inl (cZ, 16, .inl (fun i => bI (zip i)))), (a4, .inl (cJ, 8, .inr (.inl zvu))), (a5, .inl (cJ, 8, .inr (.inl zvv)))] := hD
      refine lv_aload_n hx hb dX4_plus_23 rfl (lv_at hl 0 rfl) ?_
      refine lv_iconst (v := 1) hx hb dX4_plus_24 (by decide) ?_
      refine va_put (D := D) (ci := 4) (v := .int (bI true)) (ty := .boolean) (C := RX4) (T := TX4) (N := 14) hx hb hts iwX4_plus_4 tyX4 tyX4_ok nmX4 hown hE.1 hP hD hS 0 rfl rfl 10 (by decide) (hts _ lkX4_plus_0) (fun _ h9 => h9) rfl (by decide +kernel) (narv_bI _) (fits_bI _) (Nat.le_of_ble_eq_true rfl) dX4_plus_25 (fun H locs hP hD hS => ?_)
      have hP : va_P D vwCl [(mo, .inr (4, [.long zp, .long zr, .long zh, .ref a1, .ref a2, .ref a3, .ref a4, .ref a5, .long q0, .long q1, .int (bI true), .long zu, .long zv, .int zl])), (a1, .inl (cJ, 16, .inr (.inl zpx))), (a2, .inl (cJ, 16, .inr (.inl zpy))), (a3, .inl (cZ, 16, .inl (fun i => bI (zip i)))), (a4, .inl (cJ, 8, .inr (.inl zvu))), (a5, .inl (cJ, 8, .inr (.inl zvv)))] H := hP
      have hD : va_D A [(mo, .inr (4, [.long zp, .long zr, .long zh, .ref a1, .ref a2, .ref a3, .ref a4, .ref a5, .long q0, .long q1, .int (bI true), .long zu, .long zv, .int zl])), (a1, .inl (cJ, 16, .inr (.inl zpx))), (a2, .inl (cJ, 16, .inr (.inl zpy))), (a3, .inl (cZ, 16, .inl (fun i => bI (zip i)))), (a4, .inl (cJ, 8, .inr (.inl zvu))), (a5, .inl (cJ, 8, .inr (.inl zvv)))] := hD
      cases h
      exact rfV hx hb hr hlocks hP hD hS dX4_plus_28
  · have h := ite_t c1 h
    cases h
    exact rfV hx hb hr hlocks hP hD hS dX4_plus_5
def fX4_take_26 (N : Nat) (zp : Int64) (l1 : Int64) (l3 : Int64) (l5 : Int64) (l7 : Bool) : Nat → Int32 → Int64 → Int64 → Bool → Option (Int64 × Int64 × Bool)
  | 0, _, _, _, _ => none
  | n + 1, l8, zx, zy, zi =>
    if l8 < 0 then
      some (zx, zy, zi)
    else
      (fX4_plus N zp zx zy zi zx zy zi).bind fun (o2, o3, o4) =>
      if ((jushr l1 l8) &&& 1) = 1 then
        (fX4_plus N zp o2 o3 o4 l3 l5 l7).bind fun (o8, o9, o10) =>
        bnd (l8 + (-1)) fun w12 =>
        fX4_take_26 N zp l1 l3 l5 l7 n w12 o8 o9 o10
      else
        bnd (l8 + (-1)) fun w7 =>
        fX4_take_26 N zp l1 l3 l5 l7 n w7 o2 o3 o4
def fX4_take (N : Nat) (zp : Int64) (zx : Int64) (zy : Int64) (zi : Bool) (q0 : Int64) : Option (Int64 × Int64 × Bool) :=
  fX4_take_26 N zp q0 zx zy zi N 63 zx zy false
abbrev rmX4_take : Room := { frames := 5, cells := 0, slots := 0, locals := 133 }
theorem lkX4_take_0 : (.fieldLink RX4 61 "PairingDeskModel" "x" "J" : Cond) ∈ wsX4_take := by decide +kernel
theorem lkX4_take_1 : (.fieldLink RX4 64 "PairingDeskModel" "y" "J" : Cond) ∈ wsX4_take := by decide +kernel
theorem lkX4_take_2 : (.fieldLink RX4 67 "PairingDeskModel" "is" "Z" : Cond) ∈ wsX4_take := by decide +kernel
theorem iwX4_take_4 : ∀ w ∈ wsX40, w ∈ wsX4_take := by decide +kernel
theorem hdX4_take : KN yX4_take 1 := by decide +kernel
set_option maxHeartbeats 4000000 in
set_option maxRecDepth 100000 in
theorem kX4_take (l : Launch) (D : va_G) (cJ cZ : ClassId) (mo a1 a2 a3 a4 a5 : Nat) (N : Nat) (zp : Int64) (zr : Int64) (zh : Int64) (zx : Int64) (zy : Int64) (zi : Bool) (zu : Int64) (zv : Int64) (zl : Int32) (zpx : Nat → Int64) (zpy : Nat → Int64) (zip : Nat → Bool) (zvu : Nat → Int64) (zvv : Nat → Int64) (q0 : Int64) (sz : Nat) (ozx : Int64) (ozy : Int64) (ozi : Bool) (h : fX4_take N zp zx zy zi q0 = some (ozx, ozy, ozi)) : Met l yX4_take wsX4_take rmX4_take (PE D cJ cZ [.ref mo, .long q0] [(mo, .inr (4, [.long zp, .long zr, .long zh, .ref a1, .ref a2, .ref a3, .ref a4, .ref a5, .long zx, .long zy, .int (bI zi), .long zu, .long zv, .int zl])), (a1, .inl (cJ, 16, .inr (.inl zpx))), (a2, .inl (cJ, 16, .inr (.inl zpy))), (a3, .inl (cZ, 16, .inl (fun i => bI (zip i)))), (a4, .inl (cJ, 8, .inr (.inl zvu))), (a5, .inl (cJ, 8, .inr (.inl zvv)))] sz) (QE D (none) [(mo, .inr (4, [.long zp, .long zr, .long zh, .ref a1, .ref a2, .ref a3, .ref a4, .ref a5, .long ozx, .long ozy, .int (bI ozi), .long zu, .long zv, .int zl])), (a1, .inl (cJ, 16, .inr (.inl zpx))), (a2, .inl (cJ, 16, .inr (.inl zpy))), (a3, .inl (cZ, 16, .inl (fun i => bI (zip i)))), (a4, .inl (cJ, 8, .inr (.inl zvu))), (a5, .inl (cJ, 8, .inr (.inl zvv)))] (va_A [(mo, .inr (4, [.long zp, .long zr, .long zh, .ref a1, .ref a2, .ref a3, .ref a4, .ref a5, .long zx, .long zy, .int (bI zi), .long zu, .long zv, .int zl])), (a1, .inl (cJ, 16, .inr (.inl zpx))), (a2, .inl (cJ, 16, .inr (.inl zpy))), (a3, .inl (cZ, 16, .inl (fun i => bI (zip i)))), (a4, .inl (cJ, 8, .inr (.inl zvu))), (a5, .inl (cJ, 8, .inr (.inl zvv)))] sz)) 0 0 (va_A [(mo, .inr (4, [.long zp, .long zr, .long zh, .ref a1, .ref a2, .ref a3, .ref a4, .ref a5, .long zx, .long zy, .int (bI zi), .long zu, .long zv, .int zl])), (a1, .inl (cJ, 16, .inr (.inl zpx))), (a2, .inl (cJ, 16, .inr (.inl zpy))), (a3, .inl (cZ, 16, .inl (fun i => bI (zip i)))), (a4, .inl (cJ, 8, .inr (.inl zvu))), (a5, .inl (cJ, 8, .inr (.inl zvv)))] sz) := by
  refine Met.ofW (cc := cX4_take) (maxL := 9) (ret := none) (by decide) rfl ?_
  intro pg e s m args below meth c s₁ B hml hv
  obtain ⟨rfl, hsz, hP, hE, hD0⟩ := hv
  have hx := B.exec
  have hb := B.bytes
  have hr := B.returns
  have hlocks := B.notSynchronized
  have C0 : CallFix pg m c cX4_take 9 s ([.ref mo, .long q0] : List Value).toArray wsX4_take RX4 := ⟨hx, hb, hml, findClass_of_methodNamed B.named, atoms_spec (ws := wsX4_take) B.pre⟩
  have hown := C0.2.2.2.1
  have hts := C0.2.2.2.2
  subst hsz
  have hD := hD0.self (sz := s.heap.size)
  generalize hAe : va_A [(mo, .inr (4, [.long zp, .long zr, .long zh, .ref a1, .ref a2, .ref a3, .ref a4, .ref a5, .long zx, .long zy, .int (bI zi), .long zu, .long zv, .int zl])), (a1, .inl (cJ, 16, .inr (.inl zpx))), (a2, .inl (cJ, 16, .inr (.inl zpy))), (a3, .inl (cZ, 16, .inl (fun i => bI (zip i)))), (a4, .inl (cJ, 8, .inr (.inl zvu))), (a5, .inl (cJ, 8, .inr (.inl zvv)))] s.heap.size = A at hD ⊢
  have hA : ∀ q : Nat, s.heap.size ≤ q → A q := fun q h => by rw [← hAe]; exact Or.inr h
  have hS : va_S A s.heap s.heap [] := va_S.rf
  have hP : va_P D vwCl [(mo, .inr (4, [.long zp, .long zr, .long zh, .ref a1, .ref a2, .ref a3, .ref a4, .ref a5, .long zx, .long zy, .int (bI zi), .long zu, .long zv, .int zl])), (a1, .inl (cJ, 16, .inr (.inl zpx))), (a2, .inl (cJ, 16, .inr (.inl zpy))), (a3, .inl (cZ, 16, .inl (fun i => bI (zip i)))), (a4, .inl (cJ, 8, .inr (.inl zvu))), (a5, .inl (cJ, 8, .inr (.inl zvv)))] s.heap := hP
  have hl := lv_entry ([.ref mo, .long q0]) (n := 9) (Nat.le_of_ble_eq_true rfl)
  rw [lg_entry_eq]
  generalize (lg_sl ([.ref mo, .long q0]) ++ List.replicate (9 - (lg_sl ([.ref mo, .long q0])).length) Slot.unset).toArray = ls at hl ⊢
  have hl : lv_has ls 9 [(0, .ref mo), (1, .long q0)] := hl
  have loop26 : ∀ (l1 : Int64) (l3 : Int64) (l5 : Int64) (l7 : Bool), ∀ (n : Nat) (l8 : Int32) (zx : Int64) (zy : Int64) (zi : Bool), fX4_take_26 N zp l1 l3 l5 l7 n l8 zx zy zi = some (ozx, ozy, ozi) → ∀ (H : Heap) (locs : List Loc), va_P D vwCl [(mo, .inr (4, [.long zp, .long zr, .long zh, .ref a1, .ref a2, .ref a3, .ref a4, .ref a5, .long zx, .long zy, .int (bI zi), .long zu, .long zv, .int zl])), (a1, .inl (cJ, 16, .inr (.inl zpx))), (a2, .inl (cJ, 16, .inr (.inl zpy))), (a3, .inl (cZ, 16, .inl (fun i => bI (zip i)))), (a4, .inl (cJ, 8, .inr (.inl zvu))), (a5, .inl (cJ, 8, .inr (.inl zvv)))] H → va_D A [(mo, .inr (4, [.long zp, .long zr, .long zh, .ref a1, .ref a2, .ref a3, .ref a4, .ref a5, .long zx, .long zy, .int (bI zi), .long zu, .long zv, .int zl])), (a1, .inl (cJ, 16, .inr (.inl zpx))), (a2, .inl (cJ, 16, .inr (.inl zpy))), (a3, .inl (cZ, 16, .inl (fun i => bI (zip i)))), (a4, .inl (cJ, 8, .inr (.inl zvu))), (a5, .inl (cJ, 8, .inr (.inl zvv)))] → va_S A s.heap H locs → ∀ ls : Array Slot, lv_has ls 9 [(0, .ref mo), (1, .long l1), (3, .long l3), (5, .long l5), (7, .int (bI l7)), (8, .int l8)] → W pg l e (headSpec wsX4_take rmX4_take).room s m ([.ref mo, .long q0] : List Value).toArray below meth c H locs 0 0 (MQ below (QE D (none) [(mo, .inr (4, [.long zp, .long zr, .long zh, .ref a1, .ref a2, .ref a3, .ref a4, .ref a5, .long ozx, .long ozy, .int (bI ozi), .long zu, .long zv, .int zl])), (a1, .inl (cJ, 16, .inr (.inl zpx))), (a2, .inl (cJ, 16, .inr (.inl zpy))), (a3, .inl (cZ, 16, .inl (fun i => bI (zip i)))), (a4, .inl (cJ, 8, .inr (.inl zvu))), (a5, .inl (cJ, 8, .inr (.inl zvv)))] A) ([.ref mo, .long q0] : List Value).toArray s 0 0 A) (F0 m 26 ls []) := by
    intro l1 l3 l5 l7
    intro n
    induction n with
    | zero =>
      intro l8 zx zy zi h
      cases h
    | succ n ih =>
      intro l8 zx zy zi h H locs hP hD hS ls hl
      rw [fX4_take_26] at h
      refine lv_iload hx hb dX4_take_26 (lv_at hl 5 rfl) ?_
      refine lv_if_lt (tgt := 73) hx hb dX4_take_28 (by decide) (fun c1 => ?_) (fun c1 => ?_)
      · have h := ite_t c1 h
        cases h
        exact rfV hx hb hr hlocks hP hD hS dX4_take_73
      · have h := ite_f c1 h
        refine lv_aload_n hx hb dX4_take_31 rfl (lv_at hl 0 rfl) ?_
        refine lv_aload_n hx hb dX4_take_32 rfl (lv_at hl 0 rfl) ?_
        refine va_get (D := D) (ci := 4) (v := .long zx) (C := RX4) (T := TX4) (N := 14) hx hb hts iwX4_take_4 hown hE.1 hP 0 rfl rfl 8 (by decide) (hts _ lkX4_take_0) (fun _ h9 => h9) rfl dX4_take_33 ?_
        refine lv_aload_n hx hb dX4_take_36 rfl (lv_at hl 0 rfl) ?_
        refine va_get (D := D) (ci := 4) (v := .long zy) (C := RX4) (T := TX4) (N := 14) hx hb hts iwX4_take_4 hown hE.1 hP 0 rfl rfl 9 (by decide) (hts _ lkX4_take_1) (fun _ h9 => h9) rfl dX4_take_37 ?_
        refine lv_aload_n hx hb dX4_take_40 rfl (lv_at hl 0 rfl) ?_
        refine va_get (D := D) (ci := 4) (v := .int (bI zi)) (C := RX4) (T := TX4) (N := 14) hx hb hts iwX4_take_4 hown hE.1 hP 0 rfl rfl 10 (by decide) (hts _ lkX4_take_2) (fun _ h9 => h9) rfl dX4_take_41 ?_
        obtain ⟨⟨o2, o3, o4⟩, h5, h⟩ := bind_s h
        try dsimp only at h
        refine kE (wc := [(mo, .inr (4, [.long zp, .long zr, .long zh, .ref a1, .ref a2, .ref a3, .ref a4, .ref a5, .long zx, .long zy, .int (bI zi), .long zu, .long zv, .int zl])), (a1, .inl (cJ, 16, .inr (.inl zpx))), (a2, .inl (cJ, 16, .inr (.inl zpy))), (a3, .inl (cZ, 16, .inl (fun i => bI (zip i)))), (a4, .inl (cJ, 8, .inr (.inl zvu))), (a5, .inl (cJ, 8, .inr (.inl zvv)))]) (wr := []) [0, 1, 2, 3, 4, 5] [] hP hD hS hA rfl rfl rfl (by decide) rfl (eV (As := [.long zx, .long zy, .int (bI zi)]) (rest := []) C0 (kX4_plus l D cJ cZ mo a1 a2 a3 a4 a5 N zp zr zh zx zy zi zu zv zl zpx zpy zip zvu zvv zx zy zi H.size o2 o3 o4 h5) gX4_take_X4_plus rfl ⟨rfl, rfl⟩ hdX4_plus ⟨Nat.le_of_ble_eq_true rfl, Nat.le_of_ble_eq_true rfl⟩ 4 0 rfl rfl rfl hP hD hE hl rfl rfl (Nat.le_of_ble_eq_true rfl) dX4_take_44 ⟨Nat.zero_le _, Nat.zero_le _⟩) (fun H locs hP hD hS => ?_)
        have hP : va_P D vwCl [(mo, .inr (4, [.long zp, .long zr, .long zh, .ref a1, .ref a2, .ref a3, .ref a4, .ref a5, .long o2, .long o3, .int (bI o4), .long zu, .long zv, .int zl])), (a1, .inl (cJ, 16, .inr (.inl zpx))), (a2, .inl (cJ, 16, .inr (.inl zpy))), (a3, .inl (cZ, 16, .inl (fun i => bI (zip i)))), (a4, .inl (cJ, 8, .inr (.inl zvu))), (a5, .inl (cJ, 8, .inr (.inl zvv)))] H := hP
        have hD : va_D A [(mo, .inr (4, [.long zp, .long zr, .long zh, .ref a1, .ref a2, .ref a3, .ref a4, .ref a5, .long o2, .long o3, .int (bI o4), .long zu, .long zv, .int zl])), (a1, .inl (cJ, 16, .inr (.inl zpx))), (a2, .inl (cJ, 16, .inr (.inl zpy))), (a3, .inl (cZ, 16, .inl (fun i => bI (zip i)))), (a4, .inl (cJ, 8, .inr (.inl zvu))), (a5, .inl (cJ, 8, .inr (.inl zvv)))] := hD
        refine lv_lload_n hx hb dX4_take_47 rfl (lv_at hl 1 rfl) ?_
        refine lv_iload hx hb dX4_take_48 (lv_at hl 5 rfl) ?_
        refine lv_lushr (v := jushr l1 l8) hx hb dX4_take_50 rfl ?_
        refine lv_lconst (v := 1) hx hb dX4_take_51 (by decide) ?_
        refine lv_land hx hb dX4_take_52 ?_
        refine lv_lconst (v := 1) hx hb dX4_take_53 (by decide) ?_
        refine lc_ne (tgt := 67) hx hb dX4_take_54 dX4_take_55 (by decide) (fun c6 => ?_) (fun c6 => ?_)
        · have h := ite_f c6 h
          obtain ⟨w7, ew7, h⟩ := bnd_s h
          refine lv_iinc (v := w7) (lv' := [(8, .int w7), (0, .ref mo), (1, .long l1), (3, .long l3), (5, .long l5), (7, .int (bI l7))]) hx hb dX4_take_67 hl (k := 5) rfl (by rw [ew7]; rfl) (by decide) rfl (fun ls hl => ?_)
          refine lv_goto (tgt := 26) hx hb dX4_take_70 (by decide) ?_
          exact ih w7 o2 o3 o4 h H locs hP hD hS ls (lv_sub hl [1, 2, 3, 4, 5, 0] rfl)
        · have h := ite_t c6 h
          refine lv_aload_n hx hb dX4_take_58 rfl (lv_at hl 0 rfl) ?_
          refine lv_lload_n hx hb dX4_take_59 rfl (lv_at hl 2 rfl) ?_
          refine lv_lload hx hb dX4_take_60 (lv_at hl 3 rfl) ?_
          refine lv_iload hx hb dX4_take_62 (lv_at hl 4 rfl) ?_
          obtain ⟨⟨o8, o9, o10⟩, h11, h⟩ := bind_s h
          try dsimp only at h
          refine kE (wc := [(mo, .inr (4, [.long zp, .long zr, .long zh, .ref a1, .ref a2, .ref a3, .ref a4, .ref a5, .long o2, .long o3, .int (bI o4), .long zu, .long zv, .int zl])), (a1, .inl (cJ, 16, .inr (.inl zpx))), (a2, .inl (cJ, 16, .inr (.inl zpy))), (a3, .inl (cZ, 16, .inl (fun i => bI (zip i)))), (a4, .inl (cJ, 8, .inr (.inl zvu))), (a5, .inl (cJ, 8, .inr (.inl zvv)))]) (wr := []) [0, 1, 2, 3, 4, 5] [] hP hD hS hA rfl rfl rfl (by decide) rfl (eV (As := [.long l3, .long l5, .int (bI l7)]) (rest := []) C0 (kX4_plus l D cJ cZ mo a1 a2 a3 a4 a5 N zp zr zh o2 o3 o4 zu zv zl zpx zpy zip zvu zvv l3 l5 l7 H.size o8 o9 o10 h11) gX4_take_X4_plus rfl ⟨rfl, rfl⟩ hdX4_plus ⟨Nat.le_of_ble_eq_true rfl, Nat.le_of_ble_eq_true rfl⟩ 4 0 rfl rfl rfl hP hD hE hl rfl rfl (Nat.le_of_ble_eq_true rfl) dX4_take_64 ⟨Nat.zero_le _, Nat.zero_le _⟩) (fun H locs hP hD hS => ?_)
          have hP : va_P D vwCl [(mo, .inr (4, [.long zp, .long zr, .long zh, .ref a1, .ref a2, .ref a3, .ref a4, .ref a5, .long o8, .long o9, .int (bI o10), .long zu, .long zv, .int zl])), (a1, .inl (cJ, 16, .inr (.inl zpx))), (a2, .inl (cJ, 16, .inr (.inl zpy))), (a3, .inl (cZ, 16, .inl (fun i => bI (zip i)))), (a4, .inl (cJ, 8, .inr (.inl zvu))), (a5, .inl (cJ, 8, .inr (.inl zvv)))] H := hP
          have hD : va_D A [(mo, .inr (4, [.long zp, .long zr, .long zh, .ref a1, .ref a2, .ref a3, .ref a4, .ref a5, .long o8, .long o9, .int (bI o10), .long zu, .long zv, .int zl])), (a1, .inl (cJ, 16, .inr (.inl zpx))), (a2, .inl (cJ, 16, .inr (.inl zpy))), (a3, .inl (cZ, 16, .inl (fun i => bI (zip i)))), (a4, .inl (cJ, 8, .inr (.inl zvu))), (a5, .inl (cJ, 8, .inr (.inl zvv)))] := hD
          obtain ⟨w12, ew12, h⟩ := bnd_s h
          refine lv_iinc (v := w12) (lv' := [(8, .int w12), (0, .ref mo), (1, .long l1), (3, .long l3), (5, .long l5), (7, .int (bI l7))]) hx hb dX4_take_67 hl (k := 5) rfl (by rw [ew12]; rfl) (by decide) rfl (fun ls hl => ?_)
          refine lv_goto (tgt := 26) hx hb dX4_take_70 (by decide) ?_
          exact ih w12 o8 o9 o10 h H locs hP hD hS ls (lv_sub hl [1, 2, 3, 4, 5, 0] rfl)
  suffices key : ∀ (H : Heap) (locs : List Loc), va_P D vwCl [(mo, .inr (4, [.long zp, .long zr, .long zh, .ref a1, .ref a2, .ref a3, .ref a4, .ref a5, .long zx, .long zy, .int (bI zi), .long zu, .long zv, .int zl])), (a1, .inl (cJ, 16, .inr (.inl zpx))), (a2, .inl (cJ, 16, .inr (.inl zpy))), (a3, .inl (cZ, 16, .inl (fun i => bI (zip i)))), (a4, .inl (cJ, 8, .inr (.inl zvu))), (a5, .inl (cJ, 8, .inr (.inl zvv)))] H → va_D A [(mo, .inr (4, [.long zp, .long zr, .long zh, .ref a1, .ref a2, .ref a3, .ref a4, .ref a5, .long zx, .long zy, .int (bI zi), .long zu, .long zv, .int zl])), (a1, .inl (cJ, 16, .inr (.inl zpx))), (a2, .inl (cJ, 16, .inr (.inl zpy))), (a3, .inl (cZ, 16, .inl (fun i => bI (zip i)))), (a4, .inl (cJ, 8, .inr (.inl zvu))), (a5, .inl (cJ, 8, .inr (.inl zvv)))] → va_S A s.heap H locs → W pg l e (headSpec wsX4_take rmX4_take).room s m ([.ref mo, .long q0] : List Value).toArray below meth c H locs 0 0 (MQ below (QE D (none) [(mo, .inr (4, [.long zp, .long zr, .long zh, .ref a1, .ref a2, .ref a3, .ref a4, .ref a5, .long ozx, .long ozy, .int (bI ozi), .long zu, .long zv, .int zl])), (a1, .inl (cJ, 16, .inr (.inl zpx))), (a2, .inl (cJ, 16, .inr (.inl zpy))), (a3, .inl (cZ, 16, .inl (fun i => bI (zip i)))), (a4, .inl (cJ, 8, .inr (.inl zvu))), (a5, .inl (cJ, 8, .inr (.inl zvv)))] A) ([.ref mo, .long q0] : List Value).toArray s 0 0 A) (F0 m 0 ls []) from key s.heap [] hP hD hS
  intro H locs hP hD hS
  unfold fX4_take at h
  refine lv_aload_n hx hb dX4_take_0 rfl (lv_at hl 0 rfl) ?_
  refine va_get (D := D) (ci := 4) (v := .long zx) (C := RX4) (T := TX4) (N := 14) hx hb hts iwX4_take_4 hown hE.1 hP 0 rfl rfl 8 (by decide) (hts _ lkX4_take_0) (fun _ h9 => h9) rfl dX4_take_1 ?_
  refine lv_lstore_n (lv' := [(3, .long zx), (0, .ref mo), (1, .long q0)]) hx hb dX4_take_4 rfl hl (by decide) rfl (fun ls hl => ?_)
  refine lv_aload_n hx hb dX4_take_5 rfl (lv_at hl 1 rfl) ?_
  refine va_get (D := D) (ci := 4) (v := .long zy) (C := RX4) (T := TX4) (N := 14) hx hb hts iwX4_take_4 hown hE.1 hP 0 rfl rfl 9 (by decide) (hts _ lkX4_take_1) (fun _ h9 => h9) rfl dX4_take_6 ?_
  refine lv_lstore (lv' := [(5, .long zy), (3, .long zx), (0, .ref mo), (1, .long q0)]) hx hb dX4_take_9 hl (by decide) rfl (fun ls hl => ?_)
  refine lv_aload_n hx hb dX4_take_11 rfl (lv_at hl 2 rfl) ?_
  refine va_get (D := D) (ci := 4) (v := .int (bI zi)) (C := RX4) (T := TX4) (N := 14) hx hb hts iwX4_take_4 hown hE.1 hP 0 rfl rfl 10 (by decide) (hts _ lkX4_take_2) (fun _ h9 => h9) rfl dX4_take_12 ?_
  refine lv_istore (lv' := [(7, .int (bI zi)), (5, .long zy), (3, .long zx), (0, .ref mo), (1, .long q0)]) hx hb dX4_take_15 hl (by decide) rfl (fun ls hl => ?_)
  refine lv_aload_n hx hb dX4_take_17 rfl (lv_at hl 3 rfl) ?_
  refine lv_iconst (v := 0) hx hb dX4_take_18 (by decide) ?_
  refine va_put (D := D) (ci := 4) (v := .int (bI false)) (ty := .boolean) (C := RX4) (T := TX4) (N := 14) hx hb hts iwX4_take_4 tyX4 tyX4_ok nmX4 hown hE.1 hP hD hS 0 rfl rfl 10 (by decide) (hts _ lkX4_take_2) (fun _ h9 => h9) rfl (by decide +kernel) (narv_bI _) (fits_bI _) (Nat.le_of_ble_eq_true rfl) dX4_take_19 (fun H locs hP hD hS => ?_)
  have hP : va_P D vwCl [(mo, .inr (4, [.long zp, .long zr, .long zh, .ref a1, .ref a2, .ref a3, .ref a4, .ref a5, .long zx, .long zy, .int (bI false), .long zu, .long zv, .int zl])), (a1, .inl (cJ, 16, .inr (.inl zpx))), (a2, .inl (cJ, 16, .inr (.inl zpy))), (a3, .inl (cZ, 16, .inl (fun i => bI (zip i)))), (a4, .inl (cJ, 8, .inr (.inl zvu))), (a5, .inl (cJ, 8, .inr (.inl zvv)))] H := hP
  have hD : va_D A [(mo, .inr (4, [.long zp, .long zr, .long zh, .ref a1, .ref a2, .ref a3, .ref a4, .ref a5, .long zx, .long zy, .int (bI false), .long zu, .long zv, .int zl])), (a1, .inl (cJ, 16, .inr (.inl zpx))), (a2, .inl (cJ, 16, .inr (.inl zpy))), (a3, .inl (cZ, 16, .inl (fun i => bI (zip i)))), (a4, .inl (cJ, 8, .inr (.inl zvu))), (a5, .inl (cJ, 8, .inr (.inl zvv)))] := hD
  refine lv_bipush (v := 63) hx hb dX4_take_22 (by decide) ?_
  refine lv_istore (lv' := [(8, .int 63), (7, .int (bI zi)), (5, .long zy), (3, .long zx), (0, .ref mo), (1, .long q0)]) hx hb dX4_take_24 hl (by decide) rfl (fun ls hl => ?_)
  exact loop26 q0 zx zy zi N 63 zx zy false h H locs hP hD hS ls (lv_sub hl [4, 5, 3, 2, 1, 0] rfl)
def fX4_isSlot  (q0 : Int32) : Option (Bool) :=
  (fX4_in q0.toInt64 0 15).bind fun r1 =>
  some r1
abbrev rmX4_isSlot : Room := { frames := 1, cells := 0, slots := 0, locals := 25 }
theorem lkX4_isSlot_0 : (.constantLong RX4 84 (15) : Cond) ∈ wsX4_isSlot := by decide +kernel
theorem hdX4_isSlot : KN yX4_isSlot 1 := by decide +kernel
set_option maxHeartbeats 4000000 in
set_option maxRecDepth 100000 in
theorem kX4_isSlot (l : Launch) (D : va_G) (cJ cZ : ClassId) (q0 : Int32) (rr : Bool) (h : fX4_isSlot q0 = some rr) : Met l yX4_isSlot wsX4_isSlot rmX4_isSlot (PP D cJ cZ [.int q0] []) (SI (bI rr)) 0 0 (fun _ => False) := by
  refine Met.ofW (cc := cX4_isSlot) (maxL := 1) (ret := some .boolean) (by decide) rfl ?_
  intro pg e s m args below meth c s₁ B hml hv
  obtain ⟨rfl, hP, hE⟩ := hv
  have hx := B.exec
  have hb := B.bytes
  have hr := B.returns
  have hlocks := B.notSynchronized
  have C0 : CallFix pg m c cX4_isSlot 1 s ([.int q0] : List Value).toArray wsX4_isSlot RX4 := ⟨hx, hb, hml, findClass_of_methodNamed B.named, atoms_spec (ws := wsX4_isSlot) B.pre⟩
  have hown := C0.2.2.2.1
  have hts := C0.2.2.2.2
  have hl := lv_entry ([.int q0]) (n := 1) (Nat.le_of_ble_eq_true rfl)
  rw [lg_entry_eq]
  generalize (lg_sl ([.int q0]) ++ List.replicate (1 - (lg_sl ([.int q0])).length) Slot.unset).toArray = ls at hl ⊢
  have hl : lv_has ls 1 [(0, .int q0)] := hl
  unfold fX4_isSlot at h
  refine lv_iload_n hx hb dX4_isSlot_0 rfl (lv_at hl 0 rfl) ?_
  refine lv_i2l (v := q0.toInt64) hx hb dX4_isSlot_1 rfl ?_
  refine lv_lconst (v := 0) hx hb dX4_isSlot_2 (by decide) ?_
  refine lv_ldc2 (v := 15) hx hb hown (hts _ lkX4_isSlot_0) dX4_isSlot_3 ?_
  obtain ⟨r1, h2, h⟩ := bind_s h
  refine ki (kS (As := [.long q0.toInt64, .long 0, .long 15]) (rest := []) C0 (kX4_in l D cJ cZ q0.toInt64 0 15 r1 h2) gX4_isSlot_X4_in rfl ⟨rfl, rfl⟩ hdX4_in ⟨Nat.le_of_ble_eq_true rfl, Nat.le_of_ble_eq_true rfl⟩ hP hE hl rfl rfl (Nat.le_of_ble_eq_true rfl) dX4_isSlot_6 (Nat.zero_le _) (Nat.zero_le _)) ?_
  exact reZ (v := r1) hx hb hr hlocks h dX4_isSlot_9
def fX4_isValue  (q0 : Int32) : Option (Bool) :=
  (fX4_in q0.toInt64 0 7).bind fun r1 =>
  some r1
abbrev rmX4_isValue : Room := { frames := 1, cells := 0, slots := 0, locals := 25 }
theorem lkX4_isValue_0 : (.constantLong RX4 137 (7) : Cond) ∈ wsX4_isValue := by decide +kernel
theorem hdX4_isValue : KN yX4_isValue 1 := by decide +kernel
set_option maxHeartbeats 4000000 in
set_option maxRecDepth 100000 in
theorem kX4_isValue (l : Launch) (D : va_G) (cJ cZ : ClassId) (q0 : Int32) (rr : Bool) (h : fX4_isValue q0 = some rr) : Met l yX4_isValue wsX4_isValue rmX4_isValue (PP D cJ cZ [.int q0] []) (SI (bI rr)) 0 0 (fun _ => False) := by
  refine Met.ofW (cc := cX4_isValue) (maxL := 1) (ret := some .boolean) (by decide) rfl ?_
  intro pg e s m args below meth c s₁ B hml hv
  obtain ⟨rfl, hP, hE⟩ := hv
  have hx := B.exec
  have hb := B.bytes
  have hr := B.returns
  have hlocks := B.notSynchronized
  have C0 : CallFix pg m c cX4_isValue 1 s ([.int q0] : List Value).toArray wsX4_isValue RX4 := ⟨hx, hb, hml, findClass_of_methodNamed B.named, atoms_spec (ws := wsX4_isValue) B.pre⟩
  have hown := C0.2.2.2.1
  have hts := C0.2.2.2.2
  have hl := lv_entry ([.int q0]) (n := 1) (Nat.le_of_ble_eq_true rfl)
  rw [lg_entry_eq]
  generalize (lg_sl ([.int q0]) ++ List.replicate (1 - (lg_sl ([.int q0])).length) Slot.unset).toArray = ls at hl ⊢
  have hl : lv_has ls 1 [(0, .int q0)] := hl
  unfold fX4_isValue at h
  refine lv_iload_n hx hb dX4_isValue_0 rfl (lv_at hl 0 rfl) ?_
  refine lv_i2l (v := q0.toInt64) hx hb dX4_isValue_1 rfl ?_
  refine lv_lconst (v := 0) hx hb dX4_isValue_2 (by decide) ?_
  refine lv_ldc2 (v := 7) hx hb hown (hts _ lkX4_isValue_0) dX4_isValue_3 ?_
  obtain ⟨r1, h2, h⟩ := bind_s h
  refine ki (kS (As := [.long q0.toInt64, .long 0, .long 7]) (rest := []) C0 (kX4_in l D cJ cZ q0.toInt64 0 7 r1 h2) gX4_isValue_X4_in rfl ⟨rfl, rfl⟩ hdX4_in ⟨Nat.le_of_ble_eq_true rfl, Nat.le_of_ble_eq_true rfl⟩ hP hE hl rfl rfl (Nat.le_of_ble_eq_true rfl) dX4_isValue_6 (Nat.zero_le _) (Nat.zero_le _)) ?_
  exact reZ (v := r1) hx hb hr hlocks h dX4_isValue_9
