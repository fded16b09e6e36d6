def fX3_told_null  (q0 : Int32) : Option (Int32) :=
  if q0 < 0 then
    some (-2)
  else
    if q0 ≤ 2 then
      some (-3)
    else
      some (-2)
abbrev rmX3_told_null : Room := { frames := 0, cells := 0, slots := 0, locals := 0 }
theorem lkX3_told_null_0 : (.fieldLink RX3 33 "PairingDesk" "curve" "LPairingDesk$Curve;" : Cond) ∈ wsX3_told := by decide +kernel
theorem iwX3_told_null_3 : ∀ w ∈ wsX30, w ∈ wsX3_told := by decide +kernel
set_option maxHeartbeats 4000000 in
set_option maxRecDepth 100000 in
theorem kX3_told_null (l : Launch) (D : va_G) (cJ cZ : ClassId) (dk so vo : Nat) (zS : Nat → Int64) (zV : Nat → Int64) (q0 : Int32) (rr : Int32) (h : fX3_told_null q0 = some rr) : Met l yX3_told wsX3_told rmX3_told_null (PP D cJ cZ [.ref dk, .int q0] [(dk, .inr (3, [.ref so, .ref vo, .null, .null])), (so, .inl (cJ, 16, .inr (.inl zS))), (vo, .inl (cJ, 8, .inr (.inl zV)))]) (SI rr) 0 0 (fun _ => False) := by
  refine Met.ofW (cc := cX3_told) (maxL := 2) (ret := some .int) (by decide) rfl ?_
  intro pg e s m args below meth c s₁ B hml hv
  obtain ⟨rfl, hP, hE⟩ := hv
  have hx := B.exec
  have hb := B.bytes
  have hr := B.returns
  have hlocks := B.notSynchronized
  have C0 : CallFix pg m c cX3_told 2 s ([.ref dk, .int q0] : List Value).toArray wsX3_told RX3 := ⟨hx, hb, hml, findClass_of_methodNamed B.named, atoms_spec (ws := wsX3_told) B.pre⟩
  have hown := C0.2.2.2.1
  have hts := C0.2.2.2.2
  have hl := lv_entry ([.ref dk, .int q0]) (n := 2) (Nat.le_of_ble_eq_true rfl)
  rw [lg_entry_eq]
  generalize (lg_sl ([.ref dk, .int q0]) ++ List.replicate (2 - (lg_sl ([.ref dk, .int q0])).length) Slot.unset).toArray = ls at hl ⊢
  have hl : lv_has ls 2 [(0, .ref dk), (1, .int q0)] := hl
  unfold fX3_told_null at h
  refine lv_iload_n hx hb dX3_told_0 rfl (lv_at hl 1 rfl) ?_
  refine lv_if_lt (tgt := 9) hx hb dX3_told_1 (by decide) (fun c1 => ?_) (fun c1 => ?_)
  · have h := ite_t c1 h
    refine lv_bipush (v := (-2)) hx hb dX3_told_9 (by decide) ?_
    exact reI hx hb hr hlocks h dX3_told_11
  · have h := ite_f c1 h
    refine lv_iload_n hx hb dX3_told_4 rfl (lv_at hl 1 rfl) ?_
    refine lv_iconst (v := 2) hx hb dX3_told_5 (by decide) ?_
    refine lv_icmp_le (tgt := 12) hx hb dX3_told_6 (by decide) (fun c2 => ?_) (fun c2 => ?_)
    · have h := ite_t c2 h
      refine lv_aload_n hx hb dX3_told_12 rfl (lv_at hl 0 rfl) ?_
      refine va_get (D := D) (ci := 3) (v := .null) (C := RX3) (T := TX3) (N := 4) hx hb hts iwX3_told_null_3 hown hE.1 hP 0 rfl rfl 2 (by decide) (hts _ lkX3_told_null_0) (fun _ h9 => h9) rfl dX3_told_13 ?_
      refine lv_ifnonnullN hx hb dX3_told_16 ?_
      refine lv_bipush (v := (-3)) hx hb dX3_told_19 (by decide) ?_
      exact reI hx hb hr hlocks h dX3_told_21
    · have h := ite_f c2 h
      refine lv_bipush (v := (-2)) hx hb dX3_told_9 (by decide) ?_
      exact reI hx hb hr hlocks h dX3_told_11
def fX3_root_null  (q0 : Int32) : Option (Int32) :=
  some (-3)
abbrev rmX3_root_null : Room := { frames := 2, cells := 0, slots := 0, locals := 52 }
theorem lkX3_root_null_0 : (.fieldLink RX3 33 "PairingDesk" "curve" "LPairingDesk$Curve;" : Cond) ∈ wsX3_root := by decide +kernel
theorem iwX3_root_null_3 : ∀ w ∈ wsX30, w ∈ wsX3_root := by decide +kernel
set_option maxHeartbeats 4000000 in
set_option maxRecDepth 100000 in
theorem kX3_root_null (l : Launch) (D : va_G) (cJ cZ : ClassId) (dk so vo : Nat) (zS : Nat → Int64) (zV : Nat → Int64) (q0 : Int32) (rr : Int32) (h : fX3_root_null q0 = some rr) : Met l yX3_root wsX3_root rmX3_root_null (PP D cJ cZ [.ref dk, .int q0] [(dk, .inr (3, [.ref so, .ref vo, .null, .null])), (so, .inl (cJ, 16, .inr (.inl zS))), (vo, .inl (cJ, 8, .inr (.inl zV)))]) (SI rr) 0 0 (fun _ => False) := by
  refine Met.ofW (cc := cX3_root) (maxL := 2) (ret := some .int) (by decide) rfl ?_
  intro pg e s m args below meth c s₁ B hml hv
  obtain ⟨rfl, hP, hE⟩ := hv
  have hx := B.exec
  have hb := B.bytes
  have hr := B.returns
  have hlocks := B.notSynchronized
  have C0 : CallFix pg m c cX3_root 2 s ([.ref dk, .int q0] : List Value).toArray wsX3_root RX3 := ⟨hx, hb, hml, findClass_of_methodNamed B.named, atoms_spec (ws := wsX3_root) B.pre⟩
  have hown := C0.2.2.2.1
  have hts := C0.2.2.2.2
  have hl := lv_entry ([.ref dk, .int q0]) (n := 2) (Nat.le_of_ble_eq_true rfl)
  rw [lg_entry_eq]
  generalize (lg_sl ([.ref dk, .int q0]) ++ List.replicate (2 - (lg_sl ([.ref dk, .int q0])).length) Slot.unset).toArray = ls at hl ⊢
  have hl : lv_has ls 2 [(0, .ref dk), (1, .int q0)] := hl
  unfold fX3_root_null at h
  refine lv_aload_n hx hb dX3_root_0 rfl (lv_at hl 0 rfl) ?_
  refine va_get (D := D) (ci := 3) (v := .null) (C := RX3) (T := TX3) (N := 4) hx hb hts iwX3_root_null_3 hown hE.1 hP 0 rfl rfl 2 (by decide) (hts _ lkX3_root_null_0) (fun _ h9 => h9) rfl dX3_root_1 ?_
  refine lv_ifnonnullN hx hb dX3_root_4 ?_
  refine lv_bipush (v := (-3)) hx hb dX3_root_7 (by decide) ?_
  exact reI hx hb hr hlocks h dX3_root_9
def fX3_point_null  (q0 : Int32) (q1 : Int32) (q2 : Int32) : Option (Int32) :=
  some (-3)
abbrev rmX3_point_null : Room := { frames := 3, cells := 0, slots := 0, locals := 70 }
theorem lkX3_point_null_0 : (.fieldLink RX3 33 "PairingDesk" "curve" "LPairingDesk$Curve;" : Cond) ∈ wsX3_point := by decide +kernel
theorem iwX3_point_null_3 : ∀ w ∈ wsX30, w ∈ wsX3_point := by decide +kernel
set_option maxHeartbeats 4000000 in
set_option maxRecDepth 100000 in
theorem kX3_point_null (l : Launch) (D : va_G) (cJ cZ : ClassId) (dk so vo : Nat) (zS : Nat → Int64) (zV : Nat → Int64) (q0 : Int32) (q1 : Int32) (q2 : Int32) (rr : Int32) (h : fX3_point_null q0 q1 q2 = some rr) : Met l yX3_point wsX3_point rmX3_point_null (PP D cJ cZ [.ref dk, .int q0, .int q1, .int q2] [(dk, .inr (3, [.ref so, .ref vo, .null, .null])), (so, .inl (cJ, 16, .inr (.inl zS))), (vo, .inl (cJ, 8, .inr (.inl zV)))]) (SI rr) 0 0 (fun _ => False) := by
  refine Met.ofW (cc := cX3_point) (maxL := 4) (ret := some .int) (by decide) rfl ?_
  intro pg e s m args below meth c s₁ B hml hv
  obtain ⟨rfl, hP, hE⟩ := hv
  have hx := B.exec
  have hb := B.bytes
  have hr := B.returns
  have hlocks := B.notSynchronized
  have C0 : CallFix pg m c cX3_point 4 s ([.ref dk, .int q0, .int q1, .int q2] : List Value).toArray wsX3_point RX3 := ⟨hx, hb, hml, findClass_of_methodNamed B.named, atoms_spec (ws := wsX3_point) B.pre⟩
  have hown := C0.2.2.2.1
  have hts := C0.2.2.2.2
  have hl := lv_entry ([.ref dk, .int q0, .int q1, .int q2]) (n := 4) (Nat.le_of_ble_eq_true rfl)
  rw [lg_entry_eq]
  generalize (lg_sl ([.ref dk, .int q0, .int q1, .int q2]) ++ List.replicate (4 - (lg_sl ([.ref dk, .int q0, .int q1, .int q2])).length) Slot.unset).toArray = ls at hl ⊢
  have hl : lv_has ls 4 [(0, .ref dk), (1, .int q0), (2, .int q1), (3, .int q2)] := hl
  unfold fX3_point_null at h
  refine lv_aload_n hx hb dX3_point_0 rfl (lv_at hl 0 rfl) ?_
  refine va_get (D := D) (ci := 3) (v := .null) (C := RX3) (T := TX3) (N := 4) hx hb hts iwX3_point_null_3 hown hE.1 hP 0 rfl rfl 2 (by decide) (hts _ lkX3_point_null_0) (fun _ h9 => h9) rfl dX3_point_1 ?_
  refine lv_ifnonnullN hx hb dX3_point_4 ?_
  refine lv_bipush (v := (-3)) hx hb dX3_point_7 (by decide) ?_
  exact reI hx hb hr hlocks h dX3_point_9
def fX3_nowhere_null  (q0 : Int32) : Option (Int32) :=
  some (-3)
abbrev rmX3_nowhere_null : Room := { frames := 1, cells := 0, slots := 0, locals := 20 }
theorem lkX3_nowhere_null_0 : (.fieldLink RX3 33 "PairingDesk" "curve" "LPairingDesk$Curve;" : Cond) ∈ wsX3_nowhere := by decide +kernel
theorem iwX3_nowhere_null_3 : ∀ w ∈ wsX30, w ∈ wsX3_nowhere := by decide +kernel
set_option maxHeartbeats 4000000 in
set_option maxRecDepth 100000 in
theorem kX3_nowhere_null (l : Launch) (D : va_G) (cJ cZ : ClassId) (dk so vo : Nat) (zS : Nat → Int64) (zV : Nat → Int64) (q0 : Int32) (rr : Int32) (h : fX3_nowhere_null q0 = some rr) : Met l yX3_nowhere wsX3_nowhere rmX3_nowhere_null (PP D cJ cZ [.ref dk, .int q0] [(dk, .inr (3, [.ref so, .ref vo, .null, .null])), (so, .inl (cJ, 16, .inr (.inl zS))), (vo, .inl (cJ, 8, .inr (.inl zV)))]) (SI rr) 0 0 (fun _ => False) := by
  refine Met.ofW (cc := cX3_nowhere) (maxL := 2) (ret := some .int) (by decide) rfl ?_
  intro pg e s m args below meth c s₁ B hml hv
  obtain ⟨rfl, hP, hE⟩ := hv
  have hx := B.exec
  have hb := B.bytes
  have hr := B.returns
  have hlocks := B.notSynchronized
  have C0 : CallFix pg m c cX3_nowhere 2 s ([.ref dk, .int q0] : List Value).toArray wsX3_nowhere RX3 := ⟨hx, hb, hml, findClass_of_methodNamed B.named, atoms_spec (ws := wsX3_nowhere) B.pre⟩
  have hown := C0.2.2.2.1
  have hts := C0.2.2.2.2
  have hl := lv_entry ([.ref dk, .int q0]) (n := 2) (Nat.le_of_ble_eq_true rfl)
  rw [lg_entry_eq]
  generalize (lg_sl ([.ref dk, .int q0]) ++ List.replicate (2 - (lg_sl ([.ref dk, .int q0])).length) Slot.unset).toArray = ls at hl ⊢
  have hl : lv_has ls 2 [(0, .ref dk), (1, .int q0)] := hl
  unfold fX3_nowhere_null at h
  refine lv_aload_n hx hb dX3_nowhere_0 rfl (lv_at hl 0 rfl) ?_
  refine va_get (D := D) (ci := 3) (v := .null) (C := RX3) (T := TX3) (N := 4) hx hb hts iwX3_nowhere_null_3 hown hE.1 hP 0 rfl rfl 2 (by decide) (hts _ lkX3_nowhere_null_0) (fun _ h9 => h9) rfl dX3_nowhere_1 ?_
  refine lv_ifnonnullN hx hb dX3_nowhere_4 ?_
  refine lv_bipush (v := (-3)) hx hb dX3_nowhere_7 (by decide) ?_
  exact reI hx hb hr hlocks h dX3_nowhere_9
def fX3_turn_null  (q0 : Int32) (q1 : Int64) : Option (Int32) :=
  some (-3)
abbrev rmX3_turn_null : Room := { frames := 5, cells := 0, slots := 0, locals := 156 }
theorem lkX3_turn_null_0 : (.fieldLink RX3 33 "PairingDesk" "curve" "LPairingDesk$Curve;" : Cond) ∈ wsX3_turn := by decide +kernel
theorem iwX3_turn_null_3 : ∀ w ∈ wsX30, w ∈ wsX3_turn := by decide +kernel
set_option maxHeartbeats 4000000 in
set_option maxRecDepth 100000 in
theorem kX3_turn_null (l : Launch) (D : va_G) (cJ cZ : ClassId) (dk so vo : Nat) (zS : Nat → Int64) (zV : Nat → Int64) (q0 : Int32) (q1 : Int64) (rr : Int32) (h : fX3_turn_null q0 q1 = some rr) : Met l yX3_turn wsX3_turn rmX3_turn_null (PP D cJ cZ [.ref dk, .int q0, .long q1] [(dk, .inr (3, [.ref so, .ref vo, .null, .null])), (so, .inl (cJ, 16, .inr (.inl zS))), (vo, .inl (cJ, 8, .inr (.inl zV)))]) (SI rr) 0 0 (fun _ => False) := by
  refine Met.ofW (cc := cX3_turn) (maxL := 4) (ret := some .int) (by decide) rfl ?_
  intro pg e s m args below meth c s₁ B hml hv
  obtain ⟨rfl, hP, hE⟩ := hv
  have hx := B.exec
  have hb := B.bytes
  have hr := B.returns
  have hlocks := B.notSynchronized
  have C0 : CallFix pg m c cX3_turn 4 s ([.ref dk, .int q0, .long q1] : List Value).toArray wsX3_turn RX3 := ⟨hx, hb, hml, findClass_of_methodNamed B.named, atoms_spec (ws := wsX3_turn) B.pre⟩
  have hown := C0.2.2.2.1
  have hts := C0.2.2.2.2
  have hl := lv_entry ([.ref dk, .int q0, .long q1]) (n := 4) (Nat.le_of_ble_eq_true rfl)
  rw [lg_entry_eq]
  generalize (lg_sl ([.ref dk, .int q0, .long q1]) ++ List.replicate (4 - (lg_sl ([.ref dk, .int q0, .long q1])).length) Slot.unset).toArray = ls at hl ⊢
  have hl : lv_has ls 4 [(0, .ref dk), (1, .int q0), (2, .long q1)] := hl
  unfold fX3_turn_null at h
  refine lv_aload_n hx hb dX3_turn_0 rfl (lv_at hl 0 rfl) ?_
  refine va_get (D := D) (ci := 3) (v := .null) (C := RX3) (T := TX3) (N := 4) hx hb hts iwX3_turn_null_3 hown hE.1 hP 0 rfl rfl 2 (by decide) (hts _ lkX3_turn_null_0) (fun _ h9 => h9) rfl dX3_turn_1 ?_
  refine lv_ifnonnullN hx hb dX3_turn_4 ?_
  refine lv_bipush (v := (-3)) hx hb dX3_turn_7 (by decide) ?_
  exact reI hx hb hr hlocks h dX3_turn_9
def fX3_add_null  (q0 : Int32) (q1 : Int32) (q2 : Int32) : Option (Int32) :=
  some (-3)
abbrev rmX3_add_null : Room := { frames := 3, cells := 0, slots := 0, locals := 97 }
theorem lkX3_add_null_0 : (.fieldLink RX3 33 "PairingDesk" "curve" "LPairingDesk$Curve;" : Cond) ∈ wsX3_add := by decide +kernel
theorem iwX3_add_null_3 : ∀ w ∈ wsX30, w ∈ wsX3_add := by decide +kernel
set_option maxHeartbeats 4000000 in
set_option maxRecDepth 100000 in
theorem kX3_add_null (l : Launch) (D : va_G) (cJ cZ : ClassId) (dk so vo : Nat) (zS : Nat → Int64) (zV : Nat → Int64) (q0 : Int32) (q1 : Int32) (q2 : Int32) (rr : Int32) (h : fX3_add_null q0 q1 q2 = some rr) : Met l yX3_add wsX3_add rmX3_add_null (PP D cJ cZ [.ref dk, .int q0, .int q1, .int q2] [(dk, .inr (3, [.ref so, .ref vo, .null, .null])), (so, .inl (cJ, 16, .inr (.inl zS))), (vo, .inl (cJ, 8, .inr (.inl zV)))]) (SI rr) 0 0 (fun _ => False) := by
  refine Met.ofW (cc := cX3_add) (maxL := 4) (ret := some .int) (by decide) rfl ?_
  intro pg e s m args below meth c s₁ B hml hv
  obtain ⟨rfl, hP, hE⟩ := hv
  have hx := B.exec
  have hb := B.bytes
  have hr := B.returns
  have hlocks := B.notSynchronized
  have C0 : CallFix pg m c cX3_add 4 s ([.ref dk, .int q0, .int q1, .int q2] : List Value).toArray wsX3_add RX3 := ⟨hx, hb, hml, findClass_of_methodNamed B.named, atoms_spec (ws := wsX3_add) B.pre⟩
  have hown := C0.2.2.2.1
  have hts := C0.2.2.2.2
  have hl := lv_entry ([.ref dk, .int q0, .int q1, .int q2]) (n := 4) (Nat.le_of_ble_eq_true rfl)
  rw [lg_entry_eq]
  generalize (lg_sl ([.ref dk, .int q0, .int q1, .int q2]) ++ List.replicate (4 - (lg_sl ([.ref dk, .int q0, .int q1, .int q2])).length) Slot.unset).toArray = ls at hl ⊢
  have hl : lv_has ls 4 [(0, .ref dk), (1, .int q0), (2, .int q1), (3, .int q2)] := hl
  unfold fX3_add_null at h
  refine lv_aload_n hx hb dX3_add_0 rfl (lv_at hl 0 rfl) ?_
  refine va_get (D := D) (ci := 3) (v := .null) (C := RX3) (T := TX3) (N := 4) hx hb hts iwX3_add_null_3 hown hE.1 hP 0 rfl rfl 2 (by decide) (hts _ lkX3_add_null_0) (fun _ h9 => h9) rfl dX3_add_1 ?_
  refine lv_ifnonnullN hx hb dX3_add_4 ?_
  refine lv_bipush (v := (-3)) hx hb dX3_add_7 (by decide) ?_
  exact reI hx hb hr hlocks h dX3_add_9
def fX3_times_null  (q0 : Int32) (q1 : Int32) (q2 : Int64) : Option (Int32) :=
  some (-3)
abbrev rmX3_times_null : Room := { frames := 4, cells := 0, slots := 0, locals := 127 }
theorem lkX3_times_null_0 : (.fieldLink RX3 33 "PairingDesk" "curve" "LPairingDesk$Curve;" : Cond) ∈ wsX3_times := by decide +kernel
theorem iwX3_times_null_3 : ∀ w ∈ wsX30, w ∈ wsX3_times := by decide +kernel
set_option maxHeartbeats 4000000 in
set_option maxRecDepth 100000 in
theorem kX3_times_null (l : Launch) (D : va_G) (cJ cZ : ClassId) (dk so vo : Nat) (zS : Nat → Int64) (zV : Nat → Int64) (q0 : Int32) (q1 : Int32) (q2 : Int64) (rr : Int32) (h : fX3_times_null q0 q1 q2 = some rr) : Met l yX3_times wsX3_times rmX3_times_null (PP D cJ cZ [.ref dk, .int q0, .int q1, .long q2] [(dk, .inr (3, [.ref so, .ref vo, .null, .null])), (so, .inl (cJ, 16, .inr (.inl zS))), (vo, .inl (cJ, 8, .inr (.inl zV)))]) (SI rr) 0 0 (fun _ => False) := by
  refine Met.ofW (cc := cX3_times) (maxL := 5) (ret := some .int) (by decide) rfl ?_
  intro pg e s m args below meth c s₁ B hml hv
  obtain ⟨rfl, hP, hE⟩ := hv
  have hx := B.exec
  have hb := B.bytes
  have hr := B.returns
  have hlocks := B.notSynchronized
  have C0 : CallFix pg m c cX3_times 5 s ([.ref dk, .int q0, .int q1, .long q2] : List Value).toArray wsX3_times RX3 := ⟨hx, hb, hml, findClass_of_methodNamed B.named, atoms_spec (ws := wsX3_times) B.pre⟩
  have hown := C0.2.2.2.1
  have hts := C0.2.2.2.2
  have hl := lv_entry ([.ref dk, .int q0, .int q1, .long q2]) (n := 5) (Nat.le_of_ble_eq_true rfl)
  rw [lg_entry_eq]
  generalize (lg_sl ([.ref dk, .int q0, .int q1, .long q2]) ++ List.replicate (5 - (lg_sl ([.ref dk, .int q0, .int q1, .long q2])).length) Slot.unset).toArray = ls at hl ⊢
  have hl : lv_has ls 5 [(0, .ref dk), (1, .int q0), (2, .int q1), (3, .long q2)] := hl
  unfold fX3_times_null at h
  refine lv_aload_n hx hb dX3_times_0 rfl (lv_at hl 0 rfl) ?_
  refine va_get (D := D) (ci := 3) (v := .null) (C := RX3) (T := TX3) (N := 4) hx hb hts iwX3_times_null_3 hown hE.1 hP 0 rfl rfl 2 (by decide) (hts _ lkX3_times_null_0) (fun _ h9 => h9) rfl dX3_times_1 ?_
  refine lv_ifnonnullN hx hb dX3_times_4 ?_
  refine lv_bipush (v := (-3)) hx hb dX3_times_7 (by decide) ?_
  exact reI hx hb hr hlocks h dX3_times_9
def fX3_at_null  (q0 : Int32) (q1 : Int32) : Option (Int32) :=
  some (-3)
abbrev rmX3_at_null : Room := { frames := 2, cells := 0, slots := 0, locals := 43 }
theorem lkX3_at_null_0 : (.fieldLink RX3 33 "PairingDesk" "curve" "LPairingDesk$Curve;" : Cond) ∈ wsX3_at := by decide +kernel
theorem iwX3_at_null_3 : ∀ w ∈ wsX30, w ∈ wsX3_at := by decide +kernel
set_option maxHeartbeats 4000000 in
set_option maxRecDepth 100000 in
theorem kX3_at_null (l : Launch) (D : va_G) (cJ cZ : ClassId) (dk so vo : Nat) (zS : Nat → Int64) (zV : Nat → Int64) (q0 : Int32) (q1 : Int32) (rr : Int32) (h : fX3_at_null q0 q1 = some rr) : Met l yX3_at wsX3_at rmX3_at_null (PP D cJ cZ [.ref dk, .int q0, .int q1] [(dk, .inr (3, [.ref so, .ref vo, .null, .null])), (so, .inl (cJ, 16, .inr (.inl zS))), (vo, .inl (cJ, 8, .inr (.inl zV)))]) (SI rr) 0 0 (fun _ => False) := by
  refine Met.ofW (cc := cX3_at) (maxL := 3) (ret := some .int) (by decide) rfl ?_
  intro pg e s m args below meth c s₁ B hml hv
  obtain ⟨rfl, hP, hE⟩ := hv
  have hx := B.exec
  have hb := B.bytes
  have hr := B.returns
  have hlocks := B.notSynchronized
  have C0 : CallFix pg m c cX3_at 3 s ([.ref dk, .int q0, .int q1] : List Value).toArray wsX3_at RX3 := ⟨hx, hb, hml, findClass_of_methodNamed B.named, atoms_spec (ws := wsX3_at) B.pre⟩
  have hown := C0.2.2.2.1
  have hts := C0.2.2.2.2
  have hl := lv_entry ([.ref dk, .int q0, .int q1]) (n := 3) (Nat.le_of_ble_eq_true rfl)
  rw [lg_entry_eq]
  generalize (lg_sl ([.ref dk, .int q0, .int q1]) ++ List.replicate (3 - (lg_sl ([.ref dk, .int q0, .int q1])).length) Slot.unset).toArray = ls at hl ⊢
  have hl : lv_has ls 3 [(0, .ref dk), (1, .int q0), (2, .int q1)] := hl
  unfold fX3_at_null at h
  refine lv_aload_n hx hb dX3_at_0 rfl (lv_at hl 0 rfl) ?_
  refine va_get (D := D) (ci := 3) (v := .null) (C := RX3) (T := TX3) (N := 4) hx hb hts iwX3_at_null_3 hown hE.1 hP 0 rfl rfl 2 (by decide) (hts _ lkX3_at_null_0) (fun _ h9 => h9) rfl dX3_at_1 ?_
  refine lv_ifnonnullN hx hb dX3_at_4 ?_
  refine lv_bipush (v := (-3)) hx hb dX3_at_7 (by decide) ?_
  exact reI hx hb hr hlocks h dX3_at_9
def fX3_order_null  (q0 : Int32) : Option (Int32) :=
  some (-3)
abbrev rmX3_order_null : Room := { frames := 6, cells := 0, slots := 0, locals := 182 }
theorem lkX3_order_null_0 : (.fieldLink RX3 33 "PairingDesk" "curve" "LPairingDesk$Curve;" : Cond) ∈ wsX3_order := by decide +kernel
theorem iwX3_order_null_3 : ∀ w ∈ wsX30, w ∈ wsX3_order := by decide +kernel
set_option maxHeartbeats 4000000 in
set_option maxRecDepth 100000 in
theorem kX3_order_null (l : Launch) (D : va_G) (cJ cZ : ClassId) (dk so vo : Nat) (zS : Nat → Int64) (zV : Nat → Int64) (q0 : Int32) (rr : Int32) (h : fX3_order_null q0 = some rr) : Met l yX3_order wsX3_order rmX3_order_null (PP D cJ cZ [.ref dk, .int q0] [(dk, .inr (3, [.ref so, .ref vo, .null, .null])), (so, .inl (cJ, 16, .inr (.inl zS))), (vo, .inl (cJ, 8, .inr (.inl zV)))]) (SI rr) 0 0 (fun _ => False) := by
  refine Met.ofW (cc := cX3_order) (maxL := 2) (ret := some .int) (by decide) rfl ?_
  intro pg e s m args below meth c s₁ B hml hv
  obtain ⟨rfl, hP, hE⟩ := hv
  have hx := B.exec
  have hb := B.bytes
  have hr := B.returns
  have hlocks := B.notSynchronized
  have C0 : CallFix pg m c cX3_order 2 s ([.ref dk, .int q0] : List Value).toArray wsX3_order RX3 := ⟨hx, hb, hml, findClass_of_methodNamed B.named, atoms_spec (ws := wsX3_order) B.pre⟩
  have hown := C0.2.2.2.1
  have hts := C0.2.2.2.2
  have hl := lv_entry ([.ref dk, .int q0]) (n := 2) (Nat.le_of_ble_eq_true rfl)
  rw [lg_entry_eq]
  generalize (lg_sl ([.ref dk, .int q0]) ++ List.replicate (2 - (lg_sl ([.ref dk, .int q0])).length) Slot.unset).toArray = ls at hl ⊢
  have hl : lv_has ls 2 [(0, .ref dk), (1, .int q0)] := hl
  unfold fX3_order_null at h
  refine lv_aload_n hx hb dX3_order_0 rfl (lv_at hl 0 rfl) ?_
  refine va_get (D := D) (ci := 3) (v := .null) (C := RX3) (T := TX3) (N := 4) hx hb hts iwX3_order_null_3 hown hE.1 hP 0 rfl rfl 2 (by decide) (hts _ lkX3_order_null_0) (fun _ h9 => h9) rfl dX3_order_1 ?_
  refine lv_ifnonnullN hx hb dX3_order_4 ?_
  refine lv_bipush (v := (-3)) hx hb dX3_order_7 (by decide) ?_
  exact reI hx hb hr hlocks h dX3_order_9
def fX3_write_null  (q0 : Int32) : Option (Int64) :=
  some (-3)
abbrev rmX3_write_null : Room := { frames := 2, cells := 0, slots := 0, locals := 42 }
theorem lkX3_write_null_0 : (.fieldLink RX3 33 "PairingDesk" "curve" "LPairingDesk$Curve;" : Cond) ∈ wsX3_write := by decide +kernel
theorem lkX3_write_null_1 : (.constantLong RX3 104 (-3) : Cond) ∈ wsX3_write := by decide +kernel
theorem iwX3_write_null_3 : ∀ w ∈ wsX30, w ∈ wsX3_write := by decide +kernel
set_option maxHeartbeats 4000000 in
set_option maxRecDepth 100000 in
theorem kX3_write_null (l : Launch) (D : va_G) (cJ cZ : ClassId) (dk so vo : Nat) (zS : Nat → Int64) (zV : Nat → Int64) (q0 : Int32) (rr : Int64) (h : fX3_write_null q0 = some rr) : Met l yX3_write wsX3_write rmX3_write_null (PP D cJ cZ [.ref dk, .int q0] [(dk, .inr (3, [.ref so, .ref vo, .null, .null])), (so, .inl (cJ, 16, .inr (.inl zS))), (vo, .inl (cJ, 8, .inr (.inl zV)))]) (SL rr) 0 0 (fun _ => False) := by
  refine Met.ofW (cc := cX3_write) (maxL := 2) (ret := some .long) (by decide) rfl ?_
  intro pg e s m args below meth c s₁ B hml hv
  obtain ⟨rfl, hP, hE⟩ := hv
  have hx := B.exec
  have hb := B.bytes
  have hr := B.returns
  have hlocks := B.notSynchronized
  have C0 : CallFix pg m c cX3_write 2 s ([.ref dk, .int q0] : List Value).toArray wsX3_write RX3 := ⟨hx, hb, hml, findClass_of_methodNamed B.named, atoms_spec (ws := wsX3_write) B.pre⟩
  have hown := C0.2.2.2.1
  have hts := C0.2.2.2.2
  have hl := lv_entry ([.ref dk, .int q0]) (n := 2) (Nat.le_of_ble_eq_true rfl)
  rw [lg_entry_eq]
  generalize (lg_sl ([.ref dk, .int q0]) ++ List.replicate (2 - (lg_sl ([.ref dk, .int q0])).length) Slot.unset).toArray = ls at hl ⊢
  have hl : lv_has ls 2 [(0, .ref dk), (1, .int q0)] := hl
  unfold fX3_write_null at h
  refine lv_aload_n hx hb dX3_write_0 rfl (lv_at hl 0 rfl) ?_
  refine va_get (D := D) (ci := 3) (v := .null) (C := RX3) (T := TX3) (N := 4) hx hb hts iwX3_write_null_3 hown hE.1 hP 0 rfl rfl 2 (by decide) (hts _ lkX3_write_null_0) (fun _ h9 => h9) rfl dX3_write_1 ?_
  refine lv_ifnonnullN hx hb dX3_write_4 ?_
  refine lv_ldc2 (v := (-3)) hx hb hown (hts _ lkX3_write_null_1) dX3_write_7 ?_
  exact reL hx hb hr hlocks h dX3_write_10
def fX3_read_null  (q0 : Int32) (q1 : Int64) : Option (Int32) :=
  some (-3)
abbrev rmX3_read_null : Room := { frames := 3, cells := 0, slots := 0, locals := 78 }
theorem lkX3_read_null_0 : (.fieldLink RX3 33 "PairingDesk" "curve" "LPairingDesk$Curve;" : Cond) ∈ wsX3_read := by decide +kernel
theorem iwX3_read_null_3 : ∀ w ∈ wsX30, w ∈ wsX3_read := by decide +kernel
set_option maxHeartbeats 4000000 in
set_option maxRecDepth 100000 in
theorem kX3_read_null (l : Launch) (D : va_G) (cJ cZ : ClassId) (dk so vo : Nat) (zS : Nat → Int64) (zV : Nat → Int64) (q0 : Int32) (q1 : Int64) (rr : Int32) (h : fX3_read_null q0 q1 = some rr) : Met l yX3_read wsX3_read rmX3_read_null (PP D cJ cZ [.ref dk, .int q0, .long q1] [(dk, .inr (3, [.ref so, .ref vo, .null, .null])), (so, .inl (cJ, 16, .inr (.inl zS))), (vo, .inl (cJ, 8, .inr (.inl zV)))]) (SI rr) 0 0 (fun _ => False) := by
  refine Met.ofW (cc := cX3_read) (maxL := 6) (ret := some .int) (by decide) rfl ?_
  intro pg e s m args below meth c s₁ B hml hv
  obtain ⟨rfl, hP, hE⟩ := hv
  have hx := B.exec
  have hb := B.bytes
  have hr := B.returns
  have hlocks := B.notSynchronized
  have C0 : CallFix pg m c cX3_read 6 s ([.ref dk, .int q0, .long q1] : List Value).toArray wsX3_read RX3 := ⟨hx, hb, hml, findClass_of_methodNamed B.named, atoms_spec (ws := wsX3_read) B.pre⟩
  have hown := C0.2.2.2.1
  have hts := C0.2.2.2.2
  have hl := lv_entry ([.ref dk, .int q0, .long q1]) (n := 6) (Nat.le_of_ble_eq_true rfl)
  rw [lg_entry_eq]
  generalize (lg_sl ([.ref dk, .int q0, .long q1]) ++ List.replicate (6 - (lg_sl ([.ref dk, .int q0, .long q1])).length) Slot.unset).toArray = ls at hl ⊢
  have hl : lv_has ls 6 [(0, .ref dk), (1, .int q0), (2, .long q1)] := hl
  unfold fX3_read_null at h
  refine lv_aload_n hx hb dX3_read_0 rfl (lv_at hl 0 rfl) ?_
  refine va_get (D := D) (ci := 3) (v := .null) (C := RX3) (T := TX3) (N := 4) hx hb hts iwX3_read_null_3 hown hE.1 hP 0 rfl rfl 2 (by decide) (hts _ lkX3_read_null_0) (fun _ h9 => h9) rfl dX3_read_1 ?_
  refine lv_ifnonnullN hx hb dX3_read_4 ?_
  refine lv_bipush (v := (-3)) hx hb dX3_read_7 (by decide) ?_
  exact reI hx hb hr hlocks h dX3_read_9
def fX3_pair_null  (q0 : Int32) (q1 : Int32) (q2 : Int32) : Option (Int32) :=
  some (-3)
abbrev rmX3_pair_null : Room := { frames := 5, cells := 0, slots := 0, locals := 149 }
theorem lkX3_pair_null_0 : (.fieldLink RX3 42 "PairingDesk" "pairing" "LPairingDesk$Pairing;" : Cond) ∈ wsX3_pair := by decide +kernel
theorem iwX3_pair_null_3 : ∀ w ∈ wsX30, w ∈ wsX3_pair := by decide +kernel
set_option maxHeartbeats 4000000 in
set_option maxRecDepth 100000 in
theorem kX3_pair_null (l : Launch) (D : va_G) (cJ cZ : ClassId) (dk so vo : Nat) (zS : Nat → Int64) (zV : Nat → Int64) (q0 : Int32) (q1 : Int32) (q2 : Int32) (rr : Int32) (h : fX3_pair_null q0 q1 q2 = some rr) : Met l yX3_pair wsX3_pair rmX3_pair_null (PP D cJ cZ [.ref dk, .int q0, .int q1, .int q2] [(dk, .inr (3, [.ref so, .ref vo, .null, .null])), (so, .inl (cJ, 16, .inr (.inl zS))), (vo, .inl (cJ, 8, .inr (.inl zV)))]) (SI rr) 0 0 (fun _ => False) := by
  refine Met.ofW (cc := cX3_pair) (maxL := 4) (ret := some .int) (by decide) rfl ?_
  intro pg e s m args below meth c s₁ B hml hv
  obtain ⟨rfl, hP, hE⟩ := hv
  have hx := B.exec
  have hb := B.bytes
  have hr := B.returns
  have hlocks := B.notSynchronized
  have C0 : CallFix pg m c cX3_pair 4 s ([.ref dk, .int q0, .int q1, .int q2] : List Value).toArray wsX3_pair RX3 := ⟨hx, hb, hml, findClass_of_methodNamed B.named, atoms_spec (ws := wsX3_pair) B.pre⟩
  have hown := C0.2.2.2.1
  have hts := C0.2.2.2.2
  have hl := lv_entry ([.ref dk, .int q0, .int q1, .int q2]) (n := 4) (Nat.le_of_ble_eq_true rfl)
  rw [lg_entry_eq]
  generalize (lg_sl ([.ref dk, .int q0, .int q1, .int q2]) ++ List.replicate (4 - (lg_sl ([.ref dk, .int q0, .int q1, .int q2])).length) Slot.unset).toArray = ls at hl ⊢
  have hl : lv_has ls 4 [(0, .ref dk), (1, .int q0), (2, .int q1), (3, .int q2)] := hl
  unfold fX3_pair_null at h
  refine lv_aload_n hx hb dX3_pair_0 rfl (lv_at hl 0 rfl) ?_
  refine va_get (D := D) (ci := 3) (v := .null) (C := RX3) (T := TX3) (N := 4) hx hb hts iwX3_pair_null_3 hown hE.1 hP 0 rfl rfl 3 (by decide) (hts _ lkX3_pair_null_0) (fun _ h9 => h9) rfl dX3_pair_1 ?_
  refine lv_ifnonnullN hx hb dX3_pair_4 ?_
  refine lv_bipush (v := (-3)) hx hb dX3_pair_7 (by decide) ?_
  exact reI hx hb hr hlocks h dX3_pair_9
def fX3_multiply_null  (q0 : Int32) (q1 : Int32) (q2 : Int32) : Option (Int32) :=
  some (-3)
abbrev rmX3_multiply_null : Room := { frames := 2, cells := 0, slots := 0, locals := 53 }
theorem lkX3_multiply_null_0 : (.fieldLink RX3 42 "PairingDesk" "pairing" "LPairingDesk$Pairing;" : Cond) ∈ wsX3_multiply := by decide +kernel
theorem iwX3_multiply_null_3 : ∀ w ∈ wsX30, w ∈ wsX3_multiply := by decide +kernel
set_option maxHeartbeats 4000000 in
set_option maxRecDepth 100000 in
theorem kX3_multiply_null (l : Launch) (D : va_G) (cJ cZ : ClassId) (dk so vo : Nat) (zS : Nat → Int64) (zV : Nat → Int64) (q0 : Int32) (q1 : Int32) (q2 : Int32) (rr : Int32) (h : fX3_multiply_null q0 q1 q2 = some rr) : Met l yX3_multiply wsX3_multiply rmX3_multiply_null (PP D cJ cZ [.ref dk, .int q0, .int q1, .int q2] [(dk, .inr (3, [.ref so, .ref vo, .null, .null])), (so, .inl (cJ, 16, .inr (.inl zS))), (vo, .inl (cJ, 8, .inr (.inl zV)))]) (SI rr) 0 0 (fun _ => False) := by
  refine Met.ofW (cc := cX3_multiply) (maxL := 4) (ret := some .int) (by decide) rfl ?_
  intro pg e s m args below meth c s₁ B hml hv
  obtain ⟨rfl, hP, hE⟩ := hv
  have hx := B.exec
  have hb := B.bytes
  have hr := B.returns
  have hlocks := B.notSynchronized
  have C0 : CallFix pg m c cX3_multiply 4 s ([.ref dk, .int q0, .int q1, .int q2] : List Value).toArray wsX3_multiply RX3 := ⟨hx, hb, hml, findClass_of_methodNamed B.named, atoms_spec (ws := wsX3_multiply) B.pre⟩
  have hown := C0.2.2.2.1
  have hts := C0.2.2.2.2
  have hl := lv_entry ([.ref dk, .int q0, .int q1, .int q2]) (n := 4) (Nat.le_of_ble_eq_true rfl)
  rw [lg_entry_eq]
  generalize (lg_sl ([.ref dk, .int q0, .int q1, .int q2]) ++ List.replicate (4 - (lg_sl ([.ref dk, .int q0, .int q1, .int q2])).length) Slot.unset).toArray = ls at hl ⊢
  have hl : lv_has ls 4 [(0, .ref dk), (1, .int q0), (2, .int q1), (3, .int q2)] := hl
  unfold fX3_multiply_null at h
  refine lv_aload_n hx hb dX3_multiply_0 rfl (lv_at hl 0 rfl) ?_
  refine va_get (D := D) (ci := 3) (v := .null) (C := RX3) (T := TX3) (N := 4) hx hb hts iwX3_multiply_null_3 hown hE.1 hP 0 rfl rfl 3 (by decide) (hts _ lkX3_multiply_null_0) (fun _ h9 => h9) rfl dX3_multiply_1 ?_
  refine lv_ifnonnullN hx hb dX3_multiply_4 ?_
  refine lv_bipush (v := (-3)) hx hb dX3_multiply_7 (by decide) ?_
  exact reI hx hb hr hlocks h dX3_multiply_9
def fX3_power_null  (q0 : Int32) (q1 : Int32) (q2 : Int64) : Option (Int32) :=
  some (-3)
abbrev rmX3_power_null : Room := { frames := 3, cells := 0, slots := 0, locals := 83 }
theorem lkX3_power_null_0 : (.fieldLink RX3 42 "PairingDesk" "pairing" "LPairingDesk$Pairing;" : Cond) ∈ wsX3_power := by decide +kernel
theorem iwX3_power_null_3 : ∀ w ∈ wsX30, w ∈ wsX3_power := by decide +kernel
set_option maxHeartbeats 4000000 in
set_option maxRecDepth 100000 in
theorem kX3_power_null (l : Launch) (D : va_G) (cJ cZ : ClassId) (dk so vo : Nat) (zS : Nat → Int64) (zV : Nat → Int64) (q0 : Int32) (q1 : Int32) (q2 : Int64) (rr : Int32) (h : fX3_power_null q0 q1 q2 = some rr) : Met l yX3_power wsX3_power rmX3_power_null (PP D cJ cZ [.ref dk, .int q0, .int q1, .long q2] [(dk, .inr (3, [.ref so, .ref vo, .null, .null])), (so, .inl (cJ, 16, .inr (.inl zS))), (vo, .inl (cJ, 8, .inr (.inl zV)))]) (SI rr) 0 0 (fun _ => False) := by
  refine Met.ofW (cc := cX3_power) (maxL := 5) (ret := some .int) (by decide) rfl ?_
  intro pg e s m args below meth c s₁ B hml hv
  obtain ⟨rfl, hP, hE⟩ := hv
  have hx := B.exec
  have hb := B.bytes
  have hr := B.returns
  have hlocks := B.notSynchronized
  have C0 : CallFix pg m c cX3_power 5 s ([.ref dk, .int q0, .int q1, .long q2] : List Value).toArray wsX3_power RX3 := ⟨hx, hb, hml, findClass_of_methodNamed B.named, atoms_spec (ws := wsX3_power) B.pre⟩
  have hown := C0.2.2.2.1
  have hts := C0.2.2.2.2
  have hl := lv_entry ([.ref dk, .int q0, .int q1, .long q2]) (n := 5) (Nat.le_of_ble_eq_true rfl)
  rw [lg_entry_eq]
  generalize (lg_sl ([.ref dk, .int q0, .int q1, .long q2]) ++ List.replicate (5 - (lg_sl ([.ref dk, .int q0, .int q1, .long q2])).length) Slot.unset).toArray = ls at hl ⊢
  have hl : lv_has ls 5 [(0, .ref dk), (1, .int q0), (2, .int q1), (3, .long q2)] := hl
  unfold fX3_power_null at h
  refine lv_aload_n hx hb dX3_power_0 rfl (lv_at hl 0 rfl) ?_
  refine va_get (D := D) (ci := 3) (v := .null) (C := RX3) (T := TX3) (N := 4) hx hb hts iwX3_power_null_3 hown hE.1 hP 0 rfl rfl 3 (by decide) (hts _ lkX3_power_null_0) (fun _ h9 => h9) rfl dX3_power_1 ?_
  refine lv_ifnonnullN hx hb dX3_power_4 ?_
  refine lv_bipush (v := (-3)) hx hb dX3_power_7 (by decide) ?_
  exact reI hx hb hr hlocks h dX3_power_9
def fX3_value_null  (q0 : Int32) (q1 : Int32) : Option (Int32) :=
  some (-3)
abbrev rmX3_value_null : Room := { frames := 2, cells := 0, slots := 0, locals := 43 }
theorem lkX3_value_null_0 : (.fieldLink RX3 42 "PairingDesk" "pairing" "LPairingDesk$Pairing;" : Cond) ∈ wsX3_value := by decide +kernel
theorem iwX3_value_null_3 : ∀ w ∈ wsX30, w ∈ wsX3_value := by decide +kernel
set_option maxHeartbeats 4000000 in
set_option maxRecDepth 100000 in
theorem kX3_value_null (l : Launch) (D : va_G) (cJ cZ : ClassId) (dk so vo : Nat) (zS : Nat → Int64) (zV : Nat → Int64) (q0 : Int32) (q1 : Int32) (rr : Int32) (h : fX3_value_null q0 q1 = some rr) : Met l yX3_value wsX3_value rmX3_value_null (PP D cJ cZ [.ref dk, .int q0, .int q1] [(dk, .inr (3, [.ref so, .ref vo, .null, .null])), (so, .inl (cJ, 16, .inr (.inl zS))), (vo, .inl (cJ, 8, .inr (.inl zV)))]) (SI rr) 0 0 (fun _ => False) := by
  refine Met.ofW (cc := cX3_value) (maxL := 3) (ret := some .int) (by decide) rfl ?_
  intro pg e s m args below meth c s₁ B hml hv
  obtain ⟨rfl, hP, hE⟩ := hv
  have hx := B.exec
  have hb := B.bytes
  have hr := B.returns
  have hlocks := B.notSynchronized
  have C0 : CallFix pg m c cX3_value 3 s ([.ref dk, .int q0, .int q1] : List Value).toArray wsX3_value RX3 := ⟨hx, hb, hml, findClass_of_methodNamed B.named, atoms_spec (ws := wsX3_value) B.pre⟩
  have hown := C0.2.2.2.1
  have hts := C0.2.2.2.2
  have hl := lv_entry ([.ref dk, .int q0, .int q1]) (n := 3) (Nat.le_of_ble_eq_true rfl)
  rw [lg_entry_eq]
  generalize (lg_sl ([.ref dk, .int q0, .int q1]) ++ List.replicate (3 - (lg_sl ([.ref dk, .int q0, .int q1])).length) Slot.unset).toArray = ls at hl ⊢
  have hl : lv_has ls 3 [(0, .ref dk), (1, .int q0), (2, .int q1)] := hl
  unfold fX3_value_null at h
  refine lv_aload_n hx hb dX3_value_0 rfl (lv_at hl 0 rfl) ?_
  refine va_get (D := D) (ci := 3) (v := .null) (C := RX3) (T := TX3) (N := 4) hx hb hts iwX3_value_null_3 hown hE.1 hP 0 rfl rfl 3 (by decide) (hts _ lkX3_value_null_0) (fun _ h9 => h9) rfl dX3_value_1 ?_
  refine lv_ifnonnullN hx hb dX3_value_4 ?_
  refine lv_bipush (v := (-3)) hx hb dX3_value_7 (by decide) ?_
  exact reI hx hb hr hlocks h dX3_value_9
def fX3_open_null  (q0 : Int32) (q1 : Int32) : Option (Int32) :=
  some (-3)
abbrev rmX3_open_null : Room := { frames := 4, cells := 0, slots := 0, locals := 127 }
theorem lkX3_open_null_0 : (.fieldLink RX3 33 "PairingDesk" "curve" "LPairingDesk$Curve;" : Cond) ∈ wsX3_open := by decide +kernel
theorem iwX3_open_null_3 : ∀ w ∈ wsX30, w ∈ wsX3_open := by decide +kernel
set_option maxHeartbeats 4000000 in
set_option maxRecDepth 100000 in
theorem kX3_open_null (l : Launch) (D : va_G) (cJ cZ : ClassId) (dk so vo : Nat) (zS : Nat → Int64) (zV : Nat → Int64) (q0 : Int32) (q1 : Int32) (rr : Int32) (h : fX3_open_null q0 q1 = some rr) : Met l yX3_open wsX3_open rmX3_open_null (PP D cJ cZ [.ref dk, .int q0, .int q1] [(dk, .inr (3, [.ref so, .ref vo, .null, .null])), (so, .inl (cJ, 16, .inr (.inl zS))), (vo, .inl (cJ, 8, .inr (.inl zV)))]) (SI rr) 0 0 (fun _ => False) := by
  refine Met.ofW (cc := cX3_open) (maxL := 3) (ret := some .int) (by decide) rfl ?_
  intro pg e s m args below meth c s₁ B hml hv
  obtain ⟨rfl, hP, hE⟩ := hv
  have hx := B.exec
  have hb := B.bytes
  have hr := B.returns
  have hlocks := B.notSynchronized
  have C0 : CallFix pg m c cX3_open 3 s ([.ref dk, .int q0, .int q1] : List Value).toArray wsX3_open RX3 := ⟨hx, hb, hml, findClass_of_methodNamed B.named, atoms_spec (ws := wsX3_open) B.pre⟩
  have hown := C0.2.2.2.1
  have hts := C0.2.2.2.2
  have hl := lv_entry ([.ref dk, .int q0, .int q1]) (n := 3) (Nat.le_of_ble_eq_true rfl)
  rw [lg_entry_eq]
  generalize (lg_sl ([.ref dk, .int q0, .int q1]) ++ List.replicate (3 - (lg_sl ([.ref dk, .int q0, .int q1])).length) Slot.unset).toArray = ls at hl ⊢
  have hl : lv_has ls 3 [(0, .ref dk), (1, .int q0), (2, .int q1)] := hl
  unfold fX3_open_null at h
  refine lv_aload_n hx hb dX3_open_0 rfl (lv_at hl 0 rfl) ?_
  refine va_get (D := D) (ci := 3) (v := .null) (C := RX3) (T := TX3) (N := 4) hx hb hts iwX3_open_null_3 hown hE.1 hP 0 rfl rfl 2 (by decide) (hts _ lkX3_open_null_0) (fun _ h9 => h9) rfl dX3_open_1 ?_
  refine lv_ifnonnullN hx hb dX3_open_4 ?_
  refine lv_bipush (v := (-3)) hx hb dX3_open_7 (by decide) ?_
  exact reI hx hb hr hlocks h dX3_open_9
def fX3_sign_null  (q0 : Int32) (q1 : Int32) (q2 : Int64) : Option (Int32) :=
  some (-3)
abbrev rmX3_sign_null : Room := { frames := 5, cells := 0, slots := 0, locals := 156 }
theorem lkX3_sign_null_0 : (.fieldLink RX3 33 "PairingDesk" "curve" "LPairingDesk$Curve;" : Cond) ∈ wsX3_sign := by decide +kernel
theorem iwX3_sign_null_3 : ∀ w ∈ wsX30, w ∈ wsX3_sign := by decide +kernel
set_option maxHeartbeats 4000000 in
set_option maxRecDepth 100000 in
theorem kX3_sign_null (l : Launch) (D : va_G) (cJ cZ : ClassId) (dk so vo : Nat) (zS : Nat → Int64) (zV : Nat → Int64) (q0 : Int32) (q1 : Int32) (q2 : Int64) (rr : Int32) (h : fX3_sign_null q0 q1 q2 = some rr) : Met l yX3_sign wsX3_sign rmX3_sign_null (PP D cJ cZ [.ref dk, .int q0, .int q1, .long q2] [(dk, .inr (3, [.ref so, .ref vo, .null, .null])), (so, .inl (cJ, 16, .inr (.inl zS))), (vo, .inl (cJ, 8, .inr (.inl zV)))]) (SI rr) 0 0 (fun _ => False) := by
  refine Met.ofW (cc := cX3_sign) (maxL := 5) (ret := some .int) (by decide) rfl ?_
  intro pg e s m args below meth c s₁ B hml hv
  obtain ⟨rfl, hP, hE⟩ := hv
  have hx := B.exec
  have hb := B.bytes
  have hr := B.returns
  have hlocks := B.notSynchronized
  have C0 : CallFix pg m c cX3_sign 5 s ([.ref dk, .int q0, .int q1, .long q2] : List Value).toArray wsX3_sign RX3 := ⟨hx, hb, hml, findClass_of_methodNamed B.named, atoms_spec (ws := wsX3_sign) B.pre⟩
  have hown := C0.2.2.2.1
  have hts := C0.2.2.2.2
  have hl := lv_entry ([.ref dk, .int q0, .int q1, .long q2]) (n := 5) (Nat.le_of_ble_eq_true rfl)
  rw [lg_entry_eq]
  generalize (lg_sl ([.ref dk, .int q0, .int q1, .long q2]) ++ List.replicate (5 - (lg_sl ([.ref dk, .int q0, .int q1, .long q2])).length) Slot.unset).toArray = ls at hl ⊢
  have hl : lv_has ls 5 [(0, .ref dk), (1, .int q0), (2, .int q1), (3, .long q2)] := hl
  unfold fX3_sign_null at h
  refine lv_aload_n hx hb dX3_sign_0 rfl (lv_at hl 0 rfl) ?_
  refine va_get (D := D) (ci := 3) (v := .null) (C := RX3) (T := TX3) (N := 4) hx hb hts iwX3_sign_null_3 hown hE.1 hP 0 rfl rfl 2 (by decide) (hts _ lkX3_sign_null_0) (fun _ h9 => h9) rfl dX3_sign_1 ?_
  refine lv_ifnonnullN hx hb dX3_sign_4 ?_
  refine lv_bipush (v := (-3)) hx hb dX3_sign_7 (by decide) ?_
  exact reI hx hb hr hlocks h dX3_sign_9
def fX3_holds_null  (q0 : Int32) (q1 : Int64) (q2 : Int32) : Option (Int32) :=
  some (-3)
abbrev rmX3_holds_null : Room := { frames := 7, cells := 0, slots := 0, locals := 203 }
theorem lkX3_holds_null_0 : (.fieldLink RX3 42 "PairingDesk" "pairing" "LPairingDesk$Pairing;" : Cond) ∈ wsX3_holds := by decide +kernel
theorem iwX3_holds_null_3 : ∀ w ∈ wsX30, w ∈ wsX3_holds := by decide +kernel
set_option maxHeartbeats 4000000 in
set_option maxRecDepth 100000 in
theorem kX3_holds_null (l : Launch) (D : va_G) (cJ cZ : ClassId) (dk so vo : Nat) (zS : Nat → Int64) (zV : Nat → Int64) (q0 : Int32) (q1 : Int64) (q2 : Int32) (rr : Int32) (h : fX3_holds_null q0 q1 q2 = some rr) : Met l yX3_holds wsX3_holds rmX3_holds_null (PP D cJ cZ [.ref dk, .int q0, .long q1, .int q2] [(dk, .inr (3, [.ref so, .ref vo, .null, .null])), (so, .inl (cJ, 16, .inr (.inl zS))), (vo, .inl (cJ, 8, .inr (.inl zV)))]) (SI rr) 0 0 (fun _ => False) := by
  refine Met.ofW (cc := cX3_holds) (maxL := 5) (ret := some .int) (by decide) rfl ?_
  intro pg e s m args below meth c s₁ B hml hv
  obtain ⟨rfl, hP, hE⟩ := hv
  have hx := B.exec
  have hb := B.bytes
  have hr := B.returns
  have hlocks := B.notSynchronized
  have C0 : CallFix pg m c cX3_holds 5 s ([.ref dk, .int q0, .long q1, .int q2] : List Value).toArray wsX3_holds RX3 := ⟨hx, hb, hml, findClass_of_methodNamed B.named, atoms_spec (ws := wsX3_holds) B.pre⟩
  have hown := C0.2.2.2.1
  have hts := C0.2.2.2.2
  have hl := lv_entry ([.ref dk, .int q0, .long q1, .int q2]) (n := 5) (Nat.le_of_ble_eq_true rfl)
  rw [lg_entry_eq]
  generalize (lg_sl ([.ref dk, .int q0, .long q1, .int q2]) ++ List.replicate (5 - (lg_sl ([.ref dk, .int q0, .long q1, .int q2])).length) Slot.unset).toArray = ls at hl ⊢
  have hl : lv_has ls 5 [(0, .ref dk), (1, .int q0), (2, .long q1), (4, .int q2)] := hl
  unfold fX3_holds_null at h
  refine lv_aload_n hx hb dX3_holds_0 rfl (lv_at hl 0 rfl) ?_
  refine va_get (D := D) (ci := 3) (v := .null) (C := RX3) (T := TX3) (N := 4) hx hb hts iwX3_holds_null_3 hown hE.1 hP 0 rfl rfl 3 (by decide) (hts _ lkX3_holds_null_0) (fun _ h9 => h9) rfl dX3_holds_1 ?_
  refine lv_ifnonnullN hx hb dX3_holds_4 ?_
  refine lv_bipush (v := (-3)) hx hb dX3_holds_7 (by decide) ?_
  exact reI hx hb hr hlocks h dX3_holds_9
def fX3_holdsAll_null  (q0 : Int32) (q1 : Int32) (q2 : Int64) (q3 : Int32) : Option (Int32) :=
  some (-3)
abbrev rmX3_holdsAll_null : Room := { frames := 7, cells := 0, slots := 0, locals := 203 }
theorem lkX3_holdsAll_null_0 : (.fieldLink RX3 42 "PairingDesk" "pairing" "LPairingDesk$Pairing;" : Cond) ∈ wsX3_holdsAll := by decide +kernel
theorem iwX3_holdsAll_null_3 : ∀ w ∈ wsX30, w ∈ wsX3_holdsAll := by decide +kernel
set_option maxHeartbeats 4000000 in
set_option maxRecDepth 100000 in
theorem kX3_holdsAll_null (l : Launch) (D : va_G) (cJ cZ : ClassId) (dk so vo : Nat) (zS : Nat → Int64) (zV : Nat → Int64) (q0 : Int32) (q1 : Int32) (q2 : Int64) (q3 : Int32) (rr : Int32) (h : fX3_holdsAll_null q0 q1 q2 q3 = some rr) : Met l yX3_holdsAll wsX3_holdsAll rmX3_holdsAll_null (PP D cJ cZ [.ref dk, .int q0, .int q1, .long q2, .int q3] [(dk, .inr (3, [.ref so, .ref vo, .null, .null])), (so, .inl (cJ, 16, .inr (.inl zS))), (vo, .inl (cJ, 8, .inr (.inl zV)))]) (SI rr) 0 0 (fun _ => False) := by
  refine Met.ofW (cc := cX3_holdsAll) (maxL := 6) (ret := some .int) (by decide) rfl ?_
  intro pg e s m args below meth c s₁ B hml hv
  obtain ⟨rfl, hP, hE⟩ := hv
  have hx := B.exec
  have hb := B.bytes
  have hr := B.returns
  have hlocks := B.notSynchronized
  have C0 : CallFix pg m c cX3_holdsAll 6 s ([.ref dk, .int q0, .int q1, .long q2, .int q3] : List Value).toArray wsX3_holdsAll RX3 := ⟨hx, hb, hml, findClass_of_methodNamed B.named, atoms_spec (ws := wsX3_holdsAll) B.pre⟩
  have hown := C0.2.2.2.1
  have hts := C0.2.2.2.2
  have hl := lv_entry ([.ref dk, .int q0, .int q1, .long q2, .int q3]) (n := 6) (Nat.le_of_ble_eq_true rfl)
  rw [lg_entry_eq]
  generalize (lg_sl ([.ref dk, .int q0, .int q1, .long q2, .int q3]) ++ List.replicate (6 - (lg_sl ([.ref dk, .int q0, .int q1, .long q2, .int q3])).length) Slot.unset).toArray = ls at hl ⊢
  have hl : lv_has ls 6 [(0, .ref dk), (1, .int q0), (2, .int q1), (3, .long q2), (5, .int q3)] := hl
  unfold fX3_holdsAll_null at h
  refine lv_aload_n hx hb dX3_holdsAll_0 rfl (lv_at hl 0 rfl) ?_
  refine va_get (D := D) (ci := 3) (v := .null) (C := RX3) (T := TX3) (N := 4) hx hb hts iwX3_holdsAll_null_3 hown hE.1 hP 0 rfl rfl 3 (by decide) (hts _ lkX3_holdsAll_null_0) (fun _ h9 => h9) rfl dX3_holdsAll_1 ?_
  refine lv_ifnonnullN hx hb dX3_holdsAll_4 ?_
  refine lv_bipush (v := (-3)) hx hb dX3_holdsAll_7 (by decide) ?_
  exact reI hx hb hr hlocks h dX3_holdsAll_9
def fX3_digest_null  : Option (Int64) :=
  some (-3)
abbrev rmX3_digest_null : Room := { frames := 2, cells := 0, slots := 0, locals := 42 }
theorem lkX3_digest_null_0 : (.fieldLink RX3 33 "PairingDesk" "curve" "LPairingDesk$Curve;" : Cond) ∈ wsX3_digest := by decide +kernel
theorem lkX3_digest_null_1 : (.constantLong RX3 104 (-3) : Cond) ∈ wsX3_digest := by decide +kernel
theorem iwX3_digest_null_3 : ∀ w ∈ wsX30, w ∈ wsX3_digest := by decide +kernel
set_option maxHeartbeats 4000000 in
set_option maxRecDepth 100000 in
theorem kX3_digest_null (l : Launch) (D : va_G) (cJ cZ : ClassId) (dk so vo : Nat) (zS : Nat → Int64) (zV : Nat → Int64) (rr : Int64) (h : fX3_digest_null = some rr) : Met l yX3_digest wsX3_digest rmX3_digest_null (PP D cJ cZ [.ref dk] [(dk, .inr (3, [.ref so, .ref vo, .null, .null])), (so, .inl (cJ, 16, .inr (.inl zS))), (vo, .inl (cJ, 8, .inr (.inl zV)))]) (SL rr) 0 0 (fun _ => False) := by
  refine Met.ofW (cc := cX3_digest) (maxL := 4) (ret := some .long) (by decide) rfl ?_
  intro pg e s m args below meth c s₁ B hml hv
  obtain ⟨rfl, hP, hE⟩ := hv
  have hx := B.exec
  have hb := B.bytes
  have hr := B.returns
  have hlocks := B.notSynchronized
  have C0 : CallFix pg m c cX3_digest 4 s ([.ref dk] : List Value).toArray wsX3_digest RX3 := ⟨hx, hb, hml, findClass_of_methodNamed B.named, atoms_spec (ws := wsX3_digest) B.pre⟩
  have hown := C0.2.2.2.1
  have hts := C0.2.2.2.2
  have hl := lv_entry ([.ref dk]) (n := 4) (Nat.le_of_ble_eq_true rfl)
  rw [lg_entry_eq]
  generalize (lg_sl ([.ref dk]) ++ List.replicate (4 - (lg_sl ([.ref dk])).length) Slot.unset).toArray = ls at hl ⊢
  have hl : lv_has ls 4 [(0, .ref dk)] := hl
  unfold fX3_digest_null at h
  refine lv_aload_n hx hb dX3_digest_0 rfl (lv_at hl 0 rfl) ?_
  refine va_get (D := D) (ci := 3) (v := .null) (C := RX3) (T := TX3) (N := 4) hx hb hts iwX3_digest_null_3 hown hE.1 hP 0 rfl rfl 2 (by decide) (hts _ lkX3_digest_null_0) (fun _ h9 => h9) rfl dX3_digest_1 ?_
  refine lv_ifnonnullN hx hb dX3_digest_4 ?_
  refine lv_ldc2 (v := (-3)) hx hb hown (hts _ lkX3_digest_null_1) dX3_digest_7 ?_
  exact reL hx hb hr hlocks h dX3_digest_10
