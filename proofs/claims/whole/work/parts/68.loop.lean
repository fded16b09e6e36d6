section
variable {p : Program} {l : Launch} {e : Env} {s : State} {m : MethodId} {below : List Frame} {meth : Method} {c : Code} {b L : Nat} {xs : Nat → Int32} {D : va_G} {cJ cZ : ClassId} {H : Heap} {locs : List Loc} {cells slots : Nat} {Q : State → Prop} {ls : Array Slot} {dk mo i : Nat}
set_option maxHeartbeats 4000000 in
set_option maxRecDepth 100000 in
/-- the switch -/
theorem cs_switch (hF : LF p s m c b L xs) (hE : EV D cJ cZ s) (hL : L ≤ 3072) (hi : i + 6 ≤ L) (hl : lv_has ls 4 [(0, .ref b), (1, .ref dk), (2, .ref mo), (3, .int (nI i))]) (hcl : cells + 3 ≤ room_1.cells) (hsl : slots + 10 ≤ room_1.slots) (hI : IV D cJ cZ dk mo s H locs) (nx : ∀ (H : Heap) (locs : List Loc), IV D cJ cZ dk mo s H locs → W p l e room_1 s m #[Value.ref b] below meth c H locs (cells + 3) (slots + 10) Q (F0 m 1067 ls [])) : W p l e room_1 s m #[Value.ref b] below meth c H locs cells slots Q (F0 m 27 ls []) := by
  obtain ⟨C0, hX, hbl⟩ := id hF
  have hx := C0.1
  have hb := C0.2.1
  have hbA : ¬ LA s b := Nat.not_le.mpr hbl
  have hS := hI.1
  refine lv_aload_n hx hb dL_law_27 rfl (lv_at hl 0 rfl) ?_
  refine lv_iload_n hx hb dL_law_28 rfl (lv_at hl 3 rfl) ?_
  refine va_sld hx hb hX hbl hbA hS (vp_in_nI (show i < L by omega) (by omega)) dL_law_29 ?_
  refine lv_bipush (v := 31) hx hb dL_law_30 (by decide) ?_
  refine lv_iand hx hb dL_law_32 ?_
  obtain ⟨j, hj, ej⟩ := pk_andE (xs (nI i).toNatClampNeg) (m := 31) 5 (by decide)
  refine ti ej ?_
  rcases (show j = 0 ∨ j = 1 ∨ j = 2 ∨ j = 3 ∨ j = 4 ∨ j = 5 ∨ j = 6 ∨ j = 7 ∨ j = 8 ∨ j = 9 ∨ j = 10 ∨ j = 11 ∨ j = 12 ∨ j = 13 ∨ j = 14 ∨ j = 15 ∨ j = 16 ∨ j = 17 ∨ j = 18 ∨ j = 19 ∨ j = 20 ∨ 20 < j by omega) with rfl | rfl | rfl | rfl | rfl | rfl | rfl | rfl | rfl | rfl | rfl | rfl | rfl | rfl | rfl | rfl | rfl | rfl | rfl | rfl | rfl | hgt
  · exact lv_tableIn (off := 99) (tgt := 132) hx hb dL_law_33 (by decide) (by decide) (by decide) (by decide) (cs_field hF hE hL hi hl hcl hsl hI nx)
  · exact lv_tableIn (off := 132) (tgt := 165) hx hb dL_law_33 (by decide) (by decide) (by decide) (by decide) (cs_told hF hE hL hi hl hcl hsl hI nx)
  · exact lv_tableIn (off := 155) (tgt := 188) hx hb dL_law_33 (by decide) (by decide) (by decide) (by decide) (cs_root hF hE hL hi hl hcl hsl hI nx)
  · exact lv_tableIn (off := 178) (tgt := 211) hx hb dL_law_33 (by decide) (by decide) (by decide) (by decide) (cs_point hF hE hL hi hl hcl hsl hI nx)
  · exact lv_tableIn (off := 221) (tgt := 254) hx hb dL_law_33 (by decide) (by decide) (by decide) (by decide) (cs_nowhere hF hE hL hi hl hcl hsl hI nx)
  · exact lv_tableIn (off := 244) (tgt := 277) hx hb dL_law_33 (by decide) (by decide) (by decide) (by decide) (cs_turn hF hE hL hi hl hcl hsl hI nx)
  · exact lv_tableIn (off := 307) (tgt := 340) hx hb dL_law_33 (by decide) (by decide) (by decide) (by decide) (cs_add hF hE hL hi hl hcl hsl hI nx)
  · exact lv_tableIn (off := 350) (tgt := 383) hx hb dL_law_33 (by decide) (by decide) (by decide) (by decide) (cs_times hF hE hL hi hl hcl hsl hI nx)
  · exact lv_tableIn (off := 423) (tgt := 456) hx hb dL_law_33 (by decide) (by decide) (by decide) (by decide) (cs_at hF hE hL hi hl hcl hsl hI nx)
  · exact lv_tableIn (off := 456) (tgt := 489) hx hb dL_law_33 (by decide) (by decide) (by decide) (by decide) (cs_order hF hE hL hi hl hcl hsl hI nx)
  · exact lv_tableIn (off := 479) (tgt := 512) hx hb dL_law_33 (by decide) (by decide) (by decide) (by decide) (cs_write hF hE hL hi hl hcl hsl hI nx)
  · exact lv_tableIn (off := 503) (tgt := 536) hx hb dL_law_33 (by decide) (by decide) (by decide) (by decide) (cs_read hF hE hL hi hl hcl hsl hI nx)
  · exact lv_tableIn (off := 566) (tgt := 599) hx hb dL_law_33 (by decide) (by decide) (by decide) (by decide) (cs_pair hF hE hL hi hl hcl hsl hI nx)
  · exact lv_tableIn (off := 609) (tgt := 642) hx hb dL_law_33 (by decide) (by decide) (by decide) (by decide) (cs_multiply hF hE hL hi hl hcl hsl hI nx)
  · exact lv_tableIn (off := 652) (tgt := 685) hx hb dL_law_33 (by decide) (by decide) (by decide) (by decide) (cs_power hF hE hL hi hl hcl hsl hI nx)
  · exact lv_tableIn (off := 725) (tgt := 758) hx hb dL_law_33 (by decide) (by decide) (by decide) (by decide) (cs_value hF hE hL hi hl hcl hsl hI nx)
  · exact lv_tableIn (off := 758) (tgt := 791) hx hb dL_law_33 (by decide) (by decide) (by decide) (by decide) (cs_open hF hE hL hi hl hcl hsl hI nx)
  · exact lv_tableIn (off := 791) (tgt := 824) hx hb dL_law_33 (by decide) (by decide) (by decide) (by decide) (cs_sign hF hE hL hi hl hcl hsl hI nx)
  · exact lv_tableIn (off := 864) (tgt := 897) hx hb dL_law_33 (by decide) (by decide) (by decide) (by decide) (cs_holds hF hE hL hi hl hcl hsl hI nx)
  · exact lv_tableIn (off := 937) (tgt := 970) hx hb dL_law_33 (by decide) (by decide) (by decide) (by decide) (cs_holdsAll hF hE hL hi hl hcl hsl hI nx)
  · exact lv_tableIn (off := 1020) (tgt := 1053) hx hb dL_law_33 (by decide) (by decide) (by decide) (by decide) (cs_digest hF hE hL hi hl hcl hsl hI nx)
  · refine lv_tableOut (tgt := 1067) hx hb dL_law_33 (Or.inr ?_) (by decide) (W.widen (by omega) (by omega) (nx _ _ hI))
    rw [nI_toInt (by omega)]
    omega
end
section
variable {p : Program} {l : Launch} {e : Env} {s : State} {m : MethodId} {below : List Frame} {meth : Method} {c : Code} {b L : Nat} {xs : Nat → Int32} {D : va_G} {cJ cZ : ClassId} {dk mo : Nat}
set_option maxHeartbeats 4000000 in
set_option maxRecDepth 100000 in
/-- the law's loop: k calls done -/
theorem law_loop (hF : LF p s m c b L xs) (hE : EV D cJ cZ s) (hL : L ≤ 3072) (hr : meth.sig.returnType = ret) (hlocks : meth.locks = false) : ∀ (n k : Nat), k + n = 512 → ∀ (H : Heap) (locs : List Loc) (ls : Array Slot), IV D cJ cZ dk mo s H locs → lv_has ls 4 [(0, .ref b), (1, .ref dk), (2, .ref mo), (3, .int (nI (6 * k)))] → W p l e room_1 s m #[Value.ref b] below meth c H locs (9 + 3 * k) (106 + 10 * k) (lw_Z below #[Value.ref b] s) (F0 m 18 ls []) := by
  obtain ⟨C0, hX, hbl⟩ := id hF
  have hx := C0.1
  have hb := C0.2.1
  have hbA : ¬ LA s b := Nat.not_le.mpr hbl
  have body : ∀ (n k : Nat), k + n = 512 → (∀ (n' : Nat), n' + 1 = n → ∀ (H : Heap) (locs : List Loc) (ls : Array Slot), IV D cJ cZ dk mo s H locs → lv_has ls 4 [(0, .ref b), (1, .ref dk), (2, .ref mo), (3, .int (nI (6 * (k + 1))))] → W p l e room_1 s m #[Value.ref b] below meth c H locs (9 + 3 * (k + 1)) (106 + 10 * (k + 1)) (lw_Z below #[Value.ref b] s) (F0 m 18 ls [])) → ∀ (H : Heap) (locs : List Loc) (ls : Array Slot), IV D cJ cZ dk mo s H locs → lv_has ls 4 [(0, .ref b), (1, .ref dk), (2, .ref mo), (3, .int (nI (6 * k)))] → W p l e room_1 s m #[Value.ref b] below meth c H locs (9 + 3 * k) (106 + 10 * k) (lw_Z below #[Value.ref b] s) (F0 m 18 ls []) := by
    intro n k hk ih H locs ls hI hl
    have hS := hI.1
    refine lv_iload_n hx hb dL_law_18 rfl (lv_at hl 3 rfl) ?_
    refine lv_aload_n hx hb dL_law_19 rfl (lv_at hl 0 rfl) ?_
    refine va_slen hx hb hX hbl hbA hS dL_law_20 ?_
    refine lv_bipush (v := nI 6) hx hb dL_law_21 (by decide) ?_
    refine lv_isub hx hb dL_law_23 ?_
    have e1 : (Int32.ofNat L - nI 6).toInt = (L : Int) - 6 := pk_sub_toInt (a := L) (b := 6) (by omega) (by decide)
    have e2 : (nI (6 * k)).toInt = ((6 * k : Nat) : Int) := nI_toInt (by omega)
    refine lv_icmp_gt (tgt := 1073) hx hb dL_law_24 (by decide) (fun cg => ?_) (fun cg => ?_)
    · refine lv_iconst (v := 1) hx hb dL_law_1073 (by decide) ?_
      refine va_forget (fun q hq => hS.2.2 q hq) ?_
      refine W.widen (k := 600000) (n := 7302250) (by omega) (by omega) ?_
      exact lw_ret hx hb hr hlocks dL_law_1074
    · have hi : 6 * k + 6 ≤ L := by
        rw [Int32.lt_iff_toInt_lt, e1, e2] at cg
        omega
      refine cs_switch hF hE hL hi hl (show 9 + 3 * k + 3 ≤ 600000 by omega) (show 106 + 10 * k + 10 ≤ 7302250 by omega) hI (fun H locs hI => ?_)
      obtain ⟨n', rfl⟩ : ∃ n', n = n' + 1 := ⟨n - 1, by omega⟩
      have ei : nI (6 * k) + Int32.ofInt 6 = nI (6 * (k + 1)) := nI_add (6 * k) 6
      refine lv_iinc (v := nI (6 * (k + 1))) (lv' := [(3, .int (nI (6 * (k + 1)))), (0, .ref b), (1, .ref dk), (2, .ref mo)]) hx hb dL_law_1067 hl (k := 3) rfl ei (by decide) rfl (fun ls hl => ?_)
      refine lv_goto (tgt := 18) hx hb dL_law_1070 (by decide) ?_
      refine W.widen (k := 9 + 3 * (k + 1)) (n := 106 + 10 * (k + 1)) (by omega) (by omega) ?_
      exact ih n' rfl H locs ls hI (lv_sub hl [1, 2, 3, 0] rfl)
  intro n
  induction n with
  | zero => exact fun k hk => body 0 k hk (fun n' h => absurd h (by omega))
  | succ n ihn => exact fun k hk => body (n + 1) k hk (fun n' h => ihn (k + 1) (by omega))
end
