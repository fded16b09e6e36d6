def fJ6_numberOfLeadingZeros_0f7a4  (q0 : Int32) : Option (Int32) :=
  if 0 < q0 then
    if q0 < 65536 then
      if q0 < 256 then
        if q0 < 16 then
          if q0 < 4 then
            some (31 - (jiushr q0 1))
          else
            bnd (31 + (-2)) fun w6 =>
            bnd (jiushr q0 2) fun w7 =>
            some (w6 - (jiushr w7 1))
        else
          bnd (31 + (-4)) fun w8 =>
          bnd (jiushr q0 4) fun w9 =>
          if w9 < 4 then
            some (w8 - (jiushr w9 1))
          else
            bnd (w8 + (-2)) fun w11 =>
            bnd (jiushr w9 2) fun w12 =>
            some (w11 - (jiushr w12 1))
      else
        bnd (31 + (-8)) fun w13 =>
        bnd (jiushr q0 8) fun w14 =>
        if w14 < 16 then
          if w14 < 4 then
            some (w13 - (jiushr w14 1))
          else
            bnd (w13 + (-2)) fun w17 =>
            bnd (jiushr w14 2) fun w18 =>
            some (w17 - (jiushr w18 1))
        else
          bnd (w13 + (-4)) fun w19 =>
          bnd (jiushr w14 4) fun w20 =>
          if w20 < 4 then
            some (w19 - (jiushr w20 1))
          else
            bnd (w19 + (-2)) fun w22 =>
            bnd (jiushr w20 2) fun w23 =>
            some (w22 - (jiushr w23 1))
    else
      bnd (31 + (-16)) fun w24 =>
      bnd (jiushr q0 16) fun w25 =>
      if w25 < 256 then
        if w25 < 16 then
          if w25 < 4 then
            some (w24 - (jiushr w25 1))
          else
            bnd (w24 + (-2)) fun w29 =>
            bnd (jiushr w25 2) fun w30 =>
            some (w29 - (jiushr w30 1))
        else
          bnd (w24 + (-4)) fun w31 =>
          bnd (jiushr w25 4) fun w32 =>
          if w32 < 4 then
            some (w31 - (jiushr w32 1))
          else
            bnd (w31 + (-2)) fun w34 =>
            bnd (jiushr w32 2) fun w35 =>
            some (w34 - (jiushr w35 1))
      else
        bnd (w24 + (-8)) fun w36 =>
        bnd (jiushr w25 8) fun w37 =>
        if w37 < 16 then
          if w37 < 4 then
            some (w36 - (jiushr w37 1))
          else
            bnd (w36 + (-2)) fun w40 =>
            bnd (jiushr w37 2) fun w41 =>
            some (w40 - (jiushr w41 1))
        else
          bnd (w36 + (-4)) fun w42 =>
          bnd (jiushr w37 4) fun w43 =>
          if w43 < 4 then
            some (w42 - (jiushr w43 1))
          else
            bnd (w42 + (-2)) fun w45 =>
            bnd (jiushr w43 2) fun w46 =>
            some (w45 - (jiushr w46 1))
  else
    if q0 = 0 then
      some 32
    else
      some 0
abbrev rmJ6_numberOfLeadingZeros_0f7a4 : Room := { frames := 0, cells := 0, slots := 0, locals := 0 }
theorem lkJ6_numberOfLeadingZeros_0f7a4_0 : (.constant RJ6 264 (65536) : Cond) ∈ wsJ6_numberOfLeadingZeros_0f7a4 := by decide +kernel
theorem hdJ6_numberOfLeadingZeros_0f7a4 : KN yJ6_numberOfLeadingZeros_0f7a4 1 := by decide +kernel
set_option maxHeartbeats 4000000 in
set_option maxRecDepth 100000 in
theorem kJ6_numberOfLeadingZeros_0f7a4 (l : Launch) (D : va_G) (cJ cZ : ClassId) (q0 : Int32) (rr : Int32) (h : fJ6_numberOfLeadingZeros_0f7a4 q0 = some rr) : Met l yJ6_numberOfLeadingZeros_0f7a4 wsJ6_numberOfLeadingZeros_0f7a4 rmJ6_numberOfLeadingZeros_0f7a4 (PP D cJ cZ [.int q0] []) (SI rr) 0 0 (fun _ => False) := by
  refine Met.ofW (cc := cJ6_numberOfLeadingZeros_0f7a4) (maxL := 2) (ret := some .int) (by decide) rfl ?_
  intro pg e s m args below meth c s₁ B hml hv
  obtain ⟨rfl, hP, hE⟩ := hv
  have hx := B.exec
  have hb := B.bytes
  have hr := B.returns
  have hlocks := B.notSynchronized
  have C0 : CallFix pg m c cJ6_numberOfLeadingZeros_0f7a4 2 s ([.int q0] : List Value).toArray wsJ6_numberOfLeadingZeros_0f7a4 RJ6 := ⟨hx, hb, hml, findClass_of_methodNamed B.named, atoms_spec (ws := wsJ6_numberOfLeadingZeros_0f7a4) B.pre⟩
  have hown := C0.2.2.2.1
  have hts := C0.2.2.2.2
  have hl := lv_entry ([.int q0]) (n := 2) (Nat.le_of_ble_eq_true rfl)
  rw [lg_entry_eq]
  generalize (lg_sl ([.int q0]) ++ List.replicate (2 - (lg_sl ([.int q0])).length) Slot.unset).toArray = ls at hl ⊢
  have hl : lv_has ls 2 [(0, .int q0)] := hl
  unfold fJ6_numberOfLeadingZeros_0f7a4 at h
  refine lv_iload_n hx hb dJ6_numberOfLeadingZeros_0f7a4_0 rfl (lv_at hl 0 rfl) ?_
  refine lv_if_gt (tgt := 15) hx hb dJ6_numberOfLeadingZeros_0f7a4_1 (by decide) (fun c1 => ?_) (fun c1 => ?_)
  · have h := ite_t c1 h
    refine lv_bipush (v := 31) hx hb dJ6_numberOfLeadingZeros_0f7a4_15 (by decide) ?_
    refine lv_istore_n (lv' := [(1, .int 31), (0, .int q0)]) hx hb dJ6_numberOfLeadingZeros_0f7a4_17 rfl hl (by decide) rfl (fun ls hl => ?_)
    refine lv_iload_n hx hb dJ6_numberOfLeadingZeros_0f7a4_18 rfl (lv_at hl 1 rfl) ?_
    refine lv_ldcw (v := 65536) hx hb hown (hts _ lkJ6_numberOfLeadingZeros_0f7a4_0) dJ6_numberOfLeadingZeros_0f7a4_19 ?_
    refine lv_icmp_lt (tgt := 33) hx hb dJ6_numberOfLeadingZeros_0f7a4_22 (by decide) (fun c2 => ?_) (fun c2 => ?_)
    · have h := ite_t c2 h
      refine lv_iload_n hx hb dJ6_numberOfLeadingZeros_0f7a4_33 rfl (lv_at hl 1 rfl) ?_
      refine lv_sipush (v := 256) hx hb dJ6_numberOfLeadingZeros_0f7a4_34 (by decide) ?_
      refine lv_icmp_lt (tgt := 48) hx hb dJ6_numberOfLeadingZeros_0f7a4_37 (by decide) (fun c3 => ?_) (fun c3 => ?_)
      · have h := ite_t c3 h
        refine lv_iload_n hx hb dJ6_numberOfLeadingZeros_0f7a4_48 rfl (lv_at hl 1 rfl) ?_
        refine lv_bipush (v := 16) hx hb dJ6_numberOfLeadingZeros_0f7a4_49 (by decide) ?_
        refine lv_icmp_lt (tgt := 61) hx hb dJ6_numberOfLeadingZeros_0f7a4_51 (by decide) (fun c4 => ?_) (fun c4 => ?_)
        · have h := ite_t c4 h
          refine lv_iload_n hx hb dJ6_numberOfLeadingZeros_0f7a4_61 rfl (lv_at hl 1 rfl) ?_
          refine lv_iconst (v := 4) hx hb dJ6_numberOfLeadingZeros_0f7a4_62 (by decide) ?_
          refine lv_icmp_lt (tgt := 73) hx hb dJ6_numberOfLeadingZeros_0f7a4_63 (by decide) (fun c5 => ?_) (fun c5 => ?_)
          · have h := ite_t c5 h
            refine lv_iload_n hx hb dJ6_numberOfLeadingZeros_0f7a4_73 rfl (lv_at hl 0 rfl) ?_
            refine lv_iload_n hx hb dJ6_numberOfLeadingZeros_0f7a4_74 rfl (lv_at hl 1 rfl) ?_
            refine lv_iconst (v := 1) hx hb dJ6_numberOfLeadingZeros_0f7a4_75 (by decide) ?_
            refine lv_iushr (v := jiushr q0 1) hx hb dJ6_numberOfLeadingZeros_0f7a4_76 rfl ?_
            refine lv_isub hx hb dJ6_numberOfLeadingZeros_0f7a4_77 ?_
            exact reI hx hb hr hlocks h dJ6_numberOfLeadingZeros_0f7a4_78
          · have h := ite_f c5 h
            obtain ⟨w6, ew6, h⟩ := bnd_s h
            refine lv_iinc (v := w6) (lv' := [(1, .int w6), (0, .int q0)]) hx hb dJ6_numberOfLeadingZeros_0f7a4_66 hl (k := 0) rfl (by rw [ew6]; rfl) (by decide) rfl (fun ls hl => ?_)
            refine lv_iload_n hx hb dJ6_numberOfLeadingZeros_0f7a4_69 rfl (lv_at hl 1 rfl) ?_
            refine lv_iconst (v := 2) hx hb dJ6_numberOfLeadingZeros_0f7a4_70 (by decide) ?_
            refine lv_iushr (v := jiushr q0 2) hx hb dJ6_numberOfLeadingZeros_0f7a4_71 rfl ?_
            obtain ⟨w7, ew7, h⟩ := bnd_s h
            refine ti ew7.symm ?_
            refine lv_istore_n (lv' := [(0, .int w7), (1, .int w6)]) hx hb dJ6_numberOfLeadingZeros_0f7a4_72 rfl hl (by decide) rfl (fun ls hl => ?_)
            refine lv_iload_n hx hb dJ6_numberOfLeadingZeros_0f7a4_73 rfl (lv_at hl 1 rfl) ?_
            refine lv_iload_n hx hb dJ6_numberOfLeadingZeros_0f7a4_74 rfl (lv_at hl 0 rfl) ?_
            refine lv_iconst (v := 1) hx hb dJ6_numberOfLeadingZeros_0f7a4_75 (by decide) ?_
            refine lv_iushr (v := jiushr w7 1) hx hb dJ6_numberOfLeadingZeros_0f7a4_76 rfl ?_
            refine lv_isub hx hb dJ6_numberOfLeadingZeros_0f7a4_77 ?_
            exact reI hx hb hr hlocks h dJ6_numberOfLeadingZeros_0f7a4_78
        · have h := ite_f c4 h
          obtain ⟨w8, ew8, h⟩ := bnd_s h
          refine lv_iinc (v := w8) (lv' := [(1, .int w8), (0, .int q0)]) hx hb dJ6_numberOfLeadingZeros_0f7a4_54 hl (k := 0) rfl (by rw [ew8]; rfl) (by decide) rfl (fun ls hl => ?_)
          refine lv_iload_n hx hb dJ6_numberOfLeadingZeros_0f7a4_57 rfl (lv_at hl 1 rfl) ?_
          refine lv_iconst (v := 4) hx hb dJ6_numberOfLeadingZeros_0f7a4_58 (by decide) ?_
          refine lv_iushr (v := jiushr q0 4) hx hb dJ6_numberOfLeadingZeros_0f7a4_59 rfl ?_
          obtain ⟨w9, ew9, h⟩ := bnd_s h
          refine ti ew9.symm ?_
          refine lv_istore_n (lv' := [(0, .int w9), (1, .int w8)]) hx hb dJ6_numberOfLeadingZeros_0f7a4_60 rfl hl (by decide) rfl (fun ls hl => ?_)
          refine lv_iload_n hx hb dJ6_numberOfLeadingZeros_0f7a4_61 rfl (lv_at hl 0 rfl) ?_
          refine lv_iconst (v := 4) hx hb dJ6_numberOfLeadingZeros_0f7a4_62 (by decide) ?_
          refine lv_icmp_lt (tgt := 73) hx hb dJ6_numberOfLeadingZeros_0f7a4_63 (by decide) (fun c10 => ?_) (fun c10 => ?_)
          · have h := ite_t c10 h
            refine lv_iload_n hx hb dJ6_numberOfLeadingZeros_0f7a4_73 rfl (lv_at hl 1 rfl) ?_
            refine lv_iload_n hx hb dJ6_numberOfLeadingZeros_0f7a4_74 rfl (lv_at hl 0 rfl) ?_
            refine lv_iconst (v := 1) hx hb dJ6_numberOfLeadingZeros_0f7a4_75 (by decide) ?_
            refine lv_iushr (v := jiushr w9 1) hx hb dJ6_numberOfLeadingZeros_0f7a4_76 rfl ?_
            refine lv_isub hx hb dJ6_numberOfLeadingZeros_0f7a4_77 ?_
            exact reI hx hb hr hlocks h dJ6_numberOfLeadingZeros_0f7a4_78
          · have h := ite_f c10 h
            obtain ⟨w11, ew11, h⟩ := bnd_s h
            refine lv_iinc (v := w11) (lv' := [(1, .int w11), (0, .int w9)]) hx hb dJ6_numberOfLeadingZeros_0f7a4_66 hl (k := 1) rfl (by rw [ew11]; rfl) (by decide) rfl (fun ls hl => ?_)
            refine lv_iload_n hx hb dJ6_numberOfLeadingZeros_0f7a4_69 rfl (lv_at hl 1 rfl) ?_
            refine lv_iconst (v := 2) hx hb dJ6_numberOfLeadingZeros_0f7a4_70 (by decide) ?_
            refine lv_iushr (v := jiushr w9 2) hx hb dJ6_numberOfLeadingZeros_0f7a4_71 rfl ?_
            obtain ⟨w12, ew12, h⟩ := bnd_s h
            refine ti ew12.symm ?_
            refine lv_istore_n (lv' := [(0, .int w12), (1, .int w11)]) hx hb dJ6_numberOfLeadingZeros_0f7a4_72 rfl hl (by decide) rfl (fun ls hl => ?_)
            refine lv_iload_n hx hb dJ6_numberOfLeadingZeros_0f7a4_73 rfl (lv_at hl 1 rfl) ?_
            refine lv_iload_n hx hb dJ6_numberOfLeadingZeros_0f7a4_74 rfl (lv_at hl 0 rfl) ?_
            refine lv_iconst (v := 1) hx hb dJ6_numberOfLeadingZeros_0f7a4_75 (by decide) ?_
            refine lv_iushr (v := jiushr w12 1) hx hb dJ6_numberOfLeadingZeros_0f7a4_76 rfl ?_
            refine lv_isub hx hb dJ6_numberOfLeadingZeros_0f7a4_77 ?_
            exact reI hx hb hr hlocks h dJ6_numberOfLeadingZeros_0f7a4_78
      · have h := ite_f c3 h
        obtain ⟨w13, ew13, h⟩ := bnd_s h
        refine lv_iinc (v := w13) (lv' := [(1, .int w13), (0, .int q0)]) hx hb dJ6_numberOfLeadingZeros_0f7a4_40 hl (k := 0) rfl (by rw [ew13]; rfl) (by decide) rfl (fun ls hl => ?_)
        refine lv_iload_n hx hb dJ6_numberOfLeadingZeros_0f7a4_43 rfl (lv_at hl 1 rfl) ?_
        refine lv_bipush (v := 8) hx hb dJ6_numberOfLeadingZeros_0f7a4_44 (by decide) ?_
        refine lv_iushr (v := jiushr q0 8) hx hb dJ6_numberOfLeadingZeros_0f7a4_46 rfl ?_
        obtain ⟨w14, ew14, h⟩ := bnd_s h
        refine ti ew14.symm ?_
        refine lv_istore_n (lv' := [(0, .int w14), (1, .int w13)]) hx hb dJ6_numberOfLeadingZeros_0f7a4_47 rfl hl (by decide) rfl (fun ls hl => ?_)
        refine lv_iload_n hx hb dJ6_numberOfLeadingZeros_0f7a4_48 rfl (lv_at hl 0 rfl) ?_
        refine lv_bipush (v := 16) hx hb dJ6_numberOfLeadingZeros_0f7a4_49 (by decide) ?_
        refine lv_icmp_lt (tgt := 61) hx hb dJ6_numberOfLeadingZeros_0f7a4_51 (by decide) (fun c15 => ?_) (fun c15 => ?_)
        · have h := ite_t c15 h
          refine lv_iload_n hx hb dJ6_numberOfLeadingZeros_0f7a4_61 rfl (lv_at hl 0 rfl) ?_
          refine lv_iconst (v := 4) hx hb dJ6_numberOfLeadingZeros_0f7a4_62 (by decide) ?_
          refine lv_icmp_lt (tgt := 73) hx hb dJ6_numberOfLeadingZeros_0f7a4_63 (by decide) (fun c16 => ?_) (fun c16 => ?_)
          · have h := ite_t c16 h
            refine lv_iload_n hx hb dJ6_numberOfLeadingZeros_0f7a4_73 rfl (lv_at hl 1 rfl) ?_
            refine lv_iload_n hx hb dJ6_numberOfLeadingZeros_0f7a4_74 rfl (lv_at hl 0 rfl) ?_
            refine lv_iconst (v := 1) hx hb dJ6_numberOfLeadingZeros_0f7a4_75 (by decide) ?_
            refine lv_iushr (v := jiushr w14 1) hx hb dJ6_numberOfLeadingZeros_0f7a4_76 rfl ?_
            refine lv_isub hx hb dJ6_numberOfLeadingZeros_0f7a4_77 ?_
            exact reI hx hb hr hlocks h dJ6_numberOfLeadingZeros_0f7a4_78
          · have h := ite_f c16 h
            obtain ⟨w17, ew17, h⟩ := bnd_s h
            refine lv_iinc (v := w17) (lv' := [(1, .int w17), (0, .int w14)]) hx hb dJ6_numberOfLeadingZeros_0f7a4_66 hl (k := 1) rfl (by rw [ew17]; rfl) (by decide) rfl (fun ls hl => ?_)
            refine lv_iload_n hx hb dJ6_numberOfLeadingZeros_0f7a4_69 rfl (lv_at hl 1 rfl) ?_
            refine lv_iconst (v := 2) hx hb dJ6_numberOfLeadingZeros_0f7a4_70 (by decide) ?_
            refine lv_iushr (v := jiushr w14 2) hx hb dJ6_numberOfLeadingZeros_0f7a4_71 rfl ?_
            obtain ⟨w18, ew18, h⟩ := bnd_s h
            refine ti ew18.symm ?_
            refine lv_istore_n (lv' := [(0, .int w18), (1, .int w17)]) hx hb dJ6_numberOfLeadingZeros_0f7a4_72 rfl hl (by decide) rfl (fun ls hl => ?_)
            refine lv_iload_n hx hb dJ6_numberOfLeadingZeros_0f7a4_73 rfl (lv_at hl 1 rfl) ?_
            refine lv_iload_n hx hb dJ6_numberOfLeadingZeros_0f7a4_74 rfl (lv_at hl 0 rfl) ?_
            refine lv_iconst (v := 1) hx hb dJ6_numberOfLeadingZeros_0f7a4_75 (by decide) ?_
            refine lv_iushr (v := jiushr w18 1) hx hb dJ6_numberOfLeadingZeros_0f7a4_76 rfl ?_
            refine lv_isub hx hb dJ6_numberOfLeadingZeros_0f7a4_77 ?_
            exact reI hx hb hr hlocks h dJ6_numberOfLeadingZeros_0f7a4_78
        · have h := ite_f c15 h
          obtain ⟨w19, ew19, h⟩ := bnd_s h
          refine lv_iinc (v := w19) (lv' := [(1, .int w19), (0, .int w14)]) hx hb dJ6_numberOfLeadingZeros_0f7a4_54 hl (k := 1) rfl (by rw [ew19]; rfl) (by decide) rfl (fun ls hl => ?_)
          refine lv_iload_n hx hb dJ6_numberOfLeadingZeros_0f7a4_57 rfl (lv_at hl 1 rfl) ?_
          refine lv_iconst (v := 4) hx hb dJ6_numberOfLeadingZeros_0f7a4_58 (by decide) ?_
          refine lv_iushr (v := jiushr w14 4) hx hb dJ6_numberOfLeadingZeros_0f7a4_59 rfl ?_
          obtain ⟨w20, ew20, h⟩ := bnd_s h
          refine ti ew20.symm ?_
          refine lv_istore_n (lv' := [(0, .int w20), (1, .int w19)]) hx hb dJ6_numberOfLeadingZeros_0f7a4_60 rfl hl (by decide) rfl (fun ls hl => ?_)
          refine lv_iload_n hx hb dJ6_numberOfLeadingZeros_0f7a4_61 rfl (lv_at hl 0 rfl) ?_
          refine lv_iconst (v := 4) hx hb dJ6_numberOfLeadingZeros_0f7a4_62 (by decide) ?_
          refine lv_icmp_lt (tgt := 73) hx hb dJ6_numberOfLeadingZeros_0f7a4_63 (by decide) (fun c21 => ?_) (fun c21 => ?_)
          · have h := ite_t c21 h
            refine lv_iload_n hx hb dJ6_numberOfLeadingZeros_0f7a4_73 rfl (lv_at hl 1 rfl) ?_
            refine lv_iload_n hx hb dJ6_numberOfLeadingZeros_0f7a4_74 rfl (lv_at hl 0 rfl) ?_
            refine lv_iconst (v := 1) hx hb dJ6_numberOfLeadingZeros_0f7a4_75 (by decide) ?_
            refine lv_iushr (v := jiushr w20 1) hx hb dJ6_numberOfLeadingZeros_0f7a4_76 rfl ?_
            refine lv_isub hx hb dJ6_numberOfLeadingZeros_0f7a4_77 ?_
            exact reI hx hb hr hlocks h dJ6_numberOfLeadingZeros_0f7a4_78
          · have h := ite_f c21 h
            obtain ⟨w22, ew22, h⟩ := bnd_s h
            refine lv_iinc (v := w22) (lv' := [(1, .int w22), (0, .int w20)]) hx hb dJ6_numberOfLeadingZeros_0f7a4_66 hl (k := 1) rfl (by rw [ew22]; rfl) (by decide) rfl (fun ls hl => ?_)
            refine lv_iload_n hx hb dJ6_numberOfLeadingZeros_0f7a4_69 rfl (lv_at hl 1 rfl) ?_
            refine lv_iconst (v := 2) hx hb dJ6_numberOfLeadingZeros_0f7a4_70 (by decide) ?_
            refine lv_iushr (v := jiushr w20 2) hx hb dJ6_numberOfLeadingZeros_0f7a4_71 rfl ?_
            obtain ⟨w23, ew23, h⟩ := bnd_s h
            refine ti ew23.symm ?_
            refine lv_istore_n (lv' := [(0, .int w23), (1, .int w22)]) hx hb dJ6_numberOfLeadingZeros_0f7a4_72 rfl hl (by decide) rfl (fun ls hl => ?_)
            refine lv_iload_n hx hb dJ6_numberOfLeadingZeros_0f7a4_73 rfl (lv_at hl 1 rfl) ?_
            refine lv_iload_n hx hb dJ6_numberOfLeadingZeros_0f7a4_74 rfl (lv_at hl 0 rfl) ?_
            refine lv_iconst (v := 1) hx hb dJ6_numberOfLeadingZeros_0f7a4_75 (by decide) ?_
            refine lv_iushr (v := jiushr w23 1) hx hb dJ6_numberOfLeadingZeros_0f7a4_76 rfl ?_
            refine lv_isub hx hb dJ6_numberOfLeadingZeros_0f7a4_77 ?_
            exact reI hx hb hr hlocks h dJ6_numberOfLeadingZeros_0f7a4_78
    · have h := ite_f c2 h
      obtain ⟨w24, ew24, h⟩ := bnd_s h
      refine lv_iinc (v := w24) (lv' := [(1, .int w24), (0, .int q0)]) hx hb dJ6_numberOfLeadingZeros_0f7a4_25 hl (k := 0) rfl (by rw [ew24]; rfl) (by decide) rfl (fun ls hl => ?_)
      refine lv_iload_n hx hb dJ6_numberOfLeadingZeros_0f7a4_28 rfl (lv_at hl 1 rfl) ?_
      refine lv_bipush (v := 16) hx hb dJ6_numberOfLeadingZeros_0f7a4_29 (by decide) ?_
      refine lv_iushr (v := jiushr q0 16) hx hb dJ6_numberOfLeadingZeros_0f7a4_31 rfl ?_
      obtain ⟨w25, ew25, h⟩ := bnd_s h
      refine ti ew25.symm ?_
      refine lv_istore_n (lv' := [(0, .int w25), (1, .int w24)]) hx hb dJ6_numberOfLeadingZeros_0f7a4_32 rfl hl (by decide) rfl (fun ls hl => ?_)
      refine lv_iload_n hx hb dJ6_numberOfLeadingZeros_0f7a4_33 rfl (lv_at hl 0 rfl) ?_
      refine lv_sipush (v := 256) hx hb dJ6_numberOfLeadingZeros_0f7a4_34 (by decide) ?_
      refine lv_icmp_lt (tgt := 48) hx hb dJ6_numberOfLeadingZeros_0f7a4_37 (by decide) (fun c26 => ?_) (fun c26 => ?_)
      · have h := ite_t c26 h
        refine lv_iload_n hx hb dJ6_numberOfLeadingZeros_0f7a4_48 rfl (lv_at hl 0 rfl) ?_
        refine lv_bipush (v := 16) hx hb dJ6_numberOfLeadingZeros_0f7a4_49 (by decide) ?_
        refine lv_icmp_lt (tgt := 61) hx hb dJ6_numberOfLeadingZeros_0f7a4_51 (by decide) (fun c27 => ?_) (fun c27 => ?_)
        · have h := ite_t c27 h
          refine lv_iload_n hx hb dJ6_numberOfLeadingZeros_0f7a4_61 rfl (lv_at hl 0 rfl) ?_
          refine lv_iconst (v := 4) hx hb dJ6_numberOfLeadingZeros_0f7a4_62 (by decide) ?_
          refine lv_icmp_lt (tgt := 73) hx hb dJ6_numberOfLeadingZeros_0f7a4_63 (by decide) (fun c28 => ?_) (fun c28 => ?_)
          · have h := ite_t c28 h
            refine lv_iload_n hx hb dJ6_numberOfLeadingZeros_0f7a4_73 rfl (lv_at hl 1 rfl) ?_
            refine lv_iload_n hx hb dJ6_numberOfLeadingZeros_0f7a4_74 rfl (lv_at hl 0 rfl) ?_
            refine lv_iconst (v := 1) hx hb dJ6_numberOfLeadingZeros_0f7a4_75 (by decide) ?_
            refine lv_iushr (v := jiushr w25 1) hx hb dJ6_numberOfLeadingZeros_0f7a4_76 rfl ?_
            refine lv_isub hx hb dJ6_numberOfLeadingZeros_0f7a4_77 ?_
            exact reI hx hb hr hlocks h dJ6_numberOfLeadingZeros_0f7a4_78
          · have h := ite_f c28 h
            obtain ⟨w29, ew29, h⟩ := bnd_s h
            refine lv_iinc (v := w29) (lv' := [(1, .int w29), (0, .int w25)]) hx hb dJ6_numberOfLeadingZeros_0f7a4_66 hl (k := 1) rfl (by rw [ew29]; rfl) (by decide) rfl (fun ls hl => ?_)
            refine lv_iload_n hx hb dJ6_numberOfLeadingZeros_0f7a4_69 rfl (lv_at hl 1 rfl) ?_
            refine lv_iconst (v := 2) hx hb dJ6_numberOfLeadingZeros_0f7a4_70 (by decide) ?_
            refine lv_iushr (v := jiushr w25 2) hx hb dJ6_numberOfLeadingZeros_0f7a4_71 rfl ?_
            obtain ⟨w30, ew30, h⟩ := bnd_s h
            refine ti ew30.symm ?_
            refine lv_istore_n (lv' := [(0, .int w30), (1, .int w29)]) hx hb dJ6_numberOfLeadingZeros_0f7a4_72 rfl hl (by decide) rfl (fun ls hl => ?_)
            refine lv_iload_n hx hb dJ6_numberOfLeadingZeros_0f7a4_73 rfl (lv_at hl 1 rfl) ?_
            refine lv_iload_n hx hb dJ6_numberOfLeadingZeros_0f7a4_74 rfl (lv_at hl 0 rfl) ?_
            refine lv_iconst (v := 1) hx hb dJ6_numberOfLeadingZeros_0f7a4_75 (by decide) ?_
            refine lv_iushr (v := jiushr w30 1) hx hb dJ6_numberOfLeadingZeros_0f7a4_76 rfl ?_
            refine lv_isub hx hb dJ6_numberOfLeadingZeros_0f7a4_77 ?_
            exact reI hx hb hr hlocks h dJ6_numberOfLeadingZeros_0f7a4_78
        · have h := ite_f c27 h
          obtain ⟨w31, ew31, h⟩ := bnd_s h
          refine lv_iinc (v := w31) (lv' := [(1, .int w31), (0, .int w25)]) hx hb dJ6_numberOfLeadingZeros_0f7a4_54 hl (k := 1) rfl (by rw [ew31]; rfl) (by decide) rfl (fun ls hl => ?_)
          refine lv_iload_n hx hb dJ6_numberOfLeadingZeros_0f7a4_57 rfl (lv_at hl 1 rfl) ?_
          refine lv_iconst (v := 4) hx hb dJ6_numberOfLeadingZeros_0f7a4_58 (by decide) ?_
          refine lv_iushr (v := jiushr w25 4) hx hb dJ6_numberOfLeadingZeros_0f7a4_59 rfl ?_
          obtain ⟨w32, ew32, h⟩ := bnd_s h
          refine ti ew32.symm ?_
          refine lv_istore_n (lv' := [(0, .int w32), (1, .int w31)]) hx hb dJ6_numberOfLeadingZeros_0f7a4_60 rfl hl (by decide) rfl (fun ls hl => ?_)
          refine lv_iload_n hx hb dJ6_numberOfLeadingZeros_0f7a4_61 rfl (lv_at hl 0 rfl) ?_
          refine lv_iconst (v := 4) hx hb dJ6_numberOfLeadingZeros_0f7a4_62 (by decide) ?_
          refine lv_icmp_lt (tgt := 73) hx hb dJ6_numberOfLeadingZeros_0f7a4_63 (by decide) (fun c33 => ?_) (fun c33 => ?_)
          · have h := ite_t c33 h
            refine lv_iload_n hx hb dJ6_numberOfLeadingZeros_0f7a4_73 rfl (lv_at hl 1 rfl) ?_
            refine lv_iload_n hx hb dJ6_numberOfLeadingZeros_0f7a4_74 rfl (lv_at hl 0 rfl) ?_
            refine lv_iconst (v := 1) hx hb dJ6_numberOfLeadingZeros_0f7a4_75 (by decide) ?_
            refine lv_iushr (v := jiushr w32 1) hx hb dJ6_numberOfLeadingZeros_0f7a4_76 rfl ?_
            refine lv_isub hx hb dJ6_numberOfLeadingZeros_0f7a4_77 ?_
            exact reI hx hb hr hlocks h dJ6_numberOfLeadingZeros_0f7a4_78
          · have h := ite_f c33 h
            obtain ⟨w34, ew34, h⟩ := bnd_s h
            refine lv_iinc (v := w34) (lv' := [(1, .int w34), (0, .int w32)]) hx hb dJ6_numberOfLeadingZeros_0f7a4_66 hl (k := 1) rfl (by rw [ew34]; rfl) (by decide) rfl (fun ls hl => ?_)
            refine lv_iload_n hx hb dJ6_numberOfLeadingZeros_0f7a4_69 rfl (lv_at hl 1 rfl) ?_
            refine lv_iconst (v := 2) hx hb dJ6_numberOfLeadingZeros_0f7a4_70 (by decide) ?_
            refine lv_iushr (v := jiushr w32 2) hx hb dJ6_numberOfLeadingZeros_0f7a4_71 rfl ?_
            obtain ⟨w35, ew35, h⟩ := bnd_s h
            refine ti ew35.symm ?_
            refine lv_istore_n (lv' := [(0, .int w35), (1, .int w34)]) hx hb dJ6_numberOfLeadingZeros_0f7a4_72 rfl hl (by decide) rfl (fun ls hl => ?_)
            refine lv_iload_n hx hb dJ6_numberOfLeadingZeros_0f7a4_73 rfl (lv_at hl 1 rfl) ?_
            refine lv_iload_n hx hb dJ6_numberOfLeadingZeros_0f7a4_74 rfl (lv_at hl 0 rfl) ?_
            refine lv_iconst (v := 1) hx hb dJ6_numberOfLeadingZeros_0f7a4_75 (by decide) ?_
            refine lv_iushr (v := jiushr w35 1) hx hb dJ6_numberOfLeadingZeros_0f7a4_76 rfl ?_
            refine lv_isub hx hb dJ6_numberOfLeadingZeros_0f7a4_77 ?_
            exact reI hx hb hr hlocks h dJ6_numberOfLeadingZeros_0f7a4_78
      · have h := ite_f c26 h
        obtain ⟨w36, ew36, h⟩ := bnd_s h
        refine lv_iinc (v := w36) (lv' := [(1, .int w36), (0, .int w25)]) hx hb dJ6_numberOfLeadingZeros_0f7a4_40 hl (k := 1) rfl (by rw [ew36]; rfl) (by decide) rfl (fun ls hl => ?_)
        refine lv_iload_n hx hb dJ6_numberOfLeadingZeros_0f7a4_43 rfl (lv_at hl 1 rfl) ?_
        refine lv_bipush (v := 8) hx hb dJ6_numberOfLeadingZeros_0f7a4_44 (by decide) ?_
        refine lv_iushr (v := jiushr w25 8) hx hb dJ6_numberOfLeadingZeros_0f7a4_46 rfl ?_
        obtain ⟨w37, ew37, h⟩ := bnd_s h
        refine ti ew37.symm ?_
        refine lv_istore_n (lv' := [(0, .int w37), (1, .int w36)]) hx hb dJ6_numberOfLeadingZeros_0f7a4_47 rfl hl (by decide) rfl (fun ls hl => ?_)
        refine lv_iload_n hx hb dJ6_numberOfLeadingZeros_0f7a4_48 rfl (lv_at hl 0 rfl) ?_
        refine lv_bipush (v := 16) hx hb dJ6_numberOfLeadingZeros_0f7a4_49 (by decide) ?_
        refine lv_icmp_lt (tgt := 61) hx hb dJ6_numberOfLeadingZeros_0f7a4_51 (by decide) (fun c38 => ?_) (fun c38 => ?_)
        · have h := ite_t c38 h
          refine lv_iload_n hx hb dJ6_numberOfLeadingZeros_0f7a4_61 rfl (lv_at hl 0 rfl) ?_
          refine lv_iconst (v := 4) hx hb dJ6_numberOfLeadingZeros_0f7a4_62 (by decide) ?_
          refine lv_icmp_lt (tgt := 73) hx hb dJ6_numberOfLeadingZeros_0f7a4_63 (by decide) (fun c39 => ?_) (fun c39 => ?_)
          · have h := ite_t c39 h
            refine lv_iload_n hx hb dJ6_numberOfLeadingZeros_0f7a4_73 rfl (lv_at hl 1 rfl) ?_
            refine lv_iload_n hx hb dJ6_numberOfLeadingZeros_0f7a4_74 rfl (lv_at hl 0 rfl) ?_
            refine lv_iconst (v := 1) hx hb dJ6_numberOfLeadingZeros_0f7a4_75 (by decide) ?_
            refine lv_iushr (v := jiushr w37 1) hx hb dJ6_numberOfLeadingZeros_0f7a4_76 rfl ?_
            refine lv_isub hx hb dJ6_numberOfLeadingZeros_0f7a4_77 ?_
            exact reI hx hb hr hlocks h dJ6_numberOfLeadingZeros_0f7a4_78
          · have h := ite_f c39 h
            obtain ⟨w40, ew40, h⟩ := bnd_s h
            refine lv_iinc (v := w40) (lv' := [(1, .int w40), (0, .int w37)]) hx hb dJ6_numberOfLeadingZeros_0f7a4_66 hl (k := 1) rfl (by rw [ew40]; rfl) (by decide) rfl (fun ls hl => ?_)
            refine lv_iload_n hx hb dJ6_numberOfLeadingZeros_0f7a4_69 rfl (lv_at hl 1 rfl) ?_
            refine lv_iconst (v := 2) hx hb dJ6_numberOfLeadingZeros_0f7a4_70 (by decide) ?_
            refine lv_iushr (v := jiushr w37 2) hx hb dJ6_numberOfLeadingZeros_0f7a4_71 rfl ?_
            obtain ⟨w41, ew41, h⟩ := bnd_s h
            refine ti ew41.symm ?_
            refine lv_istore_n (lv' := [(0, .int w41), (1, .int w40)]) hx hb dJ6_numberOfLeadingZeros_0f7a4_72 rfl hl (by decide) rfl (fun ls hl => ?_)
            refine lv_iload_n hx hb dJ6_numberOfLeadingZeros_0f7a4_73 rfl (lv_at hl 1 rfl) ?_
            refine lv_iload_n hx hb dJ6_numberOfLeadingZeros_0f7a4_74 rfl (lv_at hl 0 rfl) ?_
            refine lv_iconst (v := 1) hx hb dJ6_numberOfLeadingZeros_0f7a4_75 (by decide) ?_
            refine lv_iushr (v := jiushr w41 1) hx hb dJ6_numberOfLeadingZeros_0f7a4_76 rfl ?_
            refine lv_isub hx hb dJ6_numberOfLeadingZeros_0f7a4_77 ?_
            exact reI hx hb hr hlocks h dJ6_numberOfLeadingZeros_0f7a4_78
        · have h := ite_f c38 h
          obtain ⟨w42, ew42, h⟩ := bnd_s h
          refine lv_iinc (v := w42) (lv' := [(1, .int w42), (0, .int w37)]) hx hb dJ6_numberOfLeadingZeros_0f7a4_54 hl (k := 1) rfl (by rw [ew42]; rfl) (by decide) rfl (fun ls hl => ?_)
          refine lv_iload_n hx hb dJ6_numberOfLeadingZeros_0f7a4_57 rfl (lv_at hl 1 rfl) ?_
          refine lv_iconst (v := 4) hx hb dJ6_numberOfLeadingZeros_0f7a4_58 (by decide) ?_
          refine lv_iushr (v := jiushr w37 4) hx hb dJ6_numberOfLeadingZeros_0f7a4_59 rfl ?_
          obtain ⟨w43, ew43, h⟩ := bnd_s h
          refine ti ew43.symm ?_
          refine lv_istore_n (lv' := [(0, .int w43), (1, .int w42)]) hx hb dJ6_numberOfLeadingZeros_0f7a4_60 rfl hl (by decide) rfl (fun ls hl => ?_)
          refine lv_iload_n hx hb dJ6_numberOfLeadingZeros_0f7a4_61 rfl (lv_at hl 0 rfl) ?_
          refine lv_iconst (v := 4) hx hb dJ6_numberOfLeadingZeros_0f7a4_62 (by decide) ?_
          refine lv_icmp_lt (tgt := 73) hx hb dJ6_numberOfLeadingZeros_0f7a4_63 (by decide) (fun c44 => ?_) (fun c44 => ?_)
          · have h := ite_t c44 h
            refine lv_iload_n hx hb dJ6_numberOfLeadingZeros_0f7a4_73 rfl (lv_at hl 1 rfl) ?_
            refine lv_iload_n hx hb dJ6_numberOfLeadingZeros_0f7a4_74 rfl (lv_at hl 0 rfl) ?_
            refine lv_iconst (v := 1) hx hb dJ6_numberOfLeadingZeros_0f7a4_75 (by decide) ?_
            refine lv_iushr (v := jiushr w43 1) hx hb dJ6_numberOfLeadingZeros_0f7a4_76 rfl ?_
            refine lv_isub hx hb dJ6_numberOfLeadingZeros_0f7a4_77 ?_
            exact reI hx hb hr hlocks h dJ6_numberOfLeadingZeros_0f7a4_78
          · have h := ite_f c44 h
            obtain ⟨w45, ew45, h⟩ := bnd_s h
            refine lv_iinc (v := w45) (lv' := [(1, .int w45), (0, .int w43)]) hx hb dJ6_numberOfLeadingZeros_0f7a4_66 hl (k := 1) rfl (by rw [ew45]; rfl) (by decide) rfl (fun ls hl => ?_)
            refine lv_iload_n hx hb dJ6_numberOfLeadingZeros_0f7a4_69 rfl (lv_at hl 1 rfl) ?_
            refine lv_iconst (v := 2) hx hb dJ6_numberOfLeadingZeros_0f7a4_70 (by decide) ?_
            refine lv_iushr (v := jiushr w43 2) hx hb dJ6_numberOfLeadingZeros_0f7a4_71 rfl ?_
            obtain ⟨w46, ew46, h⟩ := bnd_s h
            refine ti ew46.symm ?_
            refine lv_istore_n (lv' := [(0, .int w46), (1, .int w45)]) hx hb dJ6_numberOfLeadingZeros_0f7a4_72 rfl hl (by decide) rfl (fun ls hl => ?_)
            refine lv_iload_n hx hb dJ6_numberOfLeadingZeros_0f7a4_73 rfl (lv_at hl 1 rfl) ?_
            refine lv_iload_n hx hb dJ6_numberOfLeadingZeros_0f7a4_74 rfl (lv_at hl 0 rfl) ?_
            refine lv_iconst (v := 1) hx hb dJ6_numberOfLeadingZeros_0f7a4_75 (by decide) ?_
            refine lv_iushr (v := jiushr w46 1) hx hb dJ6_numberOfLeadingZeros_0f7a4_76 rfl ?_
            refine lv_isub hx hb dJ6_numberOfLeadingZeros_0f7a4_77 ?_
            exact reI hx hb hr hlocks h dJ6_numberOfLeadingZeros_0f7a4_78
  · have h := ite_f c1 h
    refine lv_iload_n hx hb dJ6_numberOfLeadingZeros_0f7a4_4 rfl (lv_at hl 0 rfl) ?_
    refine lv_if_ne (tgt := 13) hx hb dJ6_numberOfLeadingZeros_0f7a4_5 (by decide) (fun c47 => ?_) (fun c47 => ?_)
    · have h := ite_f c47 h
      refine lv_iconst (v := 0) hx hb dJ6_numberOfLeadingZeros_0f7a4_13 (by decide) ?_
      exact reI hx hb hr hlocks h dJ6_numberOfLeadingZeros_0f7a4_14
    · have h := ite_t c47 h
      refine lv_bipush (v := 32) hx hb dJ6_numberOfLeadingZeros_0f7a4_8 (by decide) ?_
      refine lv_goto (tgt := 14) hx hb dJ6_numberOfLeadingZeros_0f7a4_10 (by decide) ?_
      exact reI hx hb hr hlocks h dJ6_numberOfLeadingZeros_0f7a4_14
def fJ13_numberOfLeadingZeros_95d88  (q0 : Int64) : Option (Int32) :=
  bnd ((jushr q0 32).toInt32) fun w1 =>
  if w1 = 0 then
    (fJ6_numberOfLeadingZeros_0f7a4 q0.toInt32).bind fun r5 =>
    some (32 + r5)
  else
    (fJ6_numberOfLeadingZeros_0f7a4 w1).bind fun r3 =>
    some r3
abbrev rmJ13_numberOfLeadingZeros_95d88 : Room := { frames := 1, cells := 0, slots := 0, locals := 21 }
theorem hdJ13_numberOfLeadingZeros_95d88 : KN yJ13_numberOfLeadingZeros_95d88 1 := by decide +kernel
set_option maxHeartbeats 4000000 in
set_option maxRecDepth 100000 in
theorem kJ13_numberOfLeadingZeros_95d88 (l : Launch) (D : va_G) (cJ cZ : ClassId) (q0 : Int64) (rr : Int32) (h : fJ13_numberOfLeadingZeros_95d88 q0 = some rr) : Met l yJ13_numberOfLeadingZeros_95d88 wsJ13_numberOfLeadingZeros_95d88 rmJ13_numberOfLeadingZeros_95d88 (PP D cJ cZ [.long q0] []) (SI rr) 0 0 (fun _ => False) := by
  refine Met.ofW (cc := cJ13_numberOfLeadingZeros_95d88) (maxL := 3) (ret := some .int) (by decide) rfl ?_
  intro pg e s m args below meth c s₁ B hml hv
  obtain ⟨rfl, hP, hE⟩ := hv
  have hx := B.exec
  have hb := B.bytes
  have hr := B.returns
  have hlocks := B.notSynchronized
  have C0 : CallFix pg m c cJ13_numberOfLeadingZeros_95d88 3 s ([.long q0] : List Value).toArray wsJ13_numberOfLeadingZeros_95d88 RJ13 := ⟨hx, hb, hml, findClass_of_methodNamed B.named, atoms_spec (ws := wsJ13_numberOfLeadingZeros_95d88) B.pre⟩
  have hown := C0.2.2.2.1
  have hts := C0.2.2.2.2
  have hl := lv_entry ([.long q0]) (n := 3) (Nat.le_of_ble_eq_true rfl)
  rw [lg_entry_eq]
  generalize (lg_sl ([.long q0]) ++ List.replicate (3 - (lg_sl ([.long q0])).length) Slot.unset).toArray = ls at hl ⊢
  have hl : lv_has ls 3 [(0, .long q0)] := hl
  unfold fJ13_numberOfLeadingZeros_95d88 at h
  refine lv_lload_n hx hb dJ13_numberOfLeadingZeros_95d88_0 rfl (lv_at hl 0 rfl) ?_
  refine lv_bipush (v := 32) hx hb dJ13_numberOfLeadingZeros_95d88_1 (by decide) ?_
  refine lv_lushr (v := jushr q0 32) hx hb dJ13_numberOfLeadingZeros_95d88_3 rfl ?_
  refine lv_l2i (v := (jushr q0 32).toInt32) hx hb dJ13_numberOfLeadingZeros_95d88_4 rfl ?_
  obtain ⟨w1, ew1, h⟩ := bnd_s h
  refine ti ew1.symm ?_
  refine lv_istore_n (lv' := [(2, .int w1), (0, .long q0)]) hx hb dJ13_numberOfLeadingZeros_95d88_5 rfl hl (by decide) rfl (fun ls hl => ?_)
  refine lv_iload_n hx hb dJ13_numberOfLeadingZeros_95d88_6 rfl (lv_at hl 0 rfl) ?_
  refine lv_if_ne (tgt := 21) hx hb dJ13_numberOfLeadingZeros_95d88_7 (by decide) (fun c2 => ?_) (fun c2 => ?_)
  · have h := ite_f c2 h
    refine lv_iload_n hx hb dJ13_numberOfLeadingZeros_95d88_21 rfl (lv_at hl 0 rfl) ?_
    obtain ⟨r3, h4, h⟩ := bind_s h
    refine ki (kS (As := [.int w1]) (rest := []) C0 (kJ6_numberOfLeadingZeros_0f7a4 l D cJ cZ w1 r3 h4) gJ13_numberOfLeadingZeros_95d88_J6_numberOfLeadingZeros_0f7a4 rfl ⟨rfl, rfl⟩ hdJ6_numberOfLeadingZeros_0f7a4 ⟨Nat.le_of_ble_eq_true rfl, Nat.le_of_ble_eq_true rfl⟩ hP hE hl rfl rfl (Nat.le_of_ble_eq_true rfl) dJ13_numberOfLeadingZeros_95d88_22 (Nat.zero_le _) (Nat.zero_le _)) ?_
    exact reI hx hb hr hlocks h dJ13_numberOfLeadingZeros_95d88_25
  · have h := ite_t c2 h
    refine lv_bipush (v := 32) hx hb dJ13_numberOfLeadingZeros_95d88_10 (by decide) ?_
    refine lv_lload_n hx hb dJ13_numberOfLeadingZeros_95d88_12 rfl (lv_at hl 1 rfl) ?_
    refine lv_l2i (v := q0.toInt32) hx hb dJ13_numberOfLeadingZeros_95d88_13 rfl ?_
    obtain ⟨r5, h6, h⟩ := bind_s h
    refine ki (kS (As := [.int q0.toInt32]) (rest := [.int 32]) C0 (kJ6_numberOfLeadingZeros_0f7a4 l D cJ cZ q0.toInt32 r5 h6) gJ13_numberOfLeadingZeros_95d88_J6_numberOfLeadingZeros_0f7a4 rfl ⟨rfl, rfl⟩ hdJ6_numberOfLeadingZeros_0f7a4 ⟨Nat.le_of_ble_eq_true rfl, Nat.le_of_ble_eq_true rfl⟩ hP hE hl rfl rfl (Nat.le_of_ble_eq_true rfl) dJ13_numberOfLeadingZeros_95d88_14 (Nat.zero_le _) (Nat.zero_le _)) ?_
    refine lv_iadd hx hb dJ13_numberOfLeadingZeros_95d88_17 ?_
    refine lv_goto (tgt := 25) hx hb dJ13_numberOfLeadingZeros_95d88_18 (by decide) ?_
    exact reI hx hb hr hlocks h dJ13_numberOfLeadingZeros_95d88_25
def fJ13_bitCount_95d88  (q0 : Int64) : Option (Int32) :=
  bnd (q0 - ((jushr q0 1) &&& 6148914691236517205)) fun w1 =>
  bnd ((w1 &&& 3689348814741910323) + ((jushr w1 2) &&& 3689348814741910323)) fun w2 =>
  bnd ((w2 + (jushr w2 4)) &&& 1085102592571150095) fun w3 =>
  bnd (w3 + (jushr w3 8)) fun w4 =>
  bnd (w4 + (jushr w4 16)) fun w5 =>
  bnd (w5 + (jushr w5 32)) fun w6 =>
  some (w6.toInt32 &&& 127)
abbrev rmJ13_bitCount_95d88 : Room := { frames := 0, cells := 0, slots := 0, locals := 0 }
theorem lkJ13_bitCount_95d88_0 : (.constantLong RJ13 314 (6148914691236517205) : Cond) ∈ wsJ13_bitCount_95d88 := by decide +kernel
theorem lkJ13_bitCount_95d88_1 : (.constantLong RJ13 316 (3689348814741910323) : Cond) ∈ wsJ13_bitCount_95d88 := by decide +kernel
theorem lkJ13_bitCount_95d88_2 : (.constantLong RJ13 318 (1085102592571150095) : Cond) ∈ wsJ13_bitCount_95d88 := by decide +kernel
theorem hdJ13_bitCount_95d88 : KN yJ13_bitCount_95d88 1 := by decide +kernel
set_option maxHeartbeats 4000000 in
set_option maxRecDepth 100000 in
theorem kJ13_bitCount_95d88 (l : Launch) (D : va_G) (cJ cZ : ClassId) (q0 : Int64) (rr : Int32) (h : fJ13_bitCount_95d88 q0 = some rr) : Met l yJ13_bitCount_95d88 wsJ13_bitCount_95d88 rmJ13_bitCount_95d88 (PP D cJ cZ [.long q0] []) (SI rr) 0 0 (fun _ => False) := by
  refine Met.ofW (cc := cJ13_bitCount_95d88) (maxL := 2) (ret := some .int) (by decide) rfl ?_
  intro pg e s m args below meth c s₁ B hml hv
  obtain ⟨rfl, hP, hE⟩ := hv
  have hx := B.exec
  have hb := B.bytes
  have hr := B.returns
  have hlocks := B.notSynchronized
  have C0 : CallFix pg m c cJ13_bitCount_95d88 2 s ([.long q0] : List Value).toArray wsJ13_bitCount_95d88 RJ13 := ⟨hx, hb, hml, findClass_of_methodNamed B.named, atoms_spec (ws := wsJ13_bitCount_95d88) B.pre⟩
  have hown := C0.2.2.2.1
  have hts := C0.2.2.2.2
  have hl := lv_entry ([.long q0]) (n := 2) (Nat.le_of_ble_eq_true rfl)
  rw [lg_entry_eq]
  generalize (lg_sl ([.long q0]) ++ List.replicate (2 - (lg_sl ([.long q0])).length) Slot.unset).toArray = ls at hl ⊢
  have hl : lv_has ls 2 [(0, .long q0)] := hl
  unfold fJ13_bitCount_95d88 at h
  refine lv_lload_n hx hb dJ13_bitCount_95d88_0 rfl (lv_at hl 0 rfl) ?_
  refine lv_lload_n hx hb dJ13_bitCount_95d88_1 rfl (lv_at hl 0 rfl) ?_
  refine lv_iconst (v := 1) hx hb dJ13_bitCount_95d88_2 (by decide) ?_
  refine lv_lushr (v := jushr q0 1) hx hb dJ13_bitCount_95d88_3 rfl ?_
  refine lv_ldc2 (v := 6148914691236517205) hx hb hown (hts _ lkJ13_bitCount_95d88_0) dJ13_bitCount_95d88_4 ?_
  refine lv_land hx hb dJ13_bitCount_95d88_7 ?_
  refine lv_lsub hx hb dJ13_bitCount_95d88_8 ?_
  obtain ⟨w1, ew1, h⟩ := bnd_s h
  refine tl ew1.symm ?_
  refine lv_lstore_n (lv' := [(0, .long w1)]) hx hb dJ13_bitCount_95d88_9 rfl hl (by decide) rfl (fun ls hl => ?_)
  refine lv_lload_n hx hb dJ13_bitCount_95d88_10 rfl (lv_at hl 0 rfl) ?_
  refine lv_ldc2 (v := 3689348814741910323) hx hb hown (hts _ lkJ13_bitCount_95d88_1) dJ13_bitCount_95d88_11 ?_
  refine lv_land hx hb dJ13_bitCount_95d88_14 ?_
  refine lv_lload_n hx hb dJ13_bitCount_95d88_15 rfl (lv_at hl 0 rfl) ?_
  refine lv_iconst (v := 2) hx hb dJ13_bitCount_95d88_16 (by decide) ?_
  refine lv_lushr (v := jushr w1 2) hx hb dJ13_bitCount_95d88_17 rfl ?_
  refine lv_ldc2 (v := 3689348814741910323) hx hb hown (hts _ lkJ13_bitCount_95d88_1) dJ13_bitCount_95d88_18 ?_
  refine lv_land hx hb dJ13_bitCount_95d88_21 ?_
  refine lv_ladd hx hb dJ13_bitCount_95d88_22 ?_
  obtain ⟨w2, ew2, h⟩ := bnd_s h
  refine tl ew2.symm ?_
  refine lv_lstore_n (lv' := [(0, .long w2)]) hx hb dJ13_bitCount_95d88_23 rfl hl (by decide) rfl (fun ls hl => ?_)
  refine lv_lload_n hx hb dJ13_bitCount_95d88_24 rfl (lv_at hl 0 rfl) ?_
  refine lv_lload_n hx hb dJ13_bitCount_95d88_25 rfl (lv_at hl 0 rfl) ?_
  refine lv_iconst (v := 4) hx hb dJ13_bitCount_95d88_26 (by decide) ?_
  refine lv_lushr (v := jushr w2 4) hx hb dJ13_bitCount_95d88_27 rfl ?_
  refine lv_ladd hx hb dJ13_bitCount_95d88_28 ?_
  refine lv_ldc2 (v := 1085102592571150095) hx hb hown (hts _ lkJ13_bitCount_95d88_2) dJ13_bitCount_95d88_29 ?_
  refine lv_land hx hb dJ13_bitCount_95d88_32 ?_
  obtain ⟨w3, ew3, h⟩ := bnd_s h
  refine tl ew3.symm ?_
  refine lv_lstore_n (lv' := [(0, .long w3)]) hx hb dJ13_bitCount_95d88_33 rfl hl (by decide) rfl (fun ls hl => ?_)
  refine lv_lload_n hx hb dJ13_bitCount_95d88_34 rfl (lv_at hl 0 rfl) ?_
  refine lv_lload_n hx hb dJ13_bitCount_95d88_35 rfl (lv_at hl 0 rfl) ?_
  refine lv_bipush (v := 8) hx hb dJ13_bitCount_95d88_36 (by decide) ?_
  refine lv_lushr (v := jushr w3 8) hx hb dJ13_bitCount_95d88_38 rfl ?_
  refine lv_ladd hx hb dJ13_bitCount_95d88_39 ?_
  obtain ⟨w4, ew4, h⟩ := bnd_s h
  refine tl ew4.symm ?_
  refine lv_lstore_n (lv' := [(0, .long w4)]) hx hb dJ13_bitCount_95d88_40 rfl hl (by decide) rfl (fun ls hl => ?_)
  refine lv_lload_n hx hb dJ13_bitCount_95d88_41 rfl (lv_at hl 0 rfl) ?_
  refine lv_lload_n hx hb dJ13_bitCount_95d88_42 rfl (lv_at hl 0 rfl) ?_
  refine lv_bipush (v := 16) hx hb dJ13_bitCount_95d88_43 (by decide) ?_
  refine lv_lushr (v := jushr w4 16) hx hb dJ13_bitCount_95d88_45 rfl ?_
  refine lv_ladd hx hb dJ13_bitCount_95d88_46 ?_
  obtain ⟨w5, ew5, h⟩ := bnd_s h
  refine tl ew5.symm ?_
  refine lv_lstore_n (lv' := [(0, .long w5)]) hx hb dJ13_bitCount_95d88_47 rfl hl (by decide) rfl (fun ls hl => ?_)
  refine lv_lload_n hx hb dJ13_bitCount_95d88_48 rfl (lv_at hl 0 rfl) ?_
  refine lv_lload_n hx hb dJ13_bitCount_95d88_49 rfl (lv_at hl 0 rfl) ?_
  refine lv_bipush (v := 32) hx hb dJ13_bitCount_95d88_50 (by decide) ?_
  refine lv_lushr (v := jushr w5 32) hx hb dJ13_bitCount_95d88_52 rfl ?_
  refine lv_ladd hx hb dJ13_bitCount_95d88_53 ?_
  obtain ⟨w6, ew6, h⟩ := bnd_s h
  refine tl ew6.symm ?_
  refine lv_lstore_n (lv' := [(0, .long w6)]) hx hb dJ13_bitCount_95d88_54 rfl hl (by decide) rfl (fun ls hl => ?_)
  refine lv_lload_n hx hb dJ13_bitCount_95d88_55 rfl (lv_at hl 0 rfl) ?_
  refine lv_l2i (v := w6.toInt32) hx hb dJ13_bitCount_95d88_56 rfl ?_
  refine lv_bipush (v := 127) hx hb dJ13_bitCount_95d88_57 (by decide) ?_
  refine lv_iand hx hb dJ13_bitCount_95d88_59 ?_
  exact reI hx hb hr hlocks h dJ13_bitCount_95d88_60
def fX3_isSlot  (q0 : Int32) : Option (Bool) :=
  if q0 < 0 then
    some false
  else
    if 16 ≤ q0 then
      some false
    else
      some true
abbrev rmX3_isSlot : Room := { frames := 0, cells := 0, slots := 0, locals := 0 }
theorem hdX3_isSlot : KN yX3_isSlot 1 := by decide +kernel
set_option maxHeartbeats 4000000 in
set_option maxRecDepth 100000 in
theorem kX3_isSlot (l : Launch) (D : va_G) (cJ cZ : ClassId) (q0 : Int32) (rr : Bool) (h : fX3_isSlot q0 = some rr) : Met l yX3_isSlot wsX3_isSlot rmX3_isSlot (PP D cJ cZ [.int q0] []) (SI (bI rr)) 0 0 (fun _ => False) := by
  refine Met.ofW (cc := cX3_isSlot) (maxL := 1) (ret := some .boolean) (by decide) rfl ?_
  intro pg e s m args below meth c s₁ B hml hv
  obtain ⟨rfl, hP, hE⟩ := hv
  have hx := B.exec
  have hb := B.bytes
  have hr := B.returns
  have hlocks := B.notSynchronized
  have C0 : CallFix pg m c cX3_isSlot 1 s ([.int q0] : List Value).toArray wsX3_isSlot RX3 := ⟨hx, hb, hml, findClass_of_methodNamed B.named, atoms_spec (ws := wsX3_isSlot) B.pre⟩
  have hown := C0.2.2.2.1
  have hts := C0.2.2.2.2
  have hl := lv_entry ([.int q0]) (n := 1) (Nat.le_of_ble_eq_true rfl)
  rw [lg_entry_eq]
  generalize (lg_sl ([.int q0]) ++ List.replicate (1 - (lg_sl ([.int q0])).length) Slot.unset).toArray = ls at hl ⊢
  have hl : lv_has ls 1 [(0, .int q0)] := hl
  unfold fX3_isSlot at h
  refine lv_iload_n hx hb dX3_isSlot_0 rfl (lv_at hl 0 rfl) ?_
  refine lv_if_lt (tgt := 14) hx hb dX3_isSlot_1 (by decide) (fun c1 => ?_) (fun c1 => ?_)
  · have h := ite_t c1 h
    refine lv_iconst (v := 0) hx hb dX3_isSlot_14 (by decide) ?_
    exact reZ (v := false) hx hb hr hlocks h dX3_isSlot_15
  · have h := ite_f c1 h
    refine lv_iload_n hx hb dX3_isSlot_4 rfl (lv_at hl 0 rfl) ?_
    refine lv_bipush (v := 16) hx hb dX3_isSlot_5 (by decide) ?_
    refine lv_icmp_ge (tgt := 14) hx hb dX3_isSlot_7 (by decide) (fun c2 => ?_) (fun c2 => ?_)
    · have h := ite_t c2 h
      refine lv_iconst (v := 0) hx hb dX3_isSlot_14 (by decide) ?_
      exact reZ (v := false) hx hb hr hlocks h dX3_isSlot_15
    · have h := ite_f c2 h
      refine lv_iconst (v := 1) hx hb dX3_isSlot_10 (by decide) ?_
      refine lv_goto (tgt := 15) hx hb dX3_isSlot_11 (by decide) ?_
      exact reZ (v := true) hx hb hr hlocks h dX3_isSlot_15
def fX3_isValue  (q0 : Int32) : Option (Bool) :=
  if q0 < 0 then
    some false
  else
    if 8 ≤ q0 then
      some false
    else
      some true
abbrev rmX3_isValue : Room := { frames := 0, cells := 0, slots := 0, locals := 0 }
theorem hdX3_isValue : KN yX3_isValue 1 := by decide +kernel
set_option maxHeartbeats 4000000 in
set_option maxRecDepth 100000 in
theorem kX3_isValue (l : Launch) (D : va_G) (cJ cZ : ClassId) (q0 : Int32) (rr : Bool) (h : fX3_isValue q0 = some rr) : Met l yX3_isValue wsX3_isValue rmX3_isValue (PP D cJ cZ [.int q0] []) (SI (bI rr)) 0 0 (fun _ => False) := by
  refine Met.ofW (cc := cX3_isValue) (maxL := 1) (ret := some .boolean) (by decide) rfl ?_
  intro pg e s m args below meth c s₁ B hml hv
  obtain ⟨rfl, hP, hE⟩ := hv
  have hx := B.exec
  have hb := B.bytes
  have hr := B.returns
  have hlocks := B.notSynchronized
  have C0 : CallFix pg m c cX3_isValue 1 s ([.int q0] : List Value).toArray wsX3_isValue RX3 := ⟨hx, hb, hml, findClass_of_methodNamed B.named, atoms_spec (ws := wsX3_isValue) B.pre⟩
  have hown := C0.2.2.2.1
  have hts := C0.2.2.2.2
  have hl := lv_entry ([.int q0]) (n := 1) (Nat.le_of_ble_eq_true rfl)
  rw [lg_entry_eq]
  generalize (lg_sl ([.int q0]) ++ List.replicate (1 - (lg_sl ([.int q0])).length) Slot.unset).toArray = ls at hl ⊢
  have hl : lv_has ls 1 [(0, .int q0)] := hl
  unfold fX3_isValue at h
  refine lv_iload_n hx hb dX3_isValue_0 rfl (lv_at hl 0 rfl) ?_
  refine lv_if_lt (tgt := 14) hx hb dX3_isValue_1 (by decide) (fun c1 => ?_) (fun c1 => ?_)
  · have h := ite_t c1 h
    refine lv_iconst (v := 0) hx hb dX3_isValue_14 (by decide) ?_
    exact reZ (v := false) hx hb hr hlocks h dX3_isValue_15
  · have h := ite_f c1 h
    refine lv_iload_n hx hb dX3_isValue_4 rfl (lv_at hl 0 rfl) ?_
    refine lv_bipush (v := 8) hx hb dX3_isValue_5 (by decide) ?_
    refine lv_icmp_ge (tgt := 14) hx hb dX3_isValue_7 (by decide) (fun c2 => ?_) (fun c2 => ?_)
    · have h := ite_t c2 h
      refine lv_iconst (v := 0) hx hb dX3_isValue_14 (by decide) ?_
      exact reZ (v := false) hx hb hr hlocks h dX3_isValue_15
    · have h := ite_f c2 h
      refine lv_iconst (v := 1) hx hb dX3_isValue_10 (by decide) ?_
      refine lv_goto (tgt := 15) hx hb dX3_isValue_11 (by decide) ?_
      exact reZ (v := true) hx hb hr hlocks h dX3_isValue_15
def fX3_isHalf  (q0 : Int32) : Option (Bool) :=
  if q0 = 0 then
    some true
  else
    if q0 = 1 then
      some true
    else
      some false
abbrev rmX3_isHalf : Room := { frames := 0, cells := 0, slots := 0, locals := 0 }
theorem hdX3_isHalf : KN yX3_isHalf 1 := by decide +kernel
set_option maxHeartbeats 4000000 in
set_option maxRecDepth 100000 in
theorem kX3_isHalf (l : Launch) (D : va_G) (cJ cZ : ClassId) (q0 : Int32) (rr : Bool) (h : fX3_isHalf q0 = some rr) : Met l yX3_isHalf wsX3_isHalf rmX3_isHalf (PP D cJ cZ [.int q0] []) (SI (bI rr)) 0 0 (fun _ => False) := by
  refine Met.ofW (cc := cX3_isHalf) (maxL := 1) (ret := some .boolean) (by decide) rfl ?_
  intro pg e s m args below meth c s₁ B hml hv
  obtain ⟨rfl, hP, hE⟩ := hv
  have hx := B.exec
  have hb := B.bytes
  have hr := B.returns
  have hlocks := B.notSynchronized
  have C0 : CallFix pg m c cX3_isHalf 1 s ([.int q0] : List Value).toArray wsX3_isHalf RX3 := ⟨hx, hb, hml, findClass_of_methodNamed B.named, atoms_spec (ws := wsX3_isHalf) B.pre⟩
  have hown := C0.2.2.2.1
  have hts := C0.2.2.2.2
  have hl := lv_entry ([.int q0]) (n := 1) (Nat.le_of_ble_eq_true rfl)
  rw [lg_entry_eq]
  generalize (lg_sl ([.int q0]) ++ List.replicate (1 - (lg_sl ([.int q0])).length) Slot.unset).toArray = ls at hl ⊢
  have hl : lv_has ls 1 [(0, .int q0)] := hl
  unfold fX3_isHalf at h
  refine lv_iload_n hx hb dX3_isHalf_0 rfl (lv_at hl 0 rfl) ?_
  refine lv_if_eq (tgt := 9) hx hb dX3_isHalf_1 (by decide) (fun c1 => ?_) (fun c1 => ?_)
  · have h := ite_t c1 h
    refine lv_iconst (v := 1) hx hb dX3_isHalf_9 (by decide) ?_
    refine lv_goto (tgt := 14) hx hb dX3_isHalf_10 (by decide) ?_
    exact reZ (v := true) hx hb hr hlocks h dX3_isHalf_14
  · have h := ite_f c1 h
    refine lv_iload_n hx hb dX3_isHalf_4 rfl (lv_at hl 0 rfl) ?_
    refine lv_iconst (v := 1) hx hb dX3_isHalf_5 (by decide) ?_
    refine lv_icmp_ne (tgt := 13) hx hb dX3_isHalf_6 (by decide) (fun c2 => ?_) (fun c2 => ?_)
    · have h := ite_f c2 h
      refine lv_iconst (v := 0) hx hb dX3_isHalf_13 (by decide) ?_
      exact reZ (v := false) hx hb hr hlocks h dX3_isHalf_14
    · have h := ite_t c2 h
      refine lv_iconst (v := 1) hx hb dX3_isHalf_9 (by decide) ?_
      refine lv_goto (tgt := 14) hx hb dX3_isHalf_10 (by decide) ?_
      exact reZ (v := true) hx hb hr hlocks h dX3_isHalf_14
def fX3_isOddPrime_16 (N : Nat) (l0 : Int64) : Nat → Int64 → Option (Bool)
  | 0, _ => none
  | n + 1, l2 =>
    if l0 < (l2 * l2) then
      some true
    else
      if l2 = 0 then none else
      if (jrem l0 l2) = 0 then
        some false
      else
        bnd (l2 + 2) fun w5 =>
        fX3_isOddPrime_16 N l0 n w5
def fX3_isOddPrime (N : Nat) (q0 : Int64) : Option (Bool) :=
  if (jrem q0 2) = 0 then
    some false
  else
    fX3_isOddPrime_16 N q0 N 3
abbrev rmX3_isOddPrime : Room := { frames := 0, cells := 0, slots := 0, locals := 0 }
theorem lkX3_isOddPrime_0 : (.constantLong RX3 159 (2) : Cond) ∈ wsX3_isOddPrime := by decide +kernel
theorem lkX3_isOddPrime_1 : (.constantLong RX3 161 (3) : Cond) ∈ wsX3_isOddPrime := by decide +kernel
theorem hdX3_isOddPrime : KN yX3_isOddPrime 1 := by decide +kernel
set_option maxHeartbeats 4000000 in
set_option maxRecDepth 100000 in
theorem kX3_isOddPrime (l : Launch) (D : va_G) (cJ cZ : ClassId) (N : Nat) (q0 : Int64) (rr : Bool) (h : fX3_isOddPrime N q0 = some rr) : Met l yX3_isOddPrime wsX3_isOddPrime rmX3_isOddPrime (PP D cJ cZ [.long q0] []) (SI (bI rr)) 0 0 (fun _ => False) := by
  refine Met.ofW (cc := cX3_isOddPrime) (maxL := 4) (ret := some .boolean) (by decide) rfl ?_
  intro pg e s m args below meth c s₁ B hml hv
  obtain ⟨rfl, hP, hE⟩ := hv
  have hx := B.exec
  have hb := B.bytes
  have hr := B.returns
  have hlocks := B.notSynchronized
  have C0 : CallFix pg m c cX3_isOddPrime 4 s ([.long q0] : List Value).toArray wsX3_isOddPrime RX3 := ⟨hx, hb, hml, findClass_of_methodNamed B.named, atoms_spec (ws := wsX3_isOddPrime) B.pre⟩
  have hown := C0.2.2.2.1
  have hts := C0.2.2.2.2
  have hl := lv_entry ([.long q0]) (n := 4) (Nat.le_of_ble_eq_true rfl)
  rw [lg_entry_eq]
  generalize (lg_sl ([.long q0]) ++ List.replicate (4 - (lg_sl ([.long q0])).length) Slot.unset).toArray = ls at hl ⊢
  have hl : lv_has ls 4 [(0, .long q0)] := hl
  have loop16 : ∀ (l0 : Int64), ∀ (n : Nat) (l2 : Int64), fX3_isOddPrime_16 N l0 n l2 = some rr → ∀ ls : Array Slot, lv_has ls 4 [(0, .long l0), (2, .long l2)] → W pg l e (headSpec wsX3_isOddPrime rmX3_isOddPrime).room s m ([.long q0] : List Value).toArray below meth c s.heap [] 0 0 (MQ below (SI (bI rr)) ([.long q0] : List Value).toArray s 0 0 (fun _ => False)) (F0 m 16 ls []) := by
    intro l0
    intro n
    induction n with
    | zero =>
      intro l2 h
      cases h
    | succ n ih =>
      intro l2 h ls hl
      rw [fX3_isOddPrime_16] at h
      refine lv_lload_n hx hb dX3_isOddPrime_16 rfl (lv_at hl 1 rfl) ?_
      refine lv_lload_n hx hb dX3_isOddPrime_17 rfl (lv_at hl 1 rfl) ?_
      refine lv_lmul hx hb dX3_isOddPrime_18 ?_
      refine lv_lload_n hx hb dX3_isOddPrime_19 rfl (lv_at hl 0 rfl) ?_
      refine lc_gt (tgt := 43) hx hb dX3_isOddPrime_20 dX3_isOddPrime_21 (by decide) (fun c2 => ?_) (fun c2 => ?_)
      · have h := ite_t c2 h
        refine lv_iconst (v := 1) hx hb dX3_isOddPrime_43 (by decide) ?_
        exact reZ (v := true) hx hb hr hlocks h dX3_isOddPrime_44
      · have h := ite_f c2 h
        refine lv_lload_n hx hb dX3_isOddPrime_24 rfl (lv_at hl 0 rfl) ?_
        refine lv_lload_n hx hb dX3_isOddPrime_25 rfl (lv_at hl 1 rfl) ?_
        obtain ⟨c3, h⟩ := ite_n h
        refine lv_lremJ hx hb dX3_isOddPrime_26 c3 ?_
        refine lv_lconst (v := 0) hx hb dX3_isOddPrime_27 (by decide) ?_
        refine lc_ne (tgt := 34) hx hb dX3_isOddPrime_28 dX3_isOddPrime_29 (by decide) (fun c4 => ?_) (fun c4 => ?_)
        · have h := ite_f c4 h
          refine lv_lload_n hx hb dX3_isOddPrime_34 rfl (lv_at hl 1 rfl) ?_
          refine lv_ldc2 (v := 2) hx hb hown (hts _ lkX3_isOddPrime_0) dX3_isOddPrime_35 ?_
          refine lv_ladd hx hb dX3_isOddPrime_38 ?_
          obtain ⟨w5, ew5, h⟩ := bnd_s h
          refine tl ew5.symm ?_
          refine lv_lstore_n (lv' := [(2, .long w5), (0, .long l0)]) hx hb dX3_isOddPrime_39 rfl hl (by decide) rfl (fun ls hl => ?_)
          refine lv_goto (tgt := 16) hx hb dX3_isOddPrime_40 (by decide) ?_
          exact ih w5 h ls (lv_sub hl [1, 0] rfl)
        · have h := ite_t c4 h
          refine lv_iconst (v := 0) hx hb dX3_isOddPrime_32 (by decide) ?_
          exact reZ (v := false) hx hb hr hlocks h dX3_isOddPrime_33
  unfold fX3_isOddPrime at h
  refine lv_lload_n hx hb dX3_isOddPrime_0 rfl (lv_at hl 0 rfl) ?_
  refine lv_ldc2 (v := 2) hx hb hown (hts _ lkX3_isOddPrime_0) dX3_isOddPrime_1 ?_
  refine lv_lremJ hx hb dX3_isOddPrime_4 (by decide) ?_
  refine lv_lconst (v := 0) hx hb dX3_isOddPrime_5 (by decide) ?_
  refine lc_ne (tgt := 12) hx hb dX3_isOddPrime_6 dX3_isOddPrime_7 (by decide) (fun c1 => ?_) (fun c1 => ?_)
  · have h := ite_f c1 h
    refine lv_ldc2 (v := 3) hx hb hown (hts _ lkX3_isOddPrime_1) dX3_isOddPrime_12 ?_
    refine lv_lstore_n (lv' := [(2, .long 3), (0, .long q0)]) hx hb dX3_isOddPrime_15 rfl hl (by decide) rfl (fun ls hl => ?_)
    exact loop16 q0 N 3 h ls (lv_sub hl [1, 0] rfl)
  · have h := ite_t c1 h
    refine lv_iconst (v := 0) hx hb dX3_isOddPrime_10 (by decide) ?_
    exact reZ (v := false) hx hb hr hlocks h dX3_isOddPrime_11
def fX3_fitTogether (N : Nat) (q0 : Int32) (q1 : Int32) : Option (Bool) :=
  if q0 < 11 then
    some false
  else
    if (jirem q0 4) = 3 then
      if 2 < q1 then
        bnd (q0.toInt64 + 1) fun w4 =>
        if q1.toInt64 = 0 then none else
        if (jrem w4 q1.toInt64) = 0 then
          if (jrem (w4 / q1.toInt64) q1.toInt64) = 0 then
            some false
          else
            (fX3_isOddPrime N q0.toInt64).bind fun r8 =>
            if (bI r8) = 0 then
              some false
            else
              (fX3_isOddPrime N q1.toInt64).bind fun r11 =>
              if (bI r11) = 0 then
                some false
              else
                some true
        else
          some false
      else
        some false
    else
      some false
abbrev rmX3_fitTogether : Room := { frames := 1, cells := 0, slots := 0, locals := 23 }
theorem hdX3_fitTogether : KN yX3_fitTogether 2 := by decide +kernel
set_option maxHeartbeats 4000000 in
set_option maxRecDepth 100000 in
theorem kX3_fitTogether (l : Launch) (D : va_G) (cJ cZ : ClassId) (N : Nat) (q0 : Int32) (q1 : Int32) (rr : Bool) (h : fX3_fitTogether N q0 q1 = some rr) : Met l yX3_fitTogether wsX3_fitTogether rmX3_fitTogether (PP D cJ cZ [.int q0, .int q1] []) (SI (bI rr)) 0 0 (fun _ => False) := by
  refine Met.ofW (cc := cX3_fitTogether) (maxL := 4) (ret := some .boolean) (by decide) rfl ?_
  intro pg e s m args below meth c s₁ B hml hv
  obtain ⟨rfl, hP, hE⟩ := hv
  have hx := B.exec
  have hb := B.bytes
  have hr := B.returns
  have hlocks := B.notSynchronized
  have C0 : CallFix pg m c cX3_fitTogether 4 s ([.int q0, .int q1] : List Value).toArray wsX3_fitTogether RX3 := ⟨hx, hb, hml, findClass_of_methodNamed B.named, atoms_spec (ws := wsX3_fitTogether) B.pre⟩
  have hown := C0.2.2.2.1
  have hts := C0.2.2.2.2
  have hl := lv_entry ([.int q0, .int q1]) (n := 4) (Nat.le_of_ble_eq_true rfl)
  rw [lg_entry_eq]
  generalize (lg_sl ([.int q0, .int q1]) ++ List.replicate (4 - (lg_sl ([.int q0, .int q1])).length) Slot.unset).toArray = ls at hl ⊢
  have hl : lv_has ls 4 [(0, .int q0), (1, .int q1)] := hl
  unfold fX3_fitTogether at h
  refine lv_iload_n hx hb dX3_fitTogether_0 rfl (lv_at hl 0 rfl) ?_
  refine lv_bipush (v := 11) hx hb dX3_fitTogether_1 (by decide) ?_
  refine lv_icmp_lt (tgt := 18) hx hb dX3_fitTogether_3 (by decide) (fun c1 => ?_) (fun c1 => ?_)
  · have h := ite_t c1 h
    refine lv_iconst (v := 0) hx hb dX3_fitTogether_18 (by decide) ?_
    exact reZ (v := false) hx hb hr hlocks h dX3_fitTogether_19
  · have h := ite_f c1 h
    refine lv_iload_n hx hb dX3_fitTogether_6 rfl (lv_at hl 0 rfl) ?_
    refine lv_iconst (v := 4) hx hb dX3_fitTogether_7 (by decide) ?_
    refine lv_iremJ hx hb dX3_fitTogether_8 (by decide) ?_
    refine lv_iconst (v := 3) hx hb dX3_fitTogether_9 (by decide) ?_
    refine lv_icmp_ne (tgt := 18) hx hb dX3_fitTogether_10 (by decide) (fun c2 => ?_) (fun c2 => ?_)
    · have h := ite_f c2 h
      refine lv_iconst (v := 0) hx hb dX3_fitTogether_18 (by decide) ?_
      exact reZ (v := false) hx hb hr hlocks h dX3_fitTogether_19
    · have h := ite_t c2 h
      refine lv_iload_n hx hb dX3_fitTogether_13 rfl (lv_at hl 1 rfl) ?_
      refine lv_iconst (v := 2) hx hb dX3_fitTogether_14 (by decide) ?_
      refine lv_icmp_gt (tgt := 20) hx hb dX3_fitTogether_15 (by decide) (fun c3 => ?_) (fun c3 => ?_)
      · have h := ite_t c3 h
        refine lv_iload_n hx hb dX3_fitTogether_20 rfl (lv_at hl 0 rfl) ?_
        refine lv_i2l (v := q0.toInt64) hx hb dX3_fitTogether_21 rfl ?_
        refine lv_lconst (v := 1) hx hb dX3_fitTogether_22 (by decide) ?_
        refine lv_ladd hx hb dX3_fitTogether_23 ?_
        obtain ⟨w4, ew4, h⟩ := bnd_s h
        refine tl ew4.symm ?_
        refine lv_lstore_n (lv' := [(2, .long w4), (0, .int q0), (1, .int q1)]) hx hb dX3_fitTogether_24 rfl hl (by decide) rfl (fun ls hl => ?_)
        refine lv_lload_n hx hb dX3_fitTogether_25 rfl (lv_at hl 0 rfl) ?_
        refine lv_iload_n hx hb dX3_fitTogether_26 rfl (lv_at hl 2 rfl) ?_
        refine lv_i2l (v := q1.toInt64) hx hb dX3_fitTogether_27 rfl ?_
        obtain ⟨c5, h⟩ := ite_n h
        refine lv_lremJ hx hb dX3_fitTogether_28 c5 ?_
        refine lv_lconst (v := 0) hx hb dX3_fitTogether_29 (by decide) ?_
        refine lc_ne (tgt := 46) hx hb dX3_fitTogether_30 dX3_fitTogether_31 (by decide) (fun c6 => ?_) (fun c6 => ?_)
        · have h := ite_f c6 h
          refine lv_iconst (v := 0) hx hb dX3_fitTogether_46 (by decide) ?_
          exact reZ (v := false) hx hb hr hlocks h dX3_fitTogether_47
        · have h := ite_t c6 h
          refine lv_lload_n hx hb dX3_fitTogether_34 rfl (lv_at hl 0 rfl) ?_
          refine lv_iload_n hx hb dX3_fitTogether_35 rfl (lv_at hl 2 rfl) ?_
          refine lv_i2l (v := q1.toInt64) hx hb dX3_fitTogether_36 rfl ?_
          refine lv_ldiv hx hb dX3_fitTogether_37 c5 ?_
          refine lv_iload_n hx hb dX3_fitTogether_38 rfl (lv_at hl 2 rfl) ?_
          refine lv_i2l (v := q1.toInt64) hx hb dX3_fitTogether_39 rfl ?_
          refine lv_lremJ hx hb dX3_fitTogether_40 c5 ?_
          refine lv_lconst (v := 0) hx hb dX3_fitTogether_41 (by decide) ?_
          refine lc_ne (tgt := 48) hx hb dX3_fitTogether_42 dX3_fitTogether_43 (by decide) (fun c7 => ?_) (fun c7 => ?_)
          · have h := ite_f c7 h
            refine lv_iload_n hx hb dX3_fitTogether_48 rfl (lv_at hl 1 rfl) ?_
            refine lv_i2l (v := q0.toInt64) hx hb dX3_fitTogether_49 rfl ?_
            obtain ⟨r8, h9, h⟩ := bind_s h
            refine ki (kS (As := [.long q0.toInt64]) (rest := []) C0 (kX3_isOddPrime l D cJ cZ N q0.toInt64 r8 h9) gX3_fitTogether_X3_isOddPrime rfl ⟨rfl, rfl⟩ hdX3_isOddPrime ⟨Nat.le_of_ble_eq_true rfl, Nat.le_of_ble_eq_true rfl⟩ hP hE hl rfl rfl (Nat.le_of_ble_eq_true rfl) dX3_fitTogether_50 (Nat.zero_le _) (Nat.zero_le _)) ?_
            refine lv_if_eq (tgt := 68) hx hb dX3_fitTogether_53 (by decide) (fun c10 => ?_) (fun c10 => ?_)
            · have h := ite_t c10 h
              refine lv_iconst (v := 0) hx hb dX3_fitTogether_68 (by decide) ?_
              exact reZ (v := false) hx hb hr hlocks h dX3_fitTogether_69
            · have h := ite_f c10 h
              refine lv_iload_n hx hb dX3_fitTogether_56 rfl (lv_at hl 2 rfl) ?_
              refine lv_i2l (v := q1.toInt64) hx hb dX3_fitTogether_57 rfl ?_
              obtain ⟨r11, h12, h⟩ := bind_s h
              refine ki (kS (As := [.long q1.toInt64]) (rest := []) C0 (kX3_isOddPrime l D cJ cZ N q1.toInt64 r11 h12) gX3_fitTogether_X3_isOddPrime rfl ⟨rfl, rfl⟩ hdX3_isOddPrime ⟨Nat.le_of_ble_eq_true rfl, Nat.le_of_ble_eq_true rfl⟩ hP hE hl rfl rfl (Nat.le_of_ble_eq_true rfl) dX3_fitTogether_58 (Nat.zero_le _) (Nat.zero_le _)) ?_
              refine lv_if_eq (tgt := 68) hx hb dX3_fitTogether_61 (by decide) (fun c13 => ?_) (fun c13 => ?_)
              · have h := ite_t c13 h
                refine lv_iconst (v := 0) hx hb dX3_fitTogether_68 (by decide) ?_
                exact reZ (v := false) hx hb hr hlocks h dX3_fitTogether_69
              · have h := ite_f c13 h
                refine lv_iconst (v := 1) hx hb dX3_fitTogether_64 (by decide) ?_
                refine lv_goto (tgt := 69) hx hb dX3_fitTogether_65 (by decide) ?_
                exact reZ (v := true) hx hb hr hlocks h dX3_fitTogether_69
          · have h := ite_t c7 h
            refine lv_iconst (v := 0) hx hb dX3_fitTogether_46 (by decide) ?_
            exact reZ (v := false) hx hb hr hlocks h dX3_fitTogether_47
      · have h := ite_f c3 h
        refine lv_iconst (v := 0) hx hb dX3_fitTogether_18 (by decide) ?_
        exact reZ (v := false) hx hb hr hlocks h dX3_fitTogether_19
def fX3_joined  (q0 : Int64) (q1 : Int64) : Option (Int64) :=
  some ((jshl q0 31) ||| q1)
abbrev rmX3_joined : Room := { frames := 0, cells := 0, slots := 0, locals := 0 }
theorem hdX3_joined : KN yX3_joined 2 := by decide +kernel
set_option maxHeartbeats 4000000 in
set_option maxRecDepth 100000 in
theorem kX3_joined (l : Launch) (D : va_G) (cJ cZ : ClassId) (q0 : Int64) (q1 : Int64) (rr : Int64) (h : fX3_joined q0 q1 = some rr) : Met l yX3_joined wsX3_joined rmX3_joined (PP D cJ cZ [.long q0, .long q1] []) (SL rr) 0 0 (fun _ => False) := by
  refine Met.ofW (cc := cX3_joined) (maxL := 4) (ret := some .long) (by decide) rfl ?_
  intro pg e s m args below meth c s₁ B hml hv
  obtain ⟨rfl, hP, hE⟩ := hv
  have hx := B.exec
  have hb := B.bytes
  have hr := B.returns
  have hlocks := B.notSynchronized
  have C0 : CallFix pg m c cX3_joined 4 s ([.long q0, .long q1] : List Value).toArray wsX3_joined RX3 := ⟨hx, hb, hml, findClass_of_methodNamed B.named, atoms_spec (ws := wsX3_joined) B.pre⟩
  have hown := C0.2.2.2.1
  have hts := C0.2.2.2.2
  have hl := lv_entry ([.long q0, .long q1]) (n := 4) (Nat.le_of_ble_eq_true rfl)
  rw [lg_entry_eq]
  generalize (lg_sl ([.long q0, .long q1]) ++ List.replicate (4 - (lg_sl ([.long q0, .long q1])).length) Slot.unset).toArray = ls at hl ⊢
  have hl : lv_has ls 4 [(0, .long q0), (2, .long q1)] := hl
  unfold fX3_joined at h
  refine lv_lload_n hx hb dX3_joined_0 rfl (lv_at hl 0 rfl) ?_
  refine lv_bipush (v := 31) hx hb dX3_joined_1 (by decide) ?_
  refine lv_lshl (v := jshl q0 31) hx hb dX3_joined_3 rfl ?_
  refine lv_lload_n hx hb dX3_joined_4 rfl (lv_at hl 1 rfl) ?_
  refine lv_lor hx hb dX3_joined_5 ?_
  exact reL hx hb hr hlocks h dX3_joined_6
def fX3_upper  (q0 : Int64) : Option (Int64) :=
  some (jshr q0 31)
abbrev rmX3_upper : Room := { frames := 0, cells := 0, slots := 0, locals := 0 }
theorem hdX3_upper : KN yX3_upper 1 := by decide +kernel
set_option maxHeartbeats 4000000 in
set_option maxRecDepth 100000 in
theorem kX3_upper (l : Launch) (D : va_G) (cJ cZ : ClassId) (q0 : Int64) (rr : Int64) (h : fX3_upper q0 = some rr) : Met l yX3_upper wsX3_upper rmX3_upper (PP D cJ cZ [.long q0] []) (SL rr) 0 0 (fun _ => False) := by
  refine Met.ofW (cc := cX3_upper) (maxL := 2) (ret := some .long) (by decide) rfl ?_
  intro pg e s m args below meth c s₁ B hml hv
  obtain ⟨rfl, hP, hE⟩ := hv
  have hx := B.exec
  have hb := B.bytes
  have hr := B.returns
  have hlocks := B.notSynchronized
  have C0 : CallFix pg m c cX3_upper 2 s ([.long q0] : List Value).toArray wsX3_upper RX3 := ⟨hx, hb, hml, findClass_of_methodNamed B.named, atoms_spec (ws := wsX3_upper) B.pre⟩
  have hown := C0.2.2.2.1
  have hts := C0.2.2.2.2
  have hl := lv_entry ([.long q0]) (n := 2) (Nat.le_of_ble_eq_true rfl)
  rw [lg_entry_eq]
  generalize (lg_sl ([.long q0]) ++ List.replicate (2 - (lg_sl ([.long q0])).length) Slot.unset).toArray = ls at hl ⊢
  have hl : lv_has ls 2 [(0, .long q0)] := hl
  unfold fX3_upper at h
  refine lv_lload_n hx hb dX3_upper_0 rfl (lv_at hl 0 rfl) ?_
  refine lv_bipush (v := 31) hx hb dX3_upper_1 (by decide) ?_
  refine lv_lshr (v := jshr q0 31) hx hb dX3_upper_3 rfl ?_
  exact reL hx hb hr hlocks h dX3_upper_4
def fX3_lower  (q0 : Int64) : Option (Int64) :=
  some (q0 &&& 2147483647)
abbrev rmX3_lower : Room := { frames := 0, cells := 0, slots := 0, locals := 0 }
theorem lkX3_lower_0 : (.constantLong RX3 163 (2147483647) : Cond) ∈ wsX3_lower := by decide +kernel
theorem hdX3_lower : KN yX3_lower 1 := by decide +kernel
set_option maxHeartbeats 4000000 in
set_option maxRecDepth 100000 in
theorem kX3_lower (l : Launch) (D : va_G) (cJ cZ : ClassId) (q0 : Int64) (rr : Int64) (h : fX3_lower q0 = some rr) : Met l yX3_lower wsX3_lower rmX3_lower (PP D cJ cZ [.long q0] []) (SL rr) 0 0 (fun _ => False) := by
  refine Met.ofW (cc := cX3_lower) (maxL := 2) (ret := some .long) (by decide) rfl ?_
  intro pg e s m args below meth c s₁ B hml hv
  obtain ⟨rfl, hP, hE⟩ := hv
  have hx := B.exec
  have hb := B.bytes
  have hr := B.returns
  have hlocks := B.notSynchronized
  have C0 : CallFix pg m c cX3_lower 2 s ([.long q0] : List Value).toArray wsX3_lower RX3 := ⟨hx, hb, hml, findClass_of_methodNamed B.named, atoms_spec (ws := wsX3_lower) B.pre⟩
  have hown := C0.2.2.2.1
  have hts := C0.2.2.2.2
  have hl := lv_entry ([.long q0]) (n := 2) (Nat.le_of_ble_eq_true rfl)
  rw [lg_entry_eq]
  generalize (lg_sl ([.long q0]) ++ List.replicate (2 - (lg_sl ([.long q0])).length) Slot.unset).toArray = ls at hl ⊢
  have hl : lv_has ls 2 [(0, .long q0)] := hl
  unfold fX3_lower at h
  refine lv_lload_n hx hb dX3_lower_0 rfl (lv_at hl 0 rfl) ?_
  refine lv_ldc2 (v := 2147483647) hx hb hown (hts _ lkX3_lower_0) dX3_lower_1 ?_
  refine lv_land hx hb dX3_lower_4 ?_
  exact reL hx hb hr hlocks h dX3_lower_5
def fX3_half  (q0 : Int64) (q1 : Int32) : Option (Int32) :=
  if q1 = 0 then
    (fX3_upper q0).bind fun r4 =>
    some r4.toInt32
  else
    (fX3_lower q0).bind fun r2 =>
    some r2.toInt32
abbrev rmX3_half : Room := { frames := 1, cells := 0, slots := 0, locals := 21 }
theorem hdX3_half : KN yX3_half 2 := by decide +kernel
set_option maxHeartbeats 4000000 in
set_option maxRecDepth 100000 in
theorem kX3_half (l : Launch) (D : va_G) (cJ cZ : ClassId) (q0 : Int64) (q1 : Int32) (rr : Int32) (h : fX3_half q0 q1 = some rr) : Met l yX3_half wsX3_half rmX3_half (PP D cJ cZ [.long q0, .int q1] []) (SI rr) 0 0 (fun _ => False) := by
  refine Met.ofW (cc := cX3_half) (maxL := 3) (ret := some .int) (by decide) rfl ?_
  intro pg e s m args below meth c s₁ B hml hv
  obtain ⟨rfl, hP, hE⟩ := hv
  have hx := B.exec
  have hb := B.bytes
  have hr := B.returns
  have hlocks := B.notSynchronized
  have C0 : CallFix pg m c cX3_half 3 s ([.long q0, .int q1] : List Value).toArray wsX3_half RX3 := ⟨hx, hb, hml, findClass_of_methodNamed B.named, atoms_spec (ws := wsX3_half) B.pre⟩
  have hown := C0.2.2.2.1
  have hts := C0.2.2.2.2
  have hl := lv_entry ([.long q0, .int q1]) (n := 3) (Nat.le_of_ble_eq_true rfl)
  rw [lg_entry_eq]
  generalize (lg_sl ([.long q0, .int q1]) ++ List.replicate (3 - (lg_sl ([.long q0, .int q1])).length) Slot.unset).toArray = ls at hl ⊢
  have hl : lv_has ls 3 [(0, .long q0), (2, .int q1)] := hl
  unfold fX3_half at h
  refine lv_iload_n hx hb dX3_half_0 rfl (lv_at hl 1 rfl) ?_
  refine lv_if_ne (tgt := 11) hx hb dX3_half_1 (by decide) (fun c1 => ?_) (fun c1 => ?_)
  · have h := ite_f c1 h
    refine lv_lload_n hx hb dX3_half_11 rfl (lv_at hl 0 rfl) ?_
    obtain ⟨r2, h3, h⟩ := bind_s h
    refine kl (kS (As := [.long q0]) (rest := []) C0 (kX3_lower l D cJ cZ q0 r2 h3) gX3_half_X3_lower rfl ⟨rfl, rfl⟩ hdX3_lower ⟨Nat.le_of_ble_eq_true rfl, Nat.le_of_ble_eq_true rfl⟩ hP hE hl rfl rfl (Nat.le_of_ble_eq_true rfl) dX3_half_12 (Nat.zero_le _) (Nat.zero_le _)) ?_
    refine lv_l2i (v := r2.toInt32) hx hb dX3_half_15 rfl ?_
    exact reI hx hb hr hlocks h dX3_half_16
  · have h := ite_t c1 h
    refine lv_lload_n hx hb dX3_half_4 rfl (lv_at hl 0 rfl) ?_
    obtain ⟨r4, h5, h⟩ := bind_s h
    refine kl (kS (As := [.long q0]) (rest := []) C0 (kX3_upper l D cJ cZ q0 r4 h5) gX3_half_X3_upper rfl ⟨rfl, rfl⟩ hdX3_upper ⟨Nat.le_of_ble_eq_true rfl, Nat.le_of_ble_eq_true rfl⟩ hP hE hl rfl rfl (Nat.le_of_ble_eq_true rfl) dX3_half_5 (Nat.zero_le _) (Nat.zero_le _)) ?_
    refine lv_goto (tgt := 15) hx hb dX3_half_8 (by decide) ?_
    refine lv_l2i (v := r4.toInt32) hx hb dX3_half_15 rfl ?_
    exact reI hx hb hr hlocks h dX3_half_16
def fX3_written  (q0 : Int64) : Option (Int64) :=
  if q0 = (-1) then
    some (-1)
  else
    (fX3_upper q0).bind fun r2 =>
    (fX3_lower q0).bind fun r4 =>
    some ((2 * r2) + (jrem r4 2))
abbrev rmX3_written : Room := { frames := 1, cells := 0, slots := 0, locals := 21 }
theorem lkX3_written_0 : (.constantLong RX3 79 (-1) : Cond) ∈ wsX3_written := by decide +kernel
theorem lkX3_written_1 : (.constantLong RX3 159 (2) : Cond) ∈ wsX3_written := by decide +kernel
theorem hdX3_written : KN yX3_written 1 := by decide +kernel
set_option maxHeartbeats 4000000 in
set_option maxRecDepth 100000 in
theorem kX3_written (l : Launch) (D : va_G) (cJ cZ : ClassId) (q0 : Int64) (rr : Int64) (h : fX3_written q0 = some rr) : Met l yX3_written wsX3_written rmX3_written (PP D cJ cZ [.long q0] []) (SL rr) 0 0 (fun _ => False) := by
  refine Met.ofW (cc := cX3_written) (maxL := 2) (ret := some .long) (by decide) rfl ?_
  intro pg e s m args below meth c s₁ B hml hv
  obtain ⟨rfl, hP, hE⟩ := hv
  have hx := B.exec
  have hb := B.bytes
  have hr := B.returns
  have hlocks := B.notSynchronized
  have C0 : CallFix pg m c cX3_written 2 s ([.long q0] : List Value).toArray wsX3_written RX3 := ⟨hx, hb, hml, findClass_of_methodNamed B.named, atoms_spec (ws := wsX3_written) B.pre⟩
  have hown := C0.2.2.2.1
  have hts := C0.2.2.2.2
  have hl := lv_entry ([.long q0]) (n := 2) (Nat.le_of_ble_eq_true rfl)
  rw [lg_entry_eq]
  generalize (lg_sl ([.long q0]) ++ List.replicate (2 - (lg_sl ([.long q0])).length) Slot.unset).toArray = ls at hl ⊢
  have hl : lv_has ls 2 [(0, .long q0)] := hl
  unfold fX3_written at h
  refine lv_lload_n hx hb dX3_written_0 rfl (lv_at hl 0 rfl) ?_
  refine lv_ldc2 (v := (-1)) hx hb hown (hts _ lkX3_written_0) dX3_written_1 ?_
  refine lc_ne (tgt := 14) hx hb dX3_written_4 dX3_written_5 (by decide) (fun c1 => ?_) (fun c1 => ?_)
  · have h := ite_f c1 h
    refine lv_ldc2 (v := 2) hx hb hown (hts _ lkX3_written_1) dX3_written_14 ?_
    refine lv_lload_n hx hb dX3_written_17 rfl (lv_at hl 0 rfl) ?_
    obtain ⟨r2, h3, h⟩ := bind_s h
    refine kl (kS (As := [.long q0]) (rest := [.long 2]) C0 (kX3_upper l D cJ cZ q0 r2 h3) gX3_written_X3_upper rfl ⟨rfl, rfl⟩ hdX3_upper ⟨Nat.le_of_ble_eq_true rfl, Nat.le_of_ble_eq_true rfl⟩ hP hE hl rfl rfl (Nat.le_of_ble_eq_true rfl) dX3_written_18 (Nat.zero_le _) (Nat.zero_le _)) ?_
    refine lv_lmul hx hb dX3_written_21 ?_
    refine lv_lload_n hx hb dX3_written_22 rfl (lv_at hl 0 rfl) ?_
    obtain ⟨r4, h5, h⟩ := bind_s h
    refine kl (kS (As := [.long q0]) (rest := [.long (2 * r2)]) C0 (kX3_lower l D cJ cZ q0 r4 h5) gX3_written_X3_lower rfl ⟨rfl, rfl⟩ hdX3_lower ⟨Nat.le_of_ble_eq_true rfl, Nat.le_of_ble_eq_true rfl⟩ hP hE hl rfl rfl (Nat.le_of_ble_eq_true rfl) dX3_written_23 (Nat.zero_le _) (Nat.zero_le _)) ?_
    refine lv_ldc2 (v := 2) hx hb hown (hts _ lkX3_written_1) dX3_written_26 ?_
    refine lv_lremJ hx hb dX3_written_29 (by decide) ?_
    refine lv_ladd hx hb dX3_written_30 ?_
    exact reL hx hb hr hlocks h dX3_written_31
  · have h := ite_t c1 h
    refine lv_ldc2 (v := (-1)) hx hb hown (hts _ lkX3_written_0) dX3_written_8 ?_
    refine lv_goto (tgt := 31) hx hb dX3_written_11 (by decide) ?_
    exact reL hx hb hr hlocks h dX3_written_31
def fX2_has  (zp : Int64) (q0 : Int32) : Option (Bool) :=
  if q0 < 0 then
    some false
  else
    if zp ≤ q0.toInt64 then
      some false
    else
      some true
abbrev rmX2_has : Room := { frames := 0, cells := 0, slots := 0, locals := 0 }
theorem lkX2_has_0 : (.fieldLink RX2 9 "PairingDesk$PrimeField" "p" "J" : Cond) ∈ wsX2_has := by decide +kernel
theorem iwX2_has_2 : ∀ w ∈ wsX20, w ∈ wsX2_has := by decide +kernel
theorem hdX2_has : KN yX2_has 1 := by decide +kernel
set_option maxHeartbeats 4000000 in
set_option maxRecDepth 100000 in
theorem kX2_has (l : Launch) (D : va_G) (cJ cZ : ClassId) (fo : Nat) (zp : Int64) (q0 : Int32) (rr : Bool) (h : fX2_has zp q0 = some rr) : Met l yX2_has wsX2_has rmX2_has (PP D cJ cZ [.ref fo, .int q0] [(fo, .inr (2, [.long zp]))]) (SI (bI rr)) 0 0 (fun _ => False) := by
  refine Met.ofW (cc := cX2_has) (maxL := 2) (ret := some .boolean) (by decide) rfl ?_
  intro pg e s m args below meth c s₁ B hml hv
  obtain ⟨rfl, hP, hE⟩ := hv
  have hx := B.exec
  have hb := B.bytes
  have hr := B.returns
  have hlocks := B.notSynchronized
  have C0 : CallFix pg m c cX2_has 2 s ([.ref fo, .int q0] : List Value).toArray wsX2_has RX2 := ⟨hx, hb, hml, findClass_of_methodNamed B.named, atoms_spec (ws := wsX2_has) B.pre⟩
  have hown := C0.2.2.2.1
  have hts := C0.2.2.2.2
  have hl := lv_entry ([.ref fo, .int q0]) (n := 2) (Nat.le_of_ble_eq_true rfl)
  rw [lg_entry_eq]
  generalize (lg_sl ([.ref fo, .int q0]) ++ List.replicate (2 - (lg_sl ([.ref fo, .int q0])).length) Slot.unset).toArray = ls at hl ⊢
  have hl : lv_has ls 2 [(0, .ref fo), (1, .int q0)] := hl
  unfold fX2_has at h
  refine lv_iload_n hx hb dX2_has_0 rfl (lv_at hl 1 rfl) ?_
  refine lv_if_lt (tgt := 18) hx hb dX2_has_1 (by decide) (fun c1 => ?_) (fun c1 => ?_)
  · have h := ite_t c1 h
    refine lv_iconst (v := 0) hx hb dX2_has_18 (by decide) ?_
    exact reZ (v := false) hx hb hr hlocks h dX2_has_19
  · have h := ite_f c1 h
    refine lv_iload_n hx hb dX2_has_4 rfl (lv_at hl 1 rfl) ?_
    refine lv_i2l (v := q0.toInt64) hx hb dX2_has_5 rfl ?_
    refine lv_aload_n hx hb dX2_has_6 rfl (lv_at hl 0 rfl) ?_
    refine va_get (D := D) (ci := 2) (v := .long zp) (C := RX2) (T := TX2) (N := 1) hx hb hts iwX2_has_2 hown hE.1 hP 0 rfl rfl 0 (by decide) (hts _ lkX2_has_0) (fun _ h9 => h9) rfl dX2_has_7 ?_
    refine lc_ge (tgt := 18) hx hb dX2_has_10 dX2_has_11 (by decide) (fun c2 => ?_) (fun c2 => ?_)
    · have h := ite_t c2 h
      refine lv_iconst (v := 0) hx hb dX2_has_18 (by decide) ?_
      exact reZ (v := false) hx hb hr hlocks h dX2_has_19
    · have h := ite_f c2 h
      refine lv_iconst (v := 1) hx hb dX2_has_14 (by decide) ?_
      refine lv_goto (tgt := 19) hx hb dX2_has_15 (by decide) ?_
      exact reZ (v := true) hx hb hr hlocks h dX2_has_19
def fX2_product  (zp : Int64) (q0 : Int64) (q1 : Int64) : Option (Int64) :=
  if zp = 0 then none else
  some (jrem (q0 * q1) zp)
abbrev rmX2_product : Room := { frames := 0, cells := 0, slots := 0, locals := 0 }
theorem lkX2_product_0 : (.fieldLink RX2 9 "PairingDesk$PrimeField" "p" "J" : Cond) ∈ wsX2_product := by decide +kernel
theorem iwX2_product_2 : ∀ w ∈ wsX20, w ∈ wsX2_product := by decide +kernel
theorem hdX2_product : KN yX2_product 2 := by decide +kernel
set_option maxHeartbeats 4000000 in
set_option maxRecDepth 100000 in
theorem kX2_product (l : Launch) (D : va_G) (cJ cZ : ClassId) (fo : Nat) (zp : Int64) (q0 : Int64) (q1 : Int64) (rr : Int64) (h : fX2_product zp q0 q1 = some rr) : Met l yX2_product wsX2_product rmX2_product (PP D cJ cZ [.ref fo, .long q0, .long q1] [(fo, .inr (2, [.long zp]))]) (SL rr) 0 0 (fun _ => False) := by
  refine Met.ofW (cc := cX2_product) (maxL := 5) (ret := some .long) (by decide) rfl ?_
  intro pg e s m args below meth c s₁ B hml hv
  obtain ⟨rfl, hP, hE⟩ := hv
  have hx := B.exec
  have hb := B.bytes
  have hr := B.returns
  have hlocks := B.notSynchronized
  have C0 : CallFix pg m c cX2_product 5 s ([.ref fo, .long q0, .long q1] : List Value).toArray wsX2_product RX2 := ⟨hx, hb, hml, findClass_of_methodNamed B.named, atoms_spec (ws := wsX2_product) B.pre⟩
  have hown := C0.2.2.2.1
  have hts := C0.2.2.2.2
  have hl := lv_entry ([.ref fo, .long q0, .long q1]) (n := 5) (Nat.le_of_ble_eq_true rfl)
  rw [lg_entry_eq]
  generalize (lg_sl ([.ref fo, .long q0, .long q1]) ++ List.replicate (5 - (lg_sl ([.ref fo, .long q0, .long q1])).length) Slot.unset).toArray = ls at hl ⊢
  have hl : lv_has ls 5 [(0, .ref fo), (1, .long q0), (3, .long q1)] := hl
  unfold fX2_product at h
  refine lv_lload_n hx hb dX2_product_0 rfl (lv_at hl 1 rfl) ?_
  refine lv_lload_n hx hb dX2_product_1 rfl (lv_at hl 2 rfl) ?_
  refine lv_lmul hx hb dX2_product_2 ?_
  refine lv_aload_n hx hb dX2_product_3 rfl (lv_at hl 0 rfl) ?_
  refine va_get (D := D) (ci := 2) (v := .long zp) (C := RX2) (T := TX2) (N := 1) hx hb hts iwX2_product_2 hown hE.1 hP 0 rfl rfl 0 (by decide) (hts _ lkX2_product_0) (fun _ h9 => h9) rfl dX2_product_4 ?_
  obtain ⟨c1, h⟩ := ite_n h
  refine lv_lremJ hx hb dX2_product_7 c1 ?_
  exact reL hx hb hr hlocks h dX2_product_8
def fX2_difference  (zp : Int64) (q0 : Int64) (q1 : Int64) : Option (Int64) :=
  if q1 ≤ q0 then
    some (q0 - q1)
  else
    some ((q0 - q1) + zp)
abbrev rmX2_difference : Room := { frames := 0, cells := 0, slots := 0, locals := 0 }
theorem lkX2_difference_0 : (.fieldLink RX2 9 "PairingDesk$PrimeField" "p" "J" : Cond) ∈ wsX2_difference := by decide +kernel
theorem iwX2_difference_2 : ∀ w ∈ wsX20, w ∈ wsX2_difference := by decide +kernel
theorem hdX2_difference : KN yX2_difference 2 := by decide +kernel
set_option maxHeartbeats 4000000 in
set_option maxRecDepth 100000 in
theorem kX2_difference (l : Launch) (D : va_G) (cJ cZ : ClassId) (fo : Nat) (zp : Int64) (q0 : Int64) (q1 : Int64) (rr : Int64) (h : fX2_difference zp q0 q1 = some rr) : Met l yX2_difference wsX2_difference rmX2_difference (PP D cJ cZ [.ref fo, .long q0, .long q1] [(fo, .inr (2, [.long zp]))]) (SL rr) 0 0 (fun _ => False) := by
  refine Met.ofW (cc := cX2_difference) (maxL := 5) (ret := some .long) (by decide) rfl ?_
  intro pg e s m args below meth c s₁ B hml hv
  obtain ⟨rfl, hP, hE⟩ := hv
  have hx := B.exec
  have hb := B.bytes
  have hr := B.returns
  have hlocks := B.notSynchronized
  have C0 : CallFix pg m c cX2_difference 5 s ([.ref fo, .long q0, .long q1] : List Value).toArray wsX2_difference RX2 := ⟨hx, hb, hml, findClass_of_methodNamed B.named, atoms_spec (ws := wsX2_difference) B.pre⟩
  have hown := C0.2.2.2.1
  have hts := C0.2.2.2.2
  have hl := lv_entry ([.ref fo, .long q0, .long q1]) (n := 5) (Nat.le_of_ble_eq_true rfl)
  rw [lg_entry_eq]
  generalize (lg_sl ([.ref fo, .long q0, .long q1]) ++ List.replicate (5 - (lg_sl ([.ref fo, .long q0, .long q1])).length) Slot.unset).toArray = ls at hl ⊢
  have hl : lv_has ls 5 [(0, .ref fo), (1, .long q0), (3, .long q1)] := hl
  unfold fX2_difference at h
  refine lv_lload_n hx hb dX2_difference_0 rfl (lv_at hl 1 rfl) ?_
  refine lv_lload_n hx hb dX2_difference_1 rfl (lv_at hl 2 rfl) ?_
  refine lc_ge (tgt := 17) hx hb dX2_difference_2 dX2_difference_3 (by decide) (fun c1 => ?_) (fun c1 => ?_)
  · have h := ite_t c1 h
    refine lv_lload_n hx hb dX2_difference_17 rfl (lv_at hl 1 rfl) ?_
    refine lv_lload_n hx hb dX2_difference_18 rfl (lv_at hl 2 rfl) ?_
    refine lv_lsub hx hb dX2_difference_19 ?_
    exact reL hx hb hr hlocks h dX2_difference_20
  · have h := ite_f c1 h
    refine lv_lload_n hx hb dX2_difference_6 rfl (lv_at hl 1 rfl) ?_
    refine lv_lload_n hx hb dX2_difference_7 rfl (lv_at hl 2 rfl) ?_
    refine lv_lsub hx hb dX2_difference_8 ?_
    refine lv_aload_n hx hb dX2_difference_9 rfl (lv_at hl 0 rfl) ?_
    refine va_get (D := D) (ci := 2) (v := .long zp) (C := RX2) (T := TX2) (N := 1) hx hb hts iwX2_difference_2 hown hE.1 hP 0 rfl rfl 0 (by decide) (hts _ lkX2_difference_0) (fun _ h9 => h9) rfl dX2_difference_10 ?_
    refine lv_ladd hx hb dX2_difference_13 ?_
    refine lv_goto (tgt := 20) hx hb dX2_difference_14 (by decide) ?_
    exact reL hx hb hr hlocks h dX2_difference_20
def fX2_inverse_17 (N : Nat) (zp : Int64) : Nat → Int64 → Int64 → Int64 → Int64 → Int32 → Option (Int64)
  | 0, _, _, _, _, _ => none
  | n + 1, l3, l5, l7, l9, l11 =>
    if 64 ≤ l11 then
      if 0 ≤ l7 then
        some l7
      else
        some (l7 + zp)
    else
      if l5 = 0 then
        if 0 ≤ l7 then
          some l7
        else
          some (l7 + zp)
      else
        bnd (l3 / l5) fun w5 =>
        bnd (l3 - (w5 * l5)) fun w6 =>
        bnd (l7 - (w5 * l9)) fun w7 =>
        bnd (l11 + 1) fun w8 =>
        fX2_inverse_17 N zp n l5 w6 l9 w7 w8
def fX2_inverse (N : Nat) (zp : Int64) (q0 : Int64) : Option (Int64) :=
  fX2_inverse_17 N zp N zp q0 0 1 0
abbrev rmX2_inverse : Room := { frames := 0, cells := 0, slots := 0, locals := 0 }
theorem lkX2_inverse_0 : (.fieldLink RX2 9 "PairingDesk$PrimeField" "p" "J" : Cond) ∈ wsX2_inverse := by decide +kernel
theorem iwX2_inverse_2 : ∀ w ∈ wsX20, w ∈ wsX2_inverse := by decide +kernel
theorem hdX2_inverse : KN yX2_inverse 1 := by decide +kernel
set_option maxHeartbeats 4000000 in
set_option maxRecDepth 100000 in
theorem kX2_inverse (l : Launch) (D : va_G) (cJ cZ : ClassId) (fo : Nat) (N : Nat) (zp : Int64) (q0 : Int64) (rr : Int64) (h : fX2_inverse N zp q0 = some rr) : Met l yX2_inverse wsX2_inverse rmX2_inverse (PP D cJ cZ [.ref fo, .long q0] [(fo, .inr (2, [.long zp]))]) (SL rr) 0 0 (fun _ => False) := by
  refine Met.ofW (cc := cX2_inverse) (maxL := 18) (ret := some .long) (by decide) rfl ?_
  intro pg e s m args below meth c s₁ B hml hv
  obtain ⟨rfl, hP, hE⟩ := hv
  have hx := B.exec
  have hb := B.bytes
  have hr := B.returns
  have hlocks := B.notSynchronized
  have C0 : CallFix pg m c cX2_inverse 18 s ([.ref fo, .long q0] : List Value).toArray wsX2_inverse RX2 := ⟨hx, hb, hml, findClass_of_methodNamed B.named, atoms_spec (ws := wsX2_inverse) B.pre⟩
  have hown := C0.2.2.2.1
  have hts := C0.2.2.2.2
  have hl := lv_entry ([.ref fo, .long q0]) (n := 18) (Nat.le_of_ble_eq_true rfl)
  rw [lg_entry_eq]
  generalize (lg_sl ([.ref fo, .long q0]) ++ List.replicate (18 - (lg_sl ([.ref fo, .long q0])).length) Slot.unset).toArray = ls at hl ⊢
  have hl : lv_has ls 18 [(0, .ref fo), (1, .long q0)] := hl
  have loop17 : ∀ (n : Nat) (l3 : Int64) (l5 : Int64) (l7 : Int64) (l9 : Int64) (l11 : Int32), fX2_inverse_17 N zp n l3 l5 l7 l9 l11 = some rr → ∀ ls : Array Slot, lv_has ls 18 [(0, .ref fo), (3, .long l3), (5, .long l5), (7, .long l7), (9, .long l9), (11, .int l11)] → W pg l e (headSpec wsX2_inverse rmX2_inverse).room s m ([.ref fo, .long q0] : List Value).toArray below meth c s.heap [] 0 0 (MQ below (SL rr) ([.ref fo, .long q0] : List Value).toArray s 0 0 (fun _ => False)) (F0 m 17 ls []) := by
    intro n
    induction n with
    | zero =>
      intro l3 l5 l7 l9 l11 h
      cases h
    | succ n ih =>
      intro l3 l5 l7 l9 l11 h ls hl
      rw [fX2_inverse_17] at h
      refine lv_iload hx hb dX2_inverse_17 (lv_at hl 5 rfl) ?_
      refine lv_bipush (v := 64) hx hb dX2_inverse_19 (by decide) ?_
      refine lv_icmp_ge (tgt := 77) hx hb dX2_inverse_21 (by decide) (fun c1 => ?_) (fun c1 => ?_)
      · have h := ite_t c1 h
        refine lv_lload hx hb dX2_inverse_77 (lv_at hl 3 rfl) ?_
        refine lv_lconst (v := 0) hx hb dX2_inverse_79 (by decide) ?_
        refine lc_ge (tgt := 94) hx hb dX2_inverse_80 dX2_inverse_81 (by decide) (fun c2 => ?_) (fun c2 => ?_)
        · have h := ite_t c2 h
          refine lv_lload hx hb dX2_inverse_94 (lv_at hl 3 rfl) ?_
          exact reL hx hb hr hlocks h dX2_inverse_96
        · have h := ite_f c2 h
          refine lv_lload hx hb dX2_inverse_84 (lv_at hl 3 rfl) ?_
          refine lv_aload_n hx hb dX2_inverse_86 rfl (lv_at hl 0 rfl) ?_
          refine va_get (D := D) (ci := 2) (v := .long zp) (C := RX2) (T := TX2) (N := 1) hx hb hts iwX2_inverse_2 hown hE.1 hP 0 rfl rfl 0 (by decide) (hts _ lkX2_inverse_0) (fun _ h9 => h9) rfl dX2_inverse_87 ?_
          refine lv_ladd hx hb dX2_inverse_90 ?_
          refine lv_goto (tgt := 96) hx hb dX2_inverse_91 (by decide) ?_
          exact reL hx hb hr hlocks h dX2_inverse_96
      · have h := ite_f c1 h
        refine lv_lload hx hb dX2_inverse_24 (lv_at hl 2 rfl) ?_
        refine lv_lconst (v := 0) hx hb dX2_inverse_26 (by decide) ?_
        refine lc_eq (tgt := 77) hx hb dX2_inverse_27 dX2_inverse_28 (by decide) (fun c3 => ?_) (fun c3 => ?_)
        · have h := ite_t c3 h
          refine lv_lload hx hb dX2_inverse_77 (lv_at hl 3 rfl) ?_
          refine lv_lconst (v := 0) hx hb dX2_inverse_79 (by decide) ?_
          refine lc_ge (tgt := 94) hx hb dX2_inverse_80 dX2_inverse_81 (by decide) (fun c4 => ?_) (fun c4 => ?_)
          · have h := ite_t c4 h
            refine lv_lload hx hb dX2_inverse_94 (lv_at hl 3 rfl) ?_
            exact reL hx hb hr hlocks h dX2_inverse_96
          · have h := ite_f c4 h
            refine lv_lload hx hb dX2_inverse_84 (lv_at hl 3 rfl) ?_
            refine lv_aload_n hx hb dX2_inverse_86 rfl (lv_at hl 0 rfl) ?_
            refine va_get (D := D) (ci := 2) (v := .long zp) (C := RX2) (T := TX2) (N := 1) hx hb hts iwX2_inverse_2 hown hE.1 hP 0 rfl rfl 0 (by decide) (hts _ lkX2_inverse_0) (fun _ h9 => h9) rfl dX2_inverse_87 ?_
            refine lv_ladd hx hb dX2_inverse_90 ?_
            refine lv_goto (tgt := 96) hx hb dX2_inverse_91 (by decide) ?_
            exact reL hx hb hr hlocks h dX2_inverse_96
        · have h := ite_f c3 h
          refine lv_lload_n hx hb dX2_inverse_31 rfl (lv_at hl 1 rfl) ?_
          refine lv_lload hx hb dX2_inverse_32 (lv_at hl 2 rfl) ?_
          refine lv_ldiv hx hb dX2_inverse_34 c3 ?_
          obtain ⟨w5, ew5, h⟩ := bnd_s h
          refine tl ew5.symm ?_
          refine lv_lstore (lv' := [(12, .long w5), (0, .ref fo), (3, .long l3), (5, .long l5), (7, .long l7), (9, .long l9), (11, .int l11)]) hx hb dX2_inverse_35 hl (by decide) rfl (fun ls hl => ?_)
          refine lv_lload_n hx hb dX2_inverse_37 rfl (lv_at hl 2 rfl) ?_
          refine lv_lload hx hb dX2_inverse_38 (lv_at hl 0 rfl) ?_
          refine lv_lload hx hb dX2_inverse_40 (lv_at hl 3 rfl) ?_
          refine lv_lmul hx hb dX2_inverse_42 ?_
          refine lv_lsub hx hb dX2_inverse_43 ?_
          obtain ⟨w6, ew6, h⟩ := bnd_s h
          refine tl ew6.symm ?_
          refine lv_lstore (lv' := [(14, .long w6), (12, .long w5), (0, .ref fo), (3, .long l3), (5, .long l5), (7, .long l7), (9, .long l9), (11, .int l11)]) hx hb dX2_inverse_44 hl (by decide) rfl (fun ls hl => ?_)
          refine lv_lload hx hb dX2_inverse_46 (lv_at hl 5 rfl) ?_
          refine lv_lload hx hb dX2_inverse_48 (lv_at hl 1 rfl) ?_
          refine lv_lload hx hb dX2_inverse_50 (lv_at hl 6 rfl) ?_
          refine lv_lmul hx hb dX2_inverse_52 ?_
          refine lv_lsub hx hb dX2_inverse_53 ?_
          obtain ⟨w7, ew7, h⟩ := bnd_s h
          refine tl ew7.symm ?_
          refine lv_lstore (lv' := [(16, .long w7), (14, .long w6), (12, .long w5), (0, .ref fo), (3, .long l3), (5, .long l5), (7, .long l7), (9, .long l9), (11, .int l11)]) hx hb dX2_inverse_54 hl (by decide) rfl (fun ls hl => ?_)
          refine lv_lload hx hb dX2_inverse_56 (lv_at hl 5 rfl) ?_
          refine lv_lstore_n (lv' := [(3, .long l5), (16, .long w7), (14, .long w6), (12, .long w5), (0, .ref fo), (5, .long l5), (7, .long l7), (9, .long l9), (11, .int l11)]) hx hb dX2_inverse_58 rfl hl (by decide) rfl (fun ls hl => ?_)
          refine lv_lload hx hb dX2_inverse_59 (lv_at hl 2 rfl) ?_
          refine lv_lstore (lv' := [(5, .long w6), (3, .long l5), (16, .long w7), (14, .long w6), (12, .long w5), (0, .ref fo), (7, .long l7), (9, .long l9), (11, .int l11)]) hx hb dX2_inverse_61 hl (by decide) rfl (fun ls hl => ?_)
          refine lv_lload hx hb dX2_inverse_63 (lv_at hl 7 rfl) ?_
          refine lv_lstore (lv' := [(7, .long l9), (5, .long w6), (3, .long l5), (16, .long w7), (14, .long w6), (12, .long w5), (0, .ref fo), (9, .long l9), (11, .int l11)]) hx hb dX2_inverse_65 hl (by decide) rfl (fun ls hl => ?_)
          refine lv_lload hx hb dX2_inverse_67 (lv_at hl 3 rfl) ?_
          refine lv_lstore (lv' := [(9, .long w7), (7, .long l9), (5, .long w6), (3, .long l5), (16, .long w7), (14, .long w6), (12, .long w5), (0, .ref fo), (11, .int l11)]) hx hb dX2_inverse_69 hl (by decide) rfl (fun ls hl => ?_)
          obtain ⟨w8, ew8, h⟩ := bnd_s h
          refine lv_iinc (v := w8) (lv' := [(11, .int w8), (9, .long w7), (7, .long l9), (5, .long w6), (3, .long l5), (16, .long w7), (14, .long w6), (12, .long w5), (0, .ref fo)]) hx hb dX2_inverse_71 hl (k := 8) rfl (by rw [ew8]; rfl) (by decide) rfl (fun ls hl => ?_)
          refine lv_goto (tgt := 17) hx hb dX2_inverse_74 (by decide) ?_
          exact ih l5 w6 l9 w7 w8 h ls (lv_sub hl [8, 4, 3, 2, 1, 0] rfl)
  unfold fX2_inverse at h
  refine lv_aload_n hx hb dX2_inverse_0 rfl (lv_at hl 0 rfl) ?_
  refine va_get (D := D) (ci := 2) (v := .long zp) (C := RX2) (T := TX2) (N := 1) hx hb hts iwX2_inverse_2 hown hE.1 hP 0 rfl rfl 0 (by decide) (hts _ lkX2_inverse_0) (fun _ h9 => h9) rfl dX2_inverse_1 ?_
  refine lv_lstore_n (lv' := [(3, .long zp), (0, .ref fo), (1, .long q0)]) hx hb dX2_inverse_4 rfl hl (by decide) rfl (fun ls hl => ?_)
  refine lv_lload_n hx hb dX2_inverse_5 rfl (lv_at hl 2 rfl) ?_
  refine lv_lstore (lv' := [(5, .long q0), (3, .long zp), (0, .ref fo), (1, .long q0)]) hx hb dX2_inverse_6 hl (by decide) rfl (fun ls hl => ?_)
  refine lv_lconst (v := 0) hx hb dX2_inverse_8 (by decide) ?_
  refine lv_lstore (lv' := [(7, .long 0), (5, .long q0), (3, .long zp), (0, .ref fo), (1, .long q0)]) hx hb dX2_inverse_9 hl (by decide) rfl (fun ls hl => ?_)
  refine lv_lconst (v := 1) hx hb dX2_inverse_11 (by decide) ?_
  refine lv_lstore (lv' := [(9, .long 1), (7, .long 0), (5, .long q0), (3, .long zp), (0, .ref fo), (1, .long q0)]) hx hb dX2_inverse_12 hl (by decide) rfl (fun ls hl => ?_)
  refine lv_iconst (v := 0) hx hb dX2_inverse_14 (by decide) ?_
  refine lv_istore (lv' := [(11, .int 0), (9, .long 1), (7, .long 0), (5, .long q0), (3, .long zp), (0, .ref fo), (1, .long q0)]) hx hb dX2_inverse_15 hl (by decide) rfl (fun ls hl => ?_)
  exact loop17 N zp q0 0 1 0 h ls (lv_sub hl [5, 4, 3, 2, 1, 0] rfl)
def fX2_evenRoot_17 (N : Nat) (zp : Int64) (l1 : Int64) : Nat → Int64 → Int64 → Int64 → Option (Int64)
  | 0, _, _, _ => none
  | n + 1, l3, l5, l7 =>
    if l7 ≤ 0 then
      (fX2_product zp l3 l3).bind fun r3 =>
      if r3 = l1 then
        if (jrem l3 2) = 0 then
          some l3
        else
          some (zp - l3)
      else
        some (-1)
    else
      if (jrem l7 2) = 1 then
        (fX2_product zp l3 l5).bind fun r11 =>
        (fX2_product zp l5 l5).bind fun r13 =>
        bnd (jshr l7 1) fun w15 =>
        fX2_evenRoot_17 N zp l1 n r11 r13 w15
      else
        (fX2_product zp l5 l5).bind fun r8 =>
        bnd (jshr l7 1) fun w10 =>
        fX2_evenRoot_17 N zp l1 n l3 r8 w10
def fX2_evenRoot (N : Nat) (zp : Int64) (q0 : Int64) : Option (Int64) :=
  bnd ((zp + 1) / 4) fun w1 =>
  fX2_evenRoot_17 N zp q0 N 1 q0 w1
abbrev rmX2_evenRoot : Room := { frames := 1, cells := 0, slots := 0, locals := 24 }
theorem lkX2_evenRoot_0 : (.fieldLink RX2 9 "PairingDesk$PrimeField" "p" "J" : Cond) ∈ wsX2_evenRoot := by decide +kernel
theorem lkX2_evenRoot_1 : (.constantLong RX2 15 (4) : Cond) ∈ wsX2_evenRoot := by decide +kernel
theorem lkX2_evenRoot_2 : (.constantLong RX2 17 (2) : Cond) ∈ wsX2_evenRoot := by decide +kernel
theorem lkX2_evenRoot_3 : (.constantLong RX2 23 (-1) : Cond) ∈ wsX2_evenRoot := by decide +kernel
theorem iwX2_evenRoot_2 : ∀ w ∈ wsX20, w ∈ wsX2_evenRoot := by decide +kernel
theorem hdX2_evenRoot : KN yX2_evenRoot 1 := by decide +kernel
set_option maxHeartbeats 4000000 in
set_option maxRecDepth 100000 in
theorem kX2_evenRoot (l : Launch) (D : va_G) (cJ cZ : ClassId) (fo : Nat) (N : Nat) (zp : Int64) (q0 : Int64) (rr : Int64) (h : fX2_evenRoot N zp q0 = some rr) : Met l yX2_evenRoot wsX2_evenRoot rmX2_evenRoot (PP D cJ cZ [.ref fo, .long q0] [(fo, .inr (2, [.long zp]))]) (SL rr) 0 0 (fun _ => False) := by
  refine Met.ofW (cc := cX2_evenRoot) (maxL := 9) (ret := some .long) (by decide) rfl ?_
  intro pg e s m args below meth c s₁ B hml hv
  obtain ⟨rfl, hP, hE⟩ := hv
  have hx := B.exec
  have hb := B.bytes
  have hr := B.returns
  have hlocks := B.notSynchronized
  have C0 : CallFix pg m c cX2_evenRoot 9 s ([.ref fo, .long q0] : List Value).toArray wsX2_evenRoot RX2 := ⟨hx, hb, hml, findClass_of_methodNamed B.named, atoms_spec (ws := wsX2_evenRoot) B.pre⟩
  have hown := C0.2.2.2.1
  have hts := C0.2.2.2.2
  have hl := lv_entry ([.ref fo, .long q0]) (n := 9) (Nat.le_of_ble_eq_true rfl)
  rw [lg_entry_eq]
  generalize (lg_sl ([.ref fo, .long q0]) ++ List.replicate (9 - (lg_sl ([.ref fo, .long q0])).length) Slot.unset).toArray = ls at hl ⊢
  have hl : lv_has ls 9 [(0, .ref fo), (1, .long q0)] := hl
  have loop17 : ∀ (l1 : Int64), ∀ (n : Nat) (l3 : Int64) (l5 : Int64) (l7 : Int64), fX2_evenRoot_17 N zp l1 n l3 l5 l7 = some rr → ∀ ls : Array Slot, lv_has ls 9 [(0, .ref fo), (1, .long l1), (3, .long l3), (5, .long l5), (7, .long l7)] → W pg l e (headSpec wsX2_evenRoot rmX2_evenRoot).room s m ([.ref fo, .long q0] : List Value).toArray below meth c s.heap [] 0 0 (MQ below (SL rr) ([.ref fo, .long q0] : List Value).toArray s 0 0 (fun _ => False)) (F0 m 17 ls []) := by
    intro l1
    intro n
    induction n with
    | zero =>
      intro l3 l5 l7 h
      cases h
    | succ n ih =>
      intro l3 l5 l7 h ls hl
      rw [fX2_evenRoot_17] at h
      refine lv_lload hx hb dX2_evenRoot_17 (lv_at hl 4 rfl) ?_
      refine lv_lconst (v := 0) hx hb dX2_evenRoot_19 (by decide) ?_
      refine lc_le (tgt := 62) hx hb dX2_evenRoot_20 dX2_evenRoot_21 (by decide) (fun c2 => ?_) (fun c2 => ?_)
      · have h := ite_t c2 h
        refine lv_aload_n hx hb dX2_evenRoot_62 rfl (lv_at hl 0 rfl) ?_
        refine lv_lload_n hx hb dX2_evenRoot_63 rfl (lv_at hl 2 rfl) ?_
        refine lv_lload_n hx hb dX2_evenRoot_64 rfl (lv_at hl 2 rfl) ?_
        obtain ⟨r3, h4, h⟩ := bind_s h
        refine kl (kV (As := [.long l3, .long l3]) (rest := []) C0 (kX2_product l D cJ cZ fo zp l3 l3 r3 h4) gX2_evenRoot_X2_product rfl ⟨rfl, rfl⟩ hdX2_product ⟨Nat.le_of_ble_eq_true rfl, Nat.le_of_ble_eq_true rfl⟩ 2 0 rfl rfl rfl hP hE hl rfl rfl (Nat.le_of_ble_eq_true rfl) dX2_evenRoot_65 (Nat.zero_le _) (Nat.zero_le _)) ?_
        refine lv_lload_n hx hb dX2_evenRoot_68 rfl (lv_at hl 1 rfl) ?_
        refine lc_eq (tgt := 77) hx hb dX2_evenRoot_69 dX2_evenRoot_70 (by decide) (fun c5 => ?_) (fun c5 => ?_)
        · have h := ite_t c5 h
          refine lv_lload_n hx hb dX2_evenRoot_77 rfl (lv_at hl 2 rfl) ?_
          refine lv_ldc2 (v := 2) hx hb hown (hts _ lkX2_evenRoot_2) dX2_evenRoot_78 ?_
          refine lv_lremJ hx hb dX2_evenRoot_81 (by decide) ?_
          refine lv_lconst (v := 0) hx hb dX2_evenRoot_82 (by decide) ?_
          refine lc_ne (tgt := 91) hx hb dX2_evenRoot_83 dX2_evenRoot_84 (by decide) (fun c6 => ?_) (fun c6 => ?_)
          · have h := ite_f c6 h
            refine lv_aload_n hx hb dX2_evenRoot_91 rfl (lv_at hl 0 rfl) ?_
            refine va_get (D := D) (ci := 2) (v := .long zp) (C := RX2) (T := TX2) (N := 1) hx hb hts iwX2_evenRoot_2 hown hE.1 hP 0 rfl rfl 0 (by decide) (hts _ lkX2_evenRoot_0) (fun _ h9 => h9) rfl dX2_evenRoot_92 ?_
            refine lv_lload_n hx hb dX2_evenRoot_95 rfl (lv_at hl 2 rfl) ?_
            refine lv_lsub hx hb dX2_evenRoot_96 ?_
            exact reL hx hb hr hlocks h dX2_evenRoot_97
          · have h := ite_t c6 h
            refine lv_lload_n hx hb dX2_evenRoot_87 rfl (lv_at hl 2 rfl) ?_
            refine lv_goto (tgt := 97) hx hb dX2_evenRoot_88 (by decide) ?_
            exact reL hx hb hr hlocks h dX2_evenRoot_97
        · have h := ite_f c5 h
          refine lv_ldc2 (v := (-1)) hx hb hown (hts _ lkX2_evenRoot_3) dX2_evenRoot_73 ?_
          exact reL hx hb hr hlocks h dX2_evenRoot_76
      · have h := ite_f c2 h
        refine lv_lload hx hb dX2_evenRoot_24 (lv_at hl 4 rfl) ?_
        refine lv_ldc2 (v := 2) hx hb hown (hts _ lkX2_evenRoot_2) dX2_evenRoot_26 ?_
        refine lv_lremJ hx hb dX2_evenRoot_29 (by decide) ?_
        refine lv_lconst (v := 1) hx hb dX2_evenRoot_30 (by decide) ?_
        refine lc_ne (tgt := 43) hx hb dX2_evenRoot_31 dX2_evenRoot_32 (by decide) (fun c7 => ?_) (fun c7 => ?_)
        · have h := ite_f c7 h
          refine lv_aload_n hx hb dX2_evenRoot_43 rfl (lv_at hl 0 rfl) ?_
          refine lv_lload hx hb dX2_evenRoot_44 (lv_at hl 3 rfl) ?_
          refine lv_lload hx hb dX2_evenRoot_46 (lv_at hl 3 rfl) ?_
          obtain ⟨r8, h9, h⟩ := bind_s h
          refine kl (kV (As := [.long l5, .long l5]) (rest := []) C0 (kX2_product l D cJ cZ fo zp l5 l5 r8 h9) gX2_evenRoot_X2_product rfl ⟨rfl, rfl⟩ hdX2_product ⟨Nat.le_of_ble_eq_true rfl, Nat.le_of_ble_eq_true rfl⟩ 2 0 rfl rfl rfl hP hE hl rfl rfl (Nat.le_of_ble_eq_true rfl) dX2_evenRoot_48 (Nat.zero_le _) (Nat.zero_le _)) ?_
          refine lv_lstore (lv' := [(5, .long r8), (0, .ref fo), (1, .long l1), (3, .long l3), (7, .long l7)]) hx hb dX2_evenRoot_51 hl (by decide) rfl (fun ls hl => ?_)
          refine lv_lload hx hb dX2_evenRoot_53 (lv_at hl 4 rfl) ?_
          refine lv_iconst (v := 1) hx hb dX2_evenRoot_55 (by decide) ?_
          refine lv_lshr (v := jshr l7 1) hx hb dX2_evenRoot_56 rfl ?_
          obtain ⟨w10, ew10, h⟩ := bnd_s h
          refine tl ew10.symm ?_
          refine lv_lstore (lv' := [(7, .long w10), (5, .long r8), (0, .ref fo), (1, .long l1), (3, .long l3)]) hx hb dX2_evenRoot_57 hl (by decide) rfl (fun ls hl => ?_)
          refine lv_goto (tgt := 17) hx hb dX2_evenRoot_59 (by decide) ?_
          exact ih l3 r8 w10 h ls (lv_sub hl [2, 3, 4, 1, 0] rfl)
        · have h := ite_t c7 h
          refine lv_aload_n hx hb dX2_evenRoot_35 rfl (lv_at hl 0 rfl) ?_
          refine lv_lload_n hx hb dX2_evenRoot_36 rfl (lv_at hl 2 rfl) ?_
          refine lv_lload hx hb dX2_evenRoot_37 (lv_at hl 3 rfl) ?_
          obtain ⟨r11, h12, h⟩ := bind_s h
          refine kl (kV (As := [.long l3, .long l5]) (rest := []) C0 (kX2_product l D cJ cZ fo zp l3 l5 r11 h12) gX2_evenRoot_X2_product rfl ⟨rfl, rfl⟩ hdX2_product ⟨Nat.le_of_ble_eq_true rfl, Nat.le_of_ble_eq_true rfl⟩ 2 0 rfl rfl rfl hP hE hl rfl rfl (Nat.le_of_ble_eq_true rfl) dX2_evenRoot_39 (Nat.zero_le _) (Nat.zero_le _)) ?_
          refine lv_lstore_n (lv' := [(3, .long r11), (0, .ref fo), (1, .long l1), (5, .long l5), (7, .long l7)]) hx hb dX2_evenRoot_42 rfl hl (by decide) rfl (fun ls hl => ?_)
          refine lv_aload_n hx hb dX2_evenRoot_43 rfl (lv_at hl 1 rfl) ?_
          refine lv_lload hx hb dX2_evenRoot_44 (lv_at hl 3 rfl) ?_
          refine lv_lload hx hb dX2_evenRoot_46 (lv_at hl 3 rfl) ?_
          obtain ⟨r13, h14, h⟩ := bind_s h
          refine kl (kV (As := [.long l5, .long l5]) (rest := []) C0 (kX2_product l D cJ cZ fo zp l5 l5 r13 h14) gX2_evenRoot_X2_product rfl ⟨rfl, rfl⟩ hdX2_product ⟨Nat.le_of_ble_eq_true rfl, Nat.le_of_ble_eq_true rfl⟩ 2 0 rfl rfl rfl hP hE hl rfl rfl (Nat.le_of_ble_eq_true rfl) dX2_evenRoot_48 (Nat.zero_le _) (Nat.zero_le _)) ?_
          refine lv_lstore (lv' := [(5, .long r13), (3, .long r11), (0, .ref fo), (1, .long l1), (7, .long l7)]) hx hb dX2_evenRoot_51 hl (by decide) rfl (fun ls hl => ?_)
          refine lv_lload hx hb dX2_evenRoot_53 (lv_at hl 4 rfl) ?_
          refine lv_iconst (v := 1) hx hb dX2_evenRoot_55 (by decide) ?_
          refine lv_lshr (v := jshr l7 1) hx hb dX2_evenRoot_56 rfl ?_
          obtain ⟨w15, ew15, h⟩ := bnd_s h
          refine tl ew15.symm ?_
          refine lv_lstore (lv' := [(7, .long w15), (5, .long r13), (3, .long r11), (0, .ref fo), (1, .long l1)]) hx hb dX2_evenRoot_57 hl (by decide) rfl (fun ls hl => ?_)
          refine lv_goto (tgt := 17) hx hb dX2_evenRoot_59 (by decide) ?_
          exact ih r11 r13 w15 h ls (lv_sub hl [3, 4, 2, 1, 0] rfl)
  unfold fX2_evenRoot at h
  refine lv_lconst (v := 1) hx hb dX2_evenRoot_0 (by decide) ?_
  refine lv_lstore_n (lv' := [(3, .long 1), (0, .ref fo), (1, .long q0)]) hx hb dX2_evenRoot_1 rfl hl (by decide) rfl (fun ls hl => ?_)
  refine lv_lload_n hx hb dX2_evenRoot_2 rfl (lv_at hl 2 rfl) ?_
  refine lv_lstore (lv' := [(5, .long q0), (3, .long 1), (0, .ref fo), (1, .long q0)]) hx hb dX2_evenRoot_3 hl (by decide) rfl (fun ls hl => ?_)
  refine lv_aload_n hx hb dX2_evenRoot_5 rfl (lv_at hl 2 rfl) ?_
  refine va_get (D := D) (ci := 2) (v := .long zp) (C := RX2) (T := TX2) (N := 1) hx hb hts iwX2_evenRoot_2 hown hE.1 hP 0 rfl rfl 0 (by decide) (hts _ lkX2_evenRoot_0) (fun _ h9 => h9) rfl dX2_evenRoot_6 ?_
  refine lv_lconst (v := 1) hx hb dX2_evenRoot_9 (by decide) ?_
  refine lv_ladd hx hb dX2_evenRoot_10 ?_
  refine lv_ldc2 (v := 4) hx hb hown (hts _ lkX2_evenRoot_1) dX2_evenRoot_11 ?_
  refine lv_ldiv hx hb dX2_evenRoot_14 (by decide) ?_
  obtain ⟨w1, ew1, h⟩ := bnd_s h
  refine tl ew1.symm ?_
  refine lv_lstore (lv' := [(7, .long w1), (5, .long q0), (3, .long 1), (0, .ref fo), (1, .long q0)]) hx hb dX2_evenRoot_15 hl (by decide) rfl (fun ls hl => ?_)
  exact loop17 q0 N 1 q0 w1 h ls (lv_sub hl [3, 4, 2, 1, 0] rfl)
