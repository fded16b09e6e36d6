section
/-! the law: its worlds, its arguments -/
abbrev LA (s : State) : Nat → Prop := fun q => s.heap.size ≤ q
def lw2 (x y : Int32) : Int64 := (x.toInt64 <<< ((32 : Int32).toInt64 &&& 63)) ||| (y.toInt64 &&& 4294967295)
def LF (p : Program) (s : State) (m : MethodId) (c : Code) (b L : Nat) (xs : Nat → Int32) : Prop := CallFix p m c cL_law 4 s #[Value.ref b] wsL_law RL ∧ va_X b L xs s s.heap ∧ b < s.heap.size
abbrev wN (cJ : ClassId) (dk so vo : Nat) (zS zV : Nat → Int64) : va_W := [(dk, .inr (3, [.ref so, .ref vo, .null, .null])), (so, .inl (cJ, 16, .inr (.inl zS))), (vo, .inl (cJ, 8, .inr (.inl zV)))]
abbrev wF (cJ : ClassId) (dk so vo po co fo : Nat) (zp zr zh zb : Int64) (zt : Int32) (zS zV : Nat → Int64) : va_W := [(dk, .inr (3, [.ref so, .ref vo, .ref co, .ref po])), (so, .inl (cJ, 16, .inr (.inl zS))), (vo, .inl (cJ, 8, .inr (.inl zV))), (po, .inr (1, [.ref co, .long zp, .long zr])), (co, .inr (0, [.ref fo, .long zp, .long zr, .long zh, .long zb, .int zt])), (fo, .inr (2, [.long zp]))]
abbrev wM (cJ cZ : ClassId) (mo a1 a2 a3 a4 a5 : Nat) (zp zr zh zx zy : Int64) (zi : Bool) (zu zv : Int64) (zl : Int32) (zpx zpy : Nat → Int64) (zip : Nat → Bool) (zvu zvv : Nat → Int64) : va_W := [(mo, .inr (4, [.long zp, .long zr, .long zh, .ref a1, .ref a2, .ref a3, .ref a4, .ref a5, .long zx, .long zy, .int (bI zi), .long zu, .long zv, .int zl])), (a1, .inl (cJ, 16, .inr (.inl zpx))), (a2, .inl (cJ, 16, .inr (.inl zpy))), (a3, .inl (cZ, 16, .inl (fun i => bI (zip i)))), (a4, .inl (cJ, 8, .inr (.inl zvu))), (a5, .inl (cJ, 8, .inr (.inl zvv)))]
/-- between two calls: there is no field, or both sides have the same -/
def IV (D : va_G) (cJ cZ : ClassId) (dk mo : Nat) (s : State) (H : Heap) (locs : List Loc) : Prop := va_S (LA s) s.heap H locs ∧
  ((∃ (so vo a1 a2 a3 a4 a5 : Nat) (zS zV : Nat → Int64) (zx zy : Int64) (zi : Bool) (zu zv : Int64) (zl : Int32) (zpx zpy : Nat → Int64) (zip : Nat → Bool) (zvu zvv : Nat → Int64), va_P D vwCl (wN cJ dk so vo zS zV ++ wM cJ cZ mo a1 a2 a3 a4 a5 0 0 0 zx zy zi zu zv zl zpx zpy zip zvu zvv) H ∧ va_D (LA s) (wN cJ dk so vo zS zV ++ wM cJ cZ mo a1 a2 a3 a4 a5 0 0 0 zx zy zi zu zv zl zpx zpy zip zvu zvv)) ∨
   (∃ (so vo po co fo a1 a2 a3 a4 a5 P R hh : Nat) (ne : NeZero P) (h : P3 P) (zt : Int32) (zS zV : Nat → Int64) (zx zy : Int64) (zi : Bool) (zu zv : Int64) (zl : Int32) (zpx zpy : Nat → Int64) (zip : Nat → Bool) (zvu zvv : Nat → Int64), P < 2 ^ 31 ∧ 3 ≤ R ∧ R < 2 ^ 31 ∧ hh < 2 ^ 63 ∧ va_P D vwCl (wF cJ dk so vo po co fo (lN P) (lN R) (lN hh) (ept (tT h hh 1).1) zt zS zV ++ wM cJ cZ mo a1 a2 a3 a4 a5 (lN P) (lN R) (lN hh) zx zy zi zu zv zl zpx zpy zip zvu zvv) H ∧ va_D (LA s) (wF cJ dk so vo po co fo (lN P) (lN R) (lN hh) (ept (tT h hh 1).1) zt zS zV ++ wM cJ cZ mo a1 a2 a3 a4 a5 (lN P) (lN R) (lN hh) zx zy zi zu zv zl zpx zpy zip zvu zvv) ∧ SR P zS zpx zpy zip ∧ VR P zV zvu zvv))
theorem lk36 : (.constantLong RL 36 4294967295 : Cond) ∈ wsL_law := List.mem_of_getElem? (i := 6) (by decide +kernel)
variable {p : Program} {l : Launch} {e : Env} {R : Room} {s : State} {m : MethodId} {below : List Frame} {meth : Method} {c : Code} {b L : Nat} {xs : Nat → Int32} {H : Heap} {locs : List Loc} {cells slots : Nat} {Q : State → Prop} {ls : Array Slot} {dk mo i pc k : Nat} {st : List Value}
/-- script[i + k] -/
theorem sc_ld (hF : LF p s m c b L xs) (hS : va_S (LA s) s.heap H locs) (hl : lv_has ls 4 [(0, .ref b), (1, .ref dk), (2, .ref mo), (3, .int (nI i))]) (hk : i + k < L) (hL : L ≤ 3072) {kz : Int} (d0 : decode cL_law pc = .ok (.aload_n 0, 1)) (d1 : decode cL_law (pc + 1) = .ok (.iload_n 3, 1)) (d2 : decode cL_law (pc + 2) = .ok (.iconst kz, 1)) (hkz : Int32.ofInt kz = nI k) (d3 : decode cL_law (pc + 3) = .ok (.iadd, 1)) (d4 : decode cL_law (pc + 4) = .ok (.iaload, 1))
    (kk : W p l e R s m #[Value.ref b] below meth c H locs cells slots Q (F0 m (pc + 5) ls (.int (xs (i + k)) :: st))) : W p l e R s m #[Value.ref b] below meth c H locs cells slots Q (F0 m pc ls st) := by
  obtain ⟨C0, hX, hbl⟩ := hF
  have hx := C0.1
  have hb := C0.2.1
  have hbA : ¬ LA s b := Nat.not_le.mpr hbl
  refine lv_aload_n hx hb d0 rfl (lv_at hl 0 rfl) ?_
  refine lv_iload_n hx hb d1 rfl (lv_at hl 3 rfl) ?_
  refine lv_iconst (v := nI k) hx hb d2 hkz ?_
  refine lv_iadd hx hb d3 ?_
  refine ti (nI_add i k) ?_
  refine va_sld hx hb hX hbl hbA hS (vp_in_nI hk (by omega)) d4 ?_
  rw [nI_clamp (by omega)]
  exact kk
/-- (long) script[i + k] << 32 | script[i + k + 1] & 0xFFFFFFFFL -/
theorem sc_ll (hF : LF p s m c b L xs) (hS : va_S (LA s) s.heap H locs) (hl : lv_has ls 4 [(0, .ref b), (1, .ref dk), (2, .ref mo), (3, .int (nI i))]) (hk : i + (k + 1) < L) (hL : L ≤ 3072) {kz kw : Int} {cx : Nat} (d0 : decode cL_law pc = .ok (.aload_n 0, 1)) (d1 : decode cL_law (pc + 1) = .ok (.iload_n 3, 1)) (d2 : decode cL_law (pc + 2) = .ok (.iconst kz, 1)) (d3 : decode cL_law (pc + 3) = .ok (.iadd, 1)) (d4 : decode cL_law (pc + 4) = .ok (.iaload, 1)) (d5 : decode cL_law (pc + 5) = .ok (.i2l, 1)) (d6 : decode cL_law (pc + 6) = .ok (.bipush 32, 2)) (d8 : decode cL_law (pc + 8) = .ok (.lshl, 1)) (d9 : decode cL_law (pc + 9) = .ok (.aload_n 0, 1)) (d10 : decode cL_law (pc + 10) = .ok (.iload_n 3, 1)) (d11 : decode cL_law (pc + 11) = .ok (.iconst kw, 1)) (d12 : decode cL_law (pc + 12) = .ok (.iadd, 1)) (d13 : decode cL_law (pc + 13) = .ok (.iaload, 1)) (d14 : decode cL_law (pc + 14) = .ok (.i2l, 1)) (hkz : Int32.ofInt kz = nI k) (hkw : Int32.ofInt kw = nI (k + 1)) (d15 : decode cL_law (pc + 15) = .ok (.ldc2_w cx, 3)) (hcx : (.constantLong RL cx 4294967295 : Cond) ∈ wsL_law) (d18 : decode cL_law (pc + 18) = .ok (.land, 1)) (d19 : decode cL_law (pc + 19) = .ok (.lor, 1))
    (kk : W p l e R s m #[Value.ref b] below meth c H locs cells slots Q (F0 m (pc + 20) ls (.long (lw2 (xs (i + k)) (xs (i + (k + 1)))) :: st))) : W p l e R s m #[Value.ref b] below meth c H locs cells slots Q (F0 m pc ls st) := by
  obtain ⟨C0, hX, hbl⟩ := id hF
  have hx := C0.1
  have hb := C0.2.1
  have hown := C0.2.2.2.1
  have hts := C0.2.2.2.2
  refine sc_ld (k := k) hF hS hl (by omega) hL d0 d1 d2 hkz d3 d4 ?_
  refine lv_i2l (v := (xs (i + k)).toInt64) hx hb d5 rfl ?_
  refine lv_bipush (v := 32) hx hb d6 (by decide) ?_
  refine lv_lshl (v := (xs (i + k)).toInt64 <<< ((32 : Int32).toInt64 &&& 63)) hx hb d8 rfl ?_
  refine sc_ld (k := k + 1) hF hS hl (by omega) hL d9 d10 d11 hkw d12 d13 ?_
  refine lv_i2l (v := (xs (i + (k + 1))).toInt64) hx hb d14 rfl ?_
  refine lv_ldc2 (v := 4294967295) hx hb hown (hts _ hcx) d15 ?_
  refine lv_land hx hb d18 ?_
  refine lv_lor hx hb d19 ?_
  exact kk
end
