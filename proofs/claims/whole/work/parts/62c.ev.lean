section
theorem ev_arr {args : Array Value} {s : State} {ty : FieldType} (h : (Cond.arrayClass ty).before args s = true) : ∃ cA : ClassId, ArrOfT s cA ty ∧ s.vm.findClass ("[" ++ ty.toString) = some cA := by
  obtain ⟨cA, kA, comp, h1, h2, h3⟩ := Cond.arrayClass_spec h
  exact ⟨cA, fun n z => ⟨fun k h => (by cases h), kA, h2, comp, h3⟩, h1⟩
set_option maxHeartbeats 4000000 in
set_option maxRecDepth 100000 in
/-- what the tables say of the classes, the arrays, the nest -/
theorem ev_start {p : Program} {s : State} {m : MethodId} {meth : Method} {c : Code} {b L : Nat} {xs : Nat → Int32} (C0 : lw_At p s m meth c b L xs) : ∃ (D : va_G) (cJ cZ : ClassId), EV D cJ cZ s := by
  obtain ⟨hx, hb, hr, hml, hown, hts, hX, hbl, hlocks, hgv⟩ := C0
  have hwl : ∀ w ∈ wsL_law, w.before #[Value.ref b] s = true := fun w h => hts w (wsL_law_in w h)
  obtain ⟨c0, i0, k0⟩ := u_known (C := RX0) (T := TX0) (N := 6) (n := 6) hwl inlX0 (hwl (.instantiable RX0 6) (List.mem_of_getElem? (i := 37) (by decide +kernel)))
  obtain ⟨c1, i1, k1⟩ := u_known (C := RX1) (T := TX1) (N := 3) (n := 3) hwl inlX1 (hwl (.instantiable RX1 3) (List.mem_of_getElem? (i := 44) (by decide +kernel)))
  obtain ⟨c2, i2, k2⟩ := u_known (C := RX2) (T := TX2) (N := 1) (n := 1) hwl inlX2 (hwl (.instantiable RX2 1) (List.mem_of_getElem? (i := 40) (by decide +kernel)))
  obtain ⟨c3, i3, k3⟩ := u_known (C := RX3) (T := TX3) (N := 4) (n := 4) hwl inlX3 (hwl (.instantiable RX3 4) (List.mem_of_getElem? (i := 1) (by decide +kernel)))
  obtain ⟨c4, i4, k4⟩ := u_known (C := RX4) (T := TX4) (N := 14) (n := 14) hwl inlX4 (hwl (.instantiable RX4 14) (List.mem_of_getElem? (i := 4) (by decide +kernel)))
  obtain ⟨cJ, j1, j2⟩ := ev_arr (ty := .long) (hwl (.arrayClass .long) (List.mem_of_getElem? (i := 13) (by decide +kernel)))
  obtain ⟨cZ, z1, z2⟩ := ev_arr (ty := .boolean) (hwl (.arrayClass .boolean) (List.mem_of_getElem? (i := 28) (by decide +kernel)))
  refine ⟨(fun k => match k with | 0 => c0 | 1 => c1 | 2 => c2 | 3 => c3 | _ => c4, fun k => match k with | 0 => i0 | 1 => i1 | 2 => i2 | 3 => i3 | _ => i4), cJ, cZ, ⟨?_, ?_⟩, ?_⟩
  · intro k q hq
    match k, hq with
    | 0, hq => cases hq; exact k0
    | 1, hq => cases hq; exact k1
    | 2, hq => cases hq; exact k2
    | 3, hq => cases hq; exact k3
    | 4, hq => cases hq; exact k4
    | k + 5, hq => simp [vwCl] at hq
  · intro k q hq
    match k, hq with
    | 0, hq => cases hq; exact ⟨j1, j2⟩
    | 1, hq => cases hq; exact ⟨z1, z2⟩
    | k + 2, hq => simp [tyJZ] at hq
  · exact ⟨va_Nw.of rfl (hts (.methodLinkNest RX0 67 yX3_joined RX3) (List.mem_of_getElem? (i := 112) (by decide +kernel))), va_Nw.of rfl (hts (.methodLinkNest RX0 42 yX3_upper RX3) (List.mem_of_getElem? (i := 131) (by decide +kernel))), va_Nw.of rfl (hts (.methodLinkNest RX0 45 yX3_lower RX3) (List.mem_of_getElem? (i := 134) (by decide +kernel))), va_Nw.of rfl (hts (.methodLinkNest RX1 44 yX3_joined RX3) (List.mem_of_getElem? (i := 318) (by decide +kernel))), va_Nw.of rfl (hts (.methodLinkNest RX1 32 yX3_upper RX3) (List.mem_of_getElem? (i := 315) (by decide +kernel))), va_Nw.of rfl (hts (.methodLinkNest RX1 36 yX3_lower RX3) (List.mem_of_getElem? (i := 316) (by decide +kernel)))⟩
end
