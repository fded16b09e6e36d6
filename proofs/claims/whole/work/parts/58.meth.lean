section
/-! holds, holdsAll, digest -/
theorem c_agree {P : Nat} [NeZero P] (h : P3 P) (hP : P < 2 ^ 31) {N : Nat} (hN : 100000 ≤ N) {R hb H : Nat} (hr : RB R hb) (hH : H < 2 ^ 63) {S : Nat → Option (Fin P × Fin P)} {zS zpx zpy : Nat → Int64} {zip : Nat → Bool} (hS : SF S zS zpx zpy zip) {A B : Nat} (hE : A + B ≤ 16) {u : Option (Fin P × Fin P)} (hu : eon u) (K : Nat) (zt : Int32) : ∃ t, fX1_agree N (lN P) (lN R) (lN H) (ept (tT h H 1).1) zt zS (ept u) (nI A) (nI B) (lN K) = some (decide (em h.1 R u = none) && ga h R S B A && decide (ee h R hb u (tT h H 1).1 = pa h R hb H K A S B 0 w1), t) := by
  unfold fX1_agree
  rw [c_takes h hP hN hr.2.1 hu, ob]
  by_cases t : em h.1 R u = none
  · rw [decide_eq_true t, if_neg bt0]
    unfold fX1_takeAll
    rw [ta_loop h hP hN hr.2.1 hS hE B N A rfl (by omega), ob, Bool.true_and]
    cases ga h R S B A with
    | false => rw [if_pos bf0]; exact ⟨_, rfl⟩
    | true =>
      rw [if_neg bt0, Bool.true_and, w1_e h]
      exact ag_loop h hP hN hr hH hS hE u K B N 0 w1 zt (by omega) (by omega)
  · rw [decide_eq_false t, if_pos bf0]; exact ⟨_, rfl⟩
theorem g_holds {P : Nat} [NeZero P] (h : P3 P) (hP : P < 2 ^ 31) {N : Nat} (hN : 100000 ≤ N) {R hb H : Nat} (hr : RB R hb) (hH : H < 2 ^ 63) {zS zpx zpy : Nat → Int64} {zip : Nat → Bool} (hS : SR P zS zpx zpy zip) (zt : Int32) (zx zy zu zv : Int64) (zi : Bool) (zl : Int32) (q0 : Int32) (q1 : Int64) (q2 : Int32) : ∃ r t ox oy oi ou ov ol, fX3_holds N (lN P) (lN R) (lN H) (ept (tT h H 1).1) zt zS q0 q1 q2 = some (r, t) ∧ fX4_holds N (lN P) (lN R) (lN H) zx zy zi zu zv zl zpx zpy zip q0 q1 q2 = some (r, ox, oy, oi, ou, ov, ol) := by
  unfold fX3_holds fX4_holds
  rw [if_neg (lP0 hP)]
  rcases sl_c q0 with ⟨i, hi, a0, a1, a2, a3, a4⟩ | ⟨a1, a2⟩
  case inr => simp only [a1, a2, ob, bif0, if_true]; exact ⟨_, _, _, _, _, _, _, _, rfl, rfl⟩
  simp only [a1, a2, ob, bit0, if_false]
  rcases sl_c q2 with ⟨k, hk, b0, b1, b2, b3, b4⟩ | ⟨b1, b2⟩
  case inr => simp only [b1, b2, ob, bif0, if_true]; exact ⟨_, _, _, _, _, _, _, _, rfl, rfl⟩
  simp only [b1, b2, ob, bit0, if_false]
  simp only [a3, b3, if_false]
  simp only [a4, b4]
  obtain ⟨S, hF⟩ := hS.fn
  obtain ⟨K, hK, rfl⟩ := wb_of q1
  obtain ⟨u1, u2, u3⟩ := hF k hk
  obtain ⟨v1, v2, v3⟩ := hF i hi
  obtain ⟨t, et⟩ := c_agree h hP hN hr hH (S := S) (zS := zS) (zpx := zpx) (zpy := zpy) (zip := zip) hF (A := i) (B := 1) (by omega) u1 K zt
  obtain ⟨x1, y1, i1, e1⟩ := g_takes (zS := zS) h hP hN hr.2.1 zx zy zi b3 b4 u1 u3
  rw [e1]
  simp only [ob]
  rw [← u2] at et
  have et' : fX1_agree N (lN P) (lN R) (lN H) (ept (tT h H 1).1) zt zS (zS k) q0 1 (lN K) = some (decide (em h.1 R (S k) = none) && ga h R S 1 i && decide (ee h R hb (S k) (tT h H 1).1 = pa h R hb H K i S 1 0 w1), t) := by rw [a0]; exact et
  rw [et']
  simp only [ob]
  have g1 : ga h R S 1 i = gd h R S i := Bool.and_true _
  have p1 : pa h R hb H K i S 1 0 w1 = ee h R hb (tT h H K).1 (S i) := by
    show wm w1 (ee h R hb (tT h H ((K + 0) % 2 ^ 64)).1 (S (i + 0))) = _
    rw [w_ab.2.2.2.2 _ trivial, Nat.add_zero, Nat.add_zero, Nat.mod_eq_of_lt hK]
  rw [g1, p1]
  by_cases t1 : em h.1 R (S k) = none
  case neg => rw [decide_eq_false t1, if_pos bf0]; exact ⟨_, _, _, _, _, _, _, _, rfl, rfl⟩
  rw [decide_eq_true t1, if_neg bt0, Bool.true_and]
  obtain ⟨x2, y2, i2, e2⟩ := g_takes (zS := zS) h hP hN hr.2.1 x1 y1 i1 a3 a4 v1 v3
  rw [e2]
  simp only [ob]
  by_cases t2 : em h.1 R (S i) = none
  case neg => rw [decide_eq_false t2, if_pos bf0, gd, decide_eq_false (fun q => t2 q.2)]; exact ⟨_, _, _, _, _, _, _, _, rfl, rfl⟩
  rw [decide_eq_true t2, if_neg bt0]
  by_cases t3 : S i = none
  · rw [if_pos ((MR_bI v3).mpr t3), gd, decide_eq_false (fun q => q.1 t3)]; exact ⟨_, _, _, _, _, _, _, _, rfl, rfl⟩
  rw [if_neg (fun q => t3 ((MR_bI v3).mp q)), gd, decide_eq_true ⟨t3, t2⟩, Bool.true_and]
  obtain ⟨x3, y3, i3, l3, e3⟩ := m_base h hP hN hr hH hk u3 x2 y2 zu zv i2 zl
  rw [← b0] at e3
  rw [e3]
  simp only [ob]
  obtain ⟨x4, y4, i4, l4, e4⟩ := m_pturn h hP hN hr hH hi v3 hK x3 y3 (lv (ee h R hb (S k) (tT h H 1).1).1) (lv (ee h R hb (S k) (tT h H 1).1).2) i3 l3
  rw [← a0] at e4
  rw [e4]
  simp only [ob]
  rw [two_if hP]
  by_cases z : ee h R hb (S k) (tT h H 1).1 = ee h R hb (tT h H K).1 (S i)
  · rw [decide_eq_true z, if_neg bt0, if_pos z.symm]; exact ⟨_, _, _, _, _, _, _, _, rfl, rfl⟩
  · rw [decide_eq_false z, if_pos bf0, if_neg (fun q => z q.symm)]; exact ⟨_, _, _, _, _, _, _, _, rfl, rfl⟩
theorem cnt_c (q : Int32) : (∃ B, 1 ≤ B ∧ B ≤ 8 ∧ q = nI B ∧ ¬ q < 1 ∧ ¬ 8 < q ∧ fX4_in q.toInt64 1 8 = some true) ∨ ((q < 1 ∨ 8 < q) ∧ fX4_in q.toInt64 1 8 = some false) := by
  rw [in_d]
  have e0 : (1 : Int64).toInt = 1 := by decide
  have e1 : (8 : Int64).toInt = 8 := by decide
  have e2 : (1 : Int32).toInt = 1 := by decide
  have e3 : (8 : Int32).toInt = 8 := by decide
  have e4 : (0 : Int32).toInt = 0 := by decide
  by_cases h1 : q < 1
  · refine .inr ⟨.inl h1, ?_⟩
    rw [Int32.lt_iff_toInt_lt] at h1
    rw [decide_eq_false (by omega)]
  · by_cases h2 : 8 < q
    · refine .inr ⟨.inr h2, ?_⟩
      rw [Int32.lt_iff_toInt_lt] at h2
      rw [decide_eq_false (by omega)]
    · have h1' := h1
      have h2' := h2
      rw [Int32.lt_iff_toInt_lt] at h1 h2
      obtain ⟨B, hB, rfl⟩ := nI_of (x := q) (by rw [Int32.lt_iff_toInt_lt]; omega)
      rw [nI_toInt hB] at *
      exact .inl ⟨B, by omega, by omega, rfl, h1', h2', by rw [decide_eq_true (by omega)]⟩
theorem g_holdsAll {P : Nat} [NeZero P] (h : P3 P) (hP : P < 2 ^ 31) {N : Nat} (hN : 100000 ≤ N) {R hb H : Nat} (hr : RB R hb) (hH : H < 2 ^ 63) {zS zpx zpy : Nat → Int64} {zip : Nat → Bool} (hS : SR P zS zpx zpy zip) (zt : Int32) (zx zy zu zv : Int64) (zi : Bool) (zl : Int32) (q0 q1 : Int32) (q2 : Int64) (q3 : Int32) : ∃ r t ox oy oi ou ov ol, fX3_holdsAll N (lN P) (lN R) (lN H) (ept (tT h H 1).1) zt zS q0 q1 q2 q3 = some (r, t) ∧ fX4_holdsAll N (lN P) (lN R) (lN H) zx zy zi zu zv zl zpx zpy zip q0 q1 q2 q3 = some (r, ox, oy, oi, ou, ov, ol) := by
  unfold fX3_holdsAll fX4_holdsAll
  rw [if_neg (lP0 hP)]
  rcases sl_c q0 with ⟨i, hi, a0, a1, a2, a3, a4⟩ | ⟨a1, a2⟩
  case inr => simp only [a1, a2, ob, bif0, if_true]; exact ⟨_, _, _, _, _, _, _, _, rfl, rfl⟩
  simp only [a1, a2, ob, bit0, if_false]
  rcases cnt_c q1 with ⟨B, n1, n2, c0, c1, c2, c3⟩ | ⟨c1, c2⟩
  case inr =>
    rw [c2, ob, if_pos bf0]
    rcases c1 with c1 | c1
    · rw [if_pos c1]; exact ⟨_, _, _, _, _, _, _, _, rfl, rfl⟩
    · by_cases d1 : q1 < 1
      · rw [if_pos d1]; exact ⟨_, _, _, _, _, _, _, _, rfl, rfl⟩
      · rw [if_neg d1, if_pos c1]; exact ⟨_, _, _, _, _, _, _, _, rfl, rfl⟩
  rw [c3, ob, if_neg bt0, if_neg c1, if_neg c2]
  have es : q0 + q1 = nI (i + B) := by rw [a0, c0, nI_add]
  by_cases e : 16 < q0 + q1
  · rw [if_pos e, if_pos e]; exact ⟨_, _, _, _, _, _, _, _, rfl, rfl⟩
  rw [if_neg e, if_neg e]
  rw [es] at e
  have hE : i + B ≤ 16 := by
    have e2 : (16 : Int32) = nI 16 := rfl
    rw [e2, nI_ltI (by decide) (by omega)] at e
    omega
  rcases sl_c q3 with ⟨k, hk, b0, b1, b2, b3, b4⟩ | ⟨b1, b2⟩
  case inr => simp only [b1, b2, ob, bif0, if_true]; exact ⟨_, _, _, _, _, _, _, _, rfl, rfl⟩
  simp only [b1, b2, ob, bit0, if_false]
  simp only [b3, if_false]
  simp only [b4]
  obtain ⟨S, hF⟩ := hS.fn
  obtain ⟨K, hK, rfl⟩ := wb_of q2
  obtain ⟨u1, u2, u3⟩ := hF k hk
  obtain ⟨t, et⟩ := c_agree h hP hN hr hH (S := S) (zS := zS) (zpx := zpx) (zpy := zpy) (zip := zip) hF hE u1 K zt
  obtain ⟨x1, y1, i1, e1⟩ := g_takes (zS := zS) h hP hN hr.2.1 zx zy zi b3 b4 u1 u3
  rw [← u2, ← a0, ← c0] at et
  rw [e1, et]
  simp only [ob]
  obtain ⟨x2, y2, i2, e2⟩ := hf_loop (H := H) (k := k) h hP hN hr (S := S) (zS := zS) (zpx := zpx) (zpy := zpy) (zip := zip) hF hE K zu zv zl B N 0 (decide (em h.1 R (S k) = none)) x1 y1 i1 (by omega) (by omega)
  rw [← a0, ← b0, ← c0, nI_0] at e2
  rw [e2]
  rw [Nat.add_zero]
  generalize (decide (em h.1 R (S k) = none) && ga h R S B i) = G
  cases G with
  | false => rw [Bool.false_and, if_pos bf0, if_neg (by decide)]; exact ⟨_, _, _, _, _, _, _, _, rfl, rfl⟩
  | true =>
    rw [Bool.true_and, if_pos rfl]
    obtain ⟨x3, y3, i3, u3, v3, l3, e3⟩ := ha_loop h hP hN hr hH (S := S) (zS := zS) (zpx := zpx) (zpy := zpy) (zip := zip) hF hE hk K B N 0 w1 x2 y2 zu zv i2 zl (by omega) (by omega)
    rw [← a0, ← b0, ← c0, nI_0] at e3
    have z1 : lv (w1 : Fin P × Fin P).1 = 1 := (l1P h).symm
    have z2 : lv (w1 : Fin P × Fin P).2 = 0 := (lv_0 hP).mpr rfl
    rw [z1, z2] at e3
    rw [e3]
    by_cases z : ee h R hb (S k) (tT h H 1).1 = pa h R hb H K i S B 0 w1
    · rw [decide_eq_true z, if_neg bt0, if_pos z]; exact ⟨_, _, _, _, _, _, _, _, rfl, rfl⟩
    · rw [decide_eq_false z, if_pos bf0, if_neg z]; exact ⟨_, _, _, _, _, _, _, _, rfl, rfl⟩
theorem d2_loop {P : Nat} [NeZero P] (hP : P < 2 ^ 31) (N : Nat) {zS zpx zpy zV zvu zvv : Nat → Int64} {zip : Nat → Bool} (hV : VR P zV zvu zvv) : ∀ (d n i : Nat) (l : Int64), i + d = 8 → d < n → ∃ r, fX3_digest_47 N zS zV n l (nI i) = some r ∧ fX4_digest_45 N (lN P) zpx zpy zip zvu zvv n l (nI i) = some r
  | 0, n + 1, i, l, e, _ => by
    unfold fX3_digest_47 fX4_digest_45
    have c : (8 : Int32) ≤ nI i := nI_le (a := 8) (by omega) (by omega)
    rw [if_pos c, if_pos c]
    exact ⟨_, rfl, rfl⟩
  | d + 1, n + 1, i, l, e, hn => by
    unfold fX3_digest_47 fX4_digest_45
    have c : ¬ (8 : Int32) ≤ nI i := nI_ge (b := 8) (by omega) (by decide)
    have c2 : ¬ (nI i < 0 ∨ 8 ≤ (nI i).toNatClampNeg) := nI_in (by omega) (by decide)
    obtain ⟨w, v1, v2, v3⟩ := hV i (by omega)
    rw [if_neg c, if_neg c, if_neg c2, if_neg c2, nI_clamp (by omega), v1, v2, v3, ewd_up hP, ewd_lo hP]
    simp only [ob, bnd]
    rw [nI_1]
    exact d2_loop hP N hV d n (i + 1) _ (by omega) (by omega)
theorem d1_loop {P : Nat} [NeZero P] (hP : P < 2 ^ 31) {N : Nat} (hN : 100000 ≤ N) {zS zpx zpy zV zvu zvv : Nat → Int64} {zip : Nat → Bool} (hS : SR P zS zpx zpy zip) (hV : VR P zV zvu zvv) : ∀ (d n i : Nat) (l : Int64), i + d = 16 → d < n → ∃ r, fX3_digest_17 N zS zV n l (nI i) = some r ∧ fX4_digest_19 N (lN P) zpx zpy zip zvu zvv n l (nI i) = some r
  | 0, n + 1, i, l, e, _ => by
    unfold fX3_digest_17 fX4_digest_19
    have c : (16 : Int32) ≤ nI i := nI_le (a := 16) (by omega) (by omega)
    rw [if_pos c, if_pos c]
    exact d2_loop hP N hV 8 N 0 l (by omega) (by omega)
  | d + 1, n + 1, i, l, e, hn => by
    unfold fX3_digest_17 fX4_digest_19 fX4_written
    have c : ¬ (16 : Int32) ≤ nI i := nI_ge (b := 16) (by omega) (by decide)
    have c2 : ¬ (nI i < 0 ∨ 16 ≤ (nI i).toNatClampNeg) := nI_in (by omega) (by decide)
    obtain ⟨r, e1, e2⟩ := g_wr hP (hS i (by omega))
    rw [if_neg c, if_neg c, if_neg c2, if_neg c2, nI_clamp (by omega), e1, e2]
    simp only [ob, bnd]
    rw [nI_1]
    exact d1_loop hP hN hS hV d n (i + 1) _ (by omega) (by omega)
theorem g_digest {P : Nat} [NeZero P] (hP : P < 2 ^ 31) {N : Nat} (hN : 100000 ≤ N) {zS zpx zpy zV zvu zvv : Nat → Int64} {zip : Nat → Bool} (hS : SR P zS zpx zpy zip) (hV : VR P zV zvu zvv) : ∃ r, fX3_digest N zS zV = some r ∧ fX4_digest N (lN P) zpx zpy zip zvu zvv = some r := by
  unfold fX3_digest fX4_digest
  rw [if_neg (lP0 hP)]
  exact d1_loop hP hN hS hV 16 N 0 17 (by omega) (by omega)
end
