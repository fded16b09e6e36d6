section
noncomputable def ml {P : Nat} [NeZero P] (h : P3 P) (R : Nat) (a : Option (Fin P × Fin P)) (qx qy : Fin P) : Nat → Fin P × Fin P → Option (Fin P × Fin P) → Fin P × Fin P
  | 0, f, _ => f
  | b + 1, f, t => if R / 2 ^ b % 2 = 1 then ml h R a qx qy b (wm (wm (wm f f) (ln h.1 t t qx qy)) (ln h.1 (eadd h.1 t t) a qx qy)) (eadd h.1 (eadd h.1 t t) a) else ml h R a qx qy b (wm (wm f f) (ln h.1 t t qx qy)) (eadd h.1 t t)
def lc (R : Nat) : Nat → Nat
  | 0 => 0
  | b + 1 => (1 + R / 2 ^ b % 2) + lc R b
theorem shrB {R b : Nat} (hR : R < 2 ^ 31) (hb : b < 64) : jshr (lN R) (nI b) &&& 1 = lN (R / 2 ^ b % 2) := by
  have e : jshr (lN R) (nI b) = lN (R / 2 ^ b) := by
    refine shrN ?_ (by omega)
    rw [wb_c b hb]
    show ((BitVec.ofNat 64 b).smod 64).toNat = b
    rw [wb_sm b hb, BitVec.toNat_ofNat]
    exact Nat.mod_eq_of_lt (by omega)
  have h1 : R / 2 ^ b ≤ R := Nat.div_le_self _ _
  rw [e, wb_a1 (by omega)]
theorem exp_eq {P R : Nat} (hP : P < 2 ^ 31) (h0 : 0 < P) (hR0 : 0 < R) (hR : R < 2 ^ 31) : (lN P * lN P - 1) / lN R = lN ((P * P - 1) / R) := by
  have h1 : P * P ≤ (2 ^ 31 - 1) * (2 ^ 31 - 1) := Nat.mul_le_mul (by omega) (by omega)
  have h2 : 1 * 1 ≤ P * P := Nat.mul_le_mul h0 h0
  rw [lN_mul, l1, lN_sub (by omega), pk_lDiv (by omega) hR0 (by omega)]
theorem exp_lt {P R : Nat} (hP : P < 2 ^ 31) : (P * P - 1) / R < 2 ^ 63 := by
  have h1 : P * P ≤ (2 ^ 31 - 1) * (2 ^ 31 - 1) := Nat.mul_le_mul (by omega) (by omega)
  have h2 : (P * P - 1) / R ≤ P * P - 1 := Nat.div_le_self _ _
  omega
theorem of_loop {P : Nat} [NeZero P] (h : P3 P) (hP : P < 2 ^ 31) {N : Nat} (hN : 100000 ≤ N) {R : Nat} (hR0 : 0 < R) (hR : R < 2 ^ 31) (a : Option (Fin P × Fin P)) (qx qy : Fin P) : ∀ (b n : Nat) (f : Fin P × Fin P) (t : Option (Fin P × Fin P)), b < 64 → b < n → fX1_of_36 N (lN P) (lN R) (ept a) (ept (some (qx, qy))) n (ewd f) (ept t) (nI b + (-1)) = some (ewd (wp ((P * P - 1) / R) (ml h R a qx qy b f t)))
  | 0, n, f, t, hb, hn => by
    obtain ⟨m, rfl⟩ : ∃ m, n = m + 1 := ⟨n - 1, by omega⟩
    rw [fX1_of_36, if_pos (by decide), if_neg (lN_ne0 hR0 (by omega)), exp_eq hP (Nat.pos_of_ne_zero (NeZero.ne P)) hR0 hR, c_wpow h hP hN (exp_lt hP), ob]
    rfl
  | b + 1, n, f, t, hb, hn => by
    obtain ⟨m, rfl⟩ : ∃ m, n = m + 1 := ⟨n - 1, by omega⟩
    rw [fX1_of_36, pk_m1, if_neg (nI_pos (by omega)), c_wm hP, ob, c_line h hP hN, ob, c_wm hP, ob, c_sum h hP hN, ob, shrB hR (by omega), ml]
    by_cases q : R / 2 ^ b % 2 = 1
    · rw [if_pos (eq1N.mpr q), if_pos q, c_line h hP hN, ob, c_wm hP, ob, c_sum h hP hN, ob]
      simp only [bnd]
      exact of_loop h hP hN hR0 hR a qx qy b m _ _ (by omega) (by omega)
    · rw [if_neg (fun z => q (eq1N.mp z)), if_neg q]
      simp only [bnd]
      exact of_loop h hP hN hR0 hR a qx qy b m _ _ (by omega) (by omega)
theorem pair_loop {P : Nat} [NeZero P] (h : P3 P) (hP : P < 2 ^ 31) {N : Nat} (hN : 100000 ≤ N) {R : Nat} (hR0 : 0 < R) (hR : R < 2 ^ 31) (ax ay qx qy : Fin P) : ∀ (b n : Nat) (f : Fin P × Fin P) (t : Option (Fin P × Fin P)) (zx zy : Int64) (zi : Bool) (k : Nat), b < 64 → b < n → MR t zx zy zi → ∃ ox oy oi, fX4_pairOf_68 N (lN P) (lN R) (lv ax) (lv ay) (lv qx) (lv qy) n (nI b + (-1)) zx zy zi (lv f.1) (lv f.2) (nI k) = some (ox, oy, oi, lv (wp ((P * P - 1) / R) (ml h R (some (ax, ay)) qx qy b f t)).1, lv (wp ((P * P - 1) / R) (ml h R (some (ax, ay)) qx qy b f t)).2, nI (k + lc R b))
  | 0, n, f, t, zx, zy, zi, k, hb, hn, hm => by
    obtain ⟨m, rfl⟩ : ∃ m, n = m + 1 := ⟨n - 1, by omega⟩
    have hE := exp_lt (P := P) (R := R) hP
    rw [fX4_pairOf_68, if_pos (by decide), if_neg (lN_ne0 hR0 (by omega)), exp_eq hP (Nat.pos_of_ne_zero (NeZero.ne P)) hR0 hR, m_wpow h hP hN (by omega), ob]
    exact ⟨zx, zy, zi, rfl⟩
  | b + 1, n, f, t, zx, zy, zi, k, hb, hn, hm => by
    obtain ⟨m, rfl⟩ : ∃ m, n = m + 1 := ⟨n - 1, by omega⟩
    rw [fX4_pairOf_68, pk_m1, if_neg (nI_pos (by omega)), m_wm hP, ob, ml]
    obtain ⟨o1, o2, o3, e1, m1⟩ := m_line h hP hN hm hm (wm f f) qx qy (nI k)
    show ∃ ox oy oi, (fX4_line N (lN P) zx zy zi (lv (wm f f).1) (lv (wm f f).2) (nI k) zx zy zi (lv qx) (lv qy)).bind _ = _
    rw [e1, ob]
    show ∃ ox oy oi, (if jshr (lN R) (nI b) &&& 1 = 1 then _ else _) = _
    rw [shrB hR (by omega)]
    by_cases q : R / 2 ^ b % 2 = 1
    · rw [if_pos (eq1N.mpr q), if_pos q]
      obtain ⟨o4, o5, o6, e2, m2⟩ := m_line h hP hN m1 (b := some (ax, ay)) (q0 := lv ax) (q1 := lv ay) (q2 := true) ⟨rfl, rfl, rfl⟩ (wm (wm f f) (ln h.1 t t qx qy)) qx qy (nI k + 1)
      rw [e2, ob]
      simp only [bnd]
      obtain ⟨ox, oy, oi, e3⟩ := pair_loop h hP hN hR0 hR ax ay qx qy b m _ _ o4 o5 o6 (k + 1 + 1) (by omega) (by omega) m2
      rw [nI_1, nI_1, e3]
      refine ⟨ox, oy, oi, ?_⟩
      rw [show k + 1 + 1 + lc R b = k + lc R (b + 1) by rw [lc, q]; omega]
    · rw [if_neg (fun z => q (eq1N.mp z)), if_neg q]
      simp only [bnd]
      obtain ⟨ox, oy, oi, e3⟩ := pair_loop h hP hN hR0 hR ax ay qx qy b m _ _ o1 o2 o3 (k + 1) (by omega) (by omega) m1
      rw [nI_1, e3]
      refine ⟨ox, oy, oi, ?_⟩
      rw [show k + 1 + lc R b = k + lc R (b + 1) by rw [lc]; omega]
/-- the highest bit is sought -/
theorem seek_loop {P : Nat} [NeZero P] (h : P3 P) (hP : P < 2 ^ 31) {N : Nat} (hN : 100000 ≤ N) {R hb : Nat} (hR : R < 2 ^ 31) (h1 : 2 ^ hb ≤ R) (h2 : R < 2 ^ (hb + 1)) (ax ay qx qy : Fin P) : ∀ (d n : Nat), hb + d < 63 → d < n → ∃ ox oy oi, fX4_pairOf_45 N (lN P) (lN R) (lv ax) (lv ay) (lv qx) (lv qy) n (nI (hb + d)) (lv ax) (lv ay) true 1 0 0 = some (ox, oy, oi, lv (wp ((P * P - 1) / R) (ml h R (some (ax, ay)) qx qy hb w1 (some (ax, ay)))).1, lv (wp ((P * P - 1) / R) (ml h R (some (ax, ay)) qx qy hb w1 (some (ax, ay)))).2, nI (lc R hb))
  | 0, n, hd, hn => by
    obtain ⟨m, rfl⟩ : ∃ m, n = m + 1 := ⟨n - 1, by omega⟩
    have hR0 : 0 < R := Nat.lt_of_lt_of_le (Nat.pow_pos (by decide)) h1
    have q : R / 2 ^ hb % 2 = 1 := by
      have k1 : R / 2 ^ hb = 1 := by
        refine Nat.div_eq_of_lt_le (by omega) ?_
        rw [Nat.pow_succ] at h2; omega
      rw [k1]
    rw [fX4_pairOf_45, Nat.add_zero, shrB hR (by omega), if_neg (fun z => by have := eq0N.mp z; omega)]
    simp only [bnd]
    have e0 : (0 : Int64) = lv (0 : Fin P) := ((lv_0 hP).mpr rfl).symm
    obtain ⟨ox, oy, oi, e3⟩ := pair_loop h hP hN hR0 hR ax ay qx qy hb N w1 (some (ax, ay)) (lv ax) (lv ay) true 0 (by omega) (by omega) ⟨rfl, rfl, rfl⟩
    rw [l1P h, e0]
    refine ⟨ox, oy, oi, ?_⟩
    rw [Nat.zero_add] at e3
    exact e3
  | d + 1, n, hd, hn => by
    obtain ⟨m, rfl⟩ : ∃ m, n = m + 1 := ⟨n - 1, by omega⟩
    have q : R / 2 ^ (hb + (d + 1)) = 0 := by
      refine Nat.div_eq_of_lt (Nat.lt_of_lt_of_le h2 (Nat.pow_le_pow_right (by decide) (by omega)))
    rw [fX4_pairOf_45, shrB hR (by omega), if_pos (eq0N.mpr (by rw [q]))]
    simp only [bnd]
    rw [← Nat.add_assoc, pk_m1]
    exact seek_loop h hP hN hR h1 h2 ax ay qx qy d m (by omega) (by omega)
end
