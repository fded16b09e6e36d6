section
/-! the methods of class and model, with a field: the same answer, the cells kept alike -/
theorem g_told {P : Nat} [NeZero P] {R H : Nat} (hP : P < 2 ^ 31) (q : Int32) : ∃ r, fX3_told (lN P) (lN R) (lN H) q = some r ∧ fX4_told (lN P) (lN R) (lN H) q = some r := by
  unfold fX3_told fX4_told
  rw [in_d, ob]
  have e0 : (0 : Int64).toInt = 0 := by decide
  have e1 : (2 : Int64).toInt = 2 := by decide
  have e2 : (0 : Int32).toInt = 0 := by decide
  have e3 : (2 : Int32).toInt = 2 := by decide
  by_cases h0 : q < 0
  · rw [if_pos h0]
    rw [Int32.lt_iff_toInt_lt] at h0
    exact ⟨_, rfl, by rw [decide_eq_false (by omega)]; rfl⟩
  · rw [if_neg h0]
    by_cases h1 : q ≤ 2
    · rw [if_pos h1]
      rw [Int32.lt_iff_toInt_lt] at h0
      rw [Int32.le_iff_toInt_le] at h1
      rw [decide_eq_true (by omega), if_neg bt0, if_neg (lP0 hP)]
      by_cases a0 : q = 0
      · rw [if_pos a0]; exact ⟨_, rfl, rfl⟩
      · rw [if_neg a0]; exact ⟨_, (show (if q = 1 then some (lN R).toInt32 else some (lN H).toInt32) = some (if q = 1 then (lN R).toInt32 else (lN H).toInt32) by split <;> rfl), by split <;> rfl⟩
    · rw [if_neg h1]
      rw [Int32.le_iff_toInt_le] at h1
      exact ⟨_, rfl, by rw [decide_eq_false (by omega)]; rfl⟩
theorem g_root {P : Nat} [NeZero P] (h : P3 P) (hP : P < 2 ^ 31) {N : Nat} (hN : 100000 ≤ N) (q : Int32) : ∃ r, fX3_root N (lN P) q = some r ∧ fX4_root N (lN P) q = some r := by
  unfold fX3_root fX4_root
  rw [if_neg (lP0 hP)]
  rcases has_c hP q with ⟨x, hx, h1, h2⟩ | ⟨h1, h2⟩
  · rw [h1, h2, ob, ob, hx, c_root h hP hN, m_root h hP hN]
    exact ⟨_, rfl, rfl⟩
  · rw [h1, h2]; exact ⟨_, rfl, rfl⟩
theorem m_store (zx zy : Int64) (zi : Bool) (zpx zpy : Nat → Int64) (zip : Nat → Bool) {q : Int32} {i : Nat} (h1 : ¬ (q < 0 ∨ 16 ≤ q.toNatClampNeg)) (h2 : q.toNatClampNeg = i) : fX4_store zx zy zi zpx zpy zip q = some (vp_updL zpx i zx, vp_updL zpy i zy, uB zip i zi) := by
  unfold fX4_store
  rw [if_neg h1, h2]
  rfl
theorem m_load (zx zy : Int64) (zi : Bool) (zpx zpy : Nat → Int64) (zip : Nat → Bool) {q : Int32} {i : Nat} (h1 : ¬ (q < 0 ∨ 16 ≤ q.toNatClampNeg)) (h2 : q.toNatClampNeg = i) : fX4_load zx zy zi zpx zpy zip q = some (zpx i, zpy i, zip i) := by
  unfold fX4_load
  rw [if_neg h1, h2]
  rfl
theorem g_point {P : Nat} [NeZero P] (hP : P < 2 ^ 31) {zS zpx zpy : Nat → Int64} {zip : Nat → Bool} (hS : SR P zS zpx zpy zip) (zx zy : Int64) (zi : Bool) (q0 q1 q2 : Int32) : ∃ r tS ox oy oi px py ip, fX3_point (lN P) zS q0 q1 q2 = some (r, tS) ∧ fX4_point (lN P) zx zy zi zpx zpy zip q0 q1 q2 = some (r, ox, oy, oi, px, py, ip) ∧ SR P tS px py ip := by
  unfold fX3_point fX4_point
  rw [if_neg (lP0 hP)]
  rcases sl_c q0 with ⟨i, hi, -, a1, a2, a3, a4⟩ | ⟨a1, a2⟩
  case inr => simp only [a1, a2, ob, bif0, if_true]; exact ⟨_, _, _, _, _, _, _, _, rfl, rfl, hS⟩
  simp only [a1, a2, ob, bit0, if_false]
  rcases has_c hP q1 with ⟨x, hx, b1, b2⟩ | ⟨b1, b2⟩
  case inr => simp only [b1, b2, ob, bif0, if_true]; exact ⟨_, _, _, _, _, _, _, _, rfl, rfl, hS⟩
  simp only [b1, b2, ob, bit0, if_false]
  rcases has_c hP q2 with ⟨y, hy, c1, c2⟩ | ⟨c1, c2⟩
  case inr => simp only [c1, c2, ob, bif0, if_true]; exact ⟨_, _, _, _, _, _, _, _, rfl, rfl, hS⟩
  simp only [c1, c2, ob, bit0, if_false]
  simp only [hx, hy]
  rw [c_passes hP, m_curve hP, ob, ob, remv hP]
  by_cases e : y * y = x * x * x + x
  · rw [decide_eq_true e, if_neg bt0, if_pos (by rw [e]), ept_jn hP, ob, if_neg a3, a4, m_store _ _ _ _ _ _ a3 a4]
    exact ⟨_, _, _, _, _, _, _, _, rfl, rfl, hS.upd i (a := some (x, y)) e ⟨rfl, rfl, rfl⟩⟩
  · rw [decide_eq_false e, if_pos bf0, if_neg (fun z => e ((lv_eq hP).mp z))]
    exact ⟨_, _, _, _, _, _, _, _, rfl, rfl, hS⟩
theorem g_nowhere {P : Nat} [NeZero P] (hP : P < 2 ^ 31) {zS zpx zpy : Nat → Int64} {zip : Nat → Bool} (hS : SR P zS zpx zpy zip) (q0 : Int32) : ∃ r tS ip, fX3_nowhere zS q0 = some (r, tS) ∧ fX4_nowhere (lN P) zip q0 = some (r, ip) ∧ SR P tS zpx zpy ip := by
  unfold fX3_nowhere fX4_nowhere
  rw [if_neg (lP0 hP)]
  rcases sl_c q0 with ⟨i, hi, -, a1, a2, a3, a4⟩ | ⟨a1, a2⟩
  case inr => simp only [a1, a2, ob, bif0, if_true]; exact ⟨_, _, _, rfl, rfl, hS⟩
  simp only [a1, a2, ob, bit0, if_false]
  rw [if_neg a3, if_neg a3, a4]
  exact ⟨_, _, _, rfl, rfl, hS.nil i⟩
theorem g_turn {P : Nat} [NeZero P] (h : P3 P) (hP : P < 2 ^ 31) {N : Nat} (hN : 100000 ≤ N) {H : Nat} (hH : H < 2 ^ 63) {zS zpx zpy : Nat → Int64} {zip : Nat → Bool} (hS : SR P zS zpx zpy zip) (zt : Int32) (zx zy : Int64) (zi : Bool) (q0 : Int32) (q1 : Int64) : ∃ r t tS ox oy oi px py ip, fX3_turn N (lN P) (lN H) zt zS q0 q1 = some (r, t, tS) ∧ fX4_turn N (lN P) (lN H) zx zy zi zpx zpy zip q0 q1 = some (r, ox, oy, oi, px, py, ip) ∧ SR P tS px py ip := by
  unfold fX3_turn fX4_turn
  rw [if_neg (lP0 hP)]
  rcases sl_c q0 with ⟨i, hi, -, a1, a2, a3, a4⟩ | ⟨a1, a2⟩
  case inr => simp only [a1, a2, ob, bif0, if_true]; exact ⟨_, _, _, _, _, _, _, _, _, rfl, rfl, hS⟩
  simp only [a1, a2, ob, bit0, if_false]
  obtain ⟨K, hK, rfl⟩ := wb_of q1
  obtain ⟨ox, oy, oi, e, m⟩ := m_turnOf h hP hN hH hK zx zy zi
  rw [c_turned h hP hN hH hK, e]
  simp only [ob]
  rw [if_neg a3, a4, m_store _ _ _ _ _ _ a3 a4]
  exact ⟨_, _, _, _, _, _, _, _, _, rfl, rfl, hS.upd i (tn_on h H _ _ _) m⟩
theorem g_add {P : Nat} [NeZero P] (h : P3 P) (hP : P < 2 ^ 31) {N : Nat} (hN : 100000 ≤ N) {zS zpx zpy : Nat → Int64} {zip : Nat → Bool} (hS : SR P zS zpx zpy zip) (zx zy : Int64) (zi : Bool) (q0 q1 q2 : Int32) : ∃ r tS ox oy oi px py ip, fX3_add N (lN P) zS q0 q1 q2 = some (r, tS) ∧ fX4_add N (lN P) zx zy zi zpx zpy zip q0 q1 q2 = some (r, ox, oy, oi, px, py, ip) ∧ SR P tS px py ip := by
  unfold fX3_add fX4_add
  rw [if_neg (lP0 hP)]
  rcases sl_c q0 with ⟨i, hi, -, a1, a2, a3, a4⟩ | ⟨a1, a2⟩
  case inr => simp only [a1, a2, ob, bif0, if_true]; exact ⟨_, _, _, _, _, _, _, _, rfl, rfl, hS⟩
  simp only [a1, a2, ob, bit0, if_false]
  rcases sl_c q1 with ⟨j, hj, -, b1, b2, b3, b4⟩ | ⟨b1, b2⟩
  case inr => simp only [b1, b2, ob, bif0, if_true]; exact ⟨_, _, _, _, _, _, _, _, rfl, rfl, hS⟩
  simp only [b1, b2, ob, bit0, if_false]
  rcases sl_c q2 with ⟨k, hk, -, c1, c2, c3, c4⟩ | ⟨c1, c2⟩
  case inr => simp only [c1, c2, ob, bif0, if_true]; exact ⟨_, _, _, _, _, _, _, _, rfl, rfl, hS⟩
  simp only [c1, c2, ob, bit0, if_false]
  obtain ⟨u, u1, u2, u3⟩ := hS j hj
  obtain ⟨v, v1, v2, v3⟩ := hS k hk
  obtain ⟨ox, oy, oi, e, m⟩ := m_plus h hP hN u3 v3
  rw [m_load _ _ _ _ _ _ b3 b4]
  simp only [ob]
  simp only [a3, b3, c3, if_false]
  simp only [a4, b4, c4]
  rw [u2, v2, c_sum h hP hN, e]
  simp only [ob, bnd, upd_at]
  rw [m_store _ _ _ _ _ _ a3 a4]
  simp only [ob]
  have on : eon (eadd h.1 u v) := e_cl h u1 v1
  by_cases z : eadd h.1 u v = none
  · rw [if_pos ((MR_bI m).mpr z), if_pos ((ept_m1 hP _).mpr z)]
    exact ⟨_, _, _, _, _, _, _, _, rfl, rfl, hS.upd i on m⟩
  · rw [if_neg (fun q => z ((MR_bI m).mp q)), if_neg (fun q => z ((ept_m1 hP _).mp q))]
    exact ⟨_, _, _, _, _, _, _, _, rfl, rfl, hS.upd i on m⟩
theorem g_times {P : Nat} [NeZero P] (h : P3 P) (hP : P < 2 ^ 31) {N : Nat} (hN : 100000 ≤ N) {zS zpx zpy : Nat → Int64} {zip : Nat → Bool} (hS : SR P zS zpx zpy zip) (zx zy : Int64) (zi : Bool) (q0 q1 : Int32) (q2 : Int64) : ∃ r tS ox oy oi px py ip, fX3_times N (lN P) zS q0 q1 q2 = some (r, tS) ∧ fX4_times N (lN P) zx zy zi zpx zpy zip q0 q1 q2 = some (r, ox, oy, oi, px, py, ip) ∧ SR P tS px py ip := by
  unfold fX3_times fX4_times
  rw [if_neg (lP0 hP)]
  rcases sl_c q0 with ⟨i, hi, -, a1, a2, a3, a4⟩ | ⟨a1, a2⟩
  case inr => simp only [a1, a2, ob, bif0, if_true]; exact ⟨_, _, _, _, _, _, _, _, rfl, rfl, hS⟩
  simp only [a1, a2, ob, bit0, if_false]
  rcases sl_c q1 with ⟨j, hj, -, b1, b2, b3, b4⟩ | ⟨b1, b2⟩
  case inr => simp only [b1, b2, ob, bif0, if_true]; exact ⟨_, _, _, _, _, _, _, _, rfl, rfl, hS⟩
  simp only [b1, b2, ob, bit0, if_false]
  obtain ⟨u, u1, u2, u3⟩ := hS j hj
  rw [m_load _ _ _ _ _ _ b3 b4]
  simp only [ob]
  simp only [a3, b3, if_false]
  simp only [a4, b4]
  rw [u2, c_mult h hP hN q2 u1]
  simp only [ob, bnd, upd_at]
  have on : eon (em h.1 (q2.toInt % ((P : Int) + 1)).toNat u) := em_on h u1 _
  have fin : ∀ {ox oy : Int64} {oi : Bool}, MR (em h.1 (q2.toInt % ((P : Int) + 1)).toNat u) ox oy oi → ∃ r tS ox' oy' oi' px py ip, (if ept (em h.1 (q2.toInt % ((P : Int) + 1)).toNat u) = -1 then some ((0 : Int32), vp_updL zS i (ept (em h.1 (q2.toInt % ((P : Int) + 1)).toNat u))) else some (1, vp_updL zS i (ept (em h.1 (q2.toInt % ((P : Int) + 1)).toNat u)))) = some (r, tS) ∧ ((fX4_store ox oy oi zpx zpy zip q0).bind fun (o17, o18, o19) => if (bI oi) = 0 then some ((0 : Int32), ox, oy, oi, o17, o18, o19) else some (1, ox, oy, oi, o17, o18, o19)) = some (r, ox', oy', oi', px, py, ip) ∧ SR P tS px py ip := by
    intro ox oy oi m
    rw [m_store _ _ _ _ _ _ a3 a4]
    simp only [ob]
    by_cases z : em h.1 (q2.toInt % ((P : Int) + 1)).toNat u = none
    · rw [if_pos ((MR_bI m).mpr z), if_pos ((ept_m1 hP _).mpr z)]
      exact ⟨_, _, _, _, _, _, _, _, rfl, rfl, hS.upd i on m⟩
    · rw [if_neg (fun q => z ((MR_bI m).mp q)), if_neg (fun q => z ((ept_m1 hP _).mp q))]
      exact ⟨_, _, _, _, _, _, _, _, rfl, rfl, hS.upd i on m⟩
  by_cases g : 0 ≤ q2
  · rw [if_pos g]
    obtain ⟨K, hK, e⟩ := pk_lOf (x := q2) (by rw [Int64.lt_iff_toInt_lt]; rw [Int64.le_iff_toInt_le] at g; omega)
    obtain ⟨ox, oy, oi, e2, m⟩ := m_take h hP hN (K := K) (by omega) u1 u3
    have ek : em h.1 K u = em h.1 (q2.toInt % ((P : Int) + 1)).toNat u := by
      rw [e, pk_lT hK]
      have t : ((K : Int) % ((P : Int) + 1)) = ((K % (P + 1) : Nat) : Int) := by rw [Int.natCast_emod]; rfl
      rw [t, Int.toNat_natCast]
      exact ((e_ab h).modz u1 (e_lag h u1) K).symm
    rw [ek] at m
    have e3 : fX4_take N (lN P) (zpx j) (zpy j) (zip j) q2 = some (ox, oy, oi) := by rw [e]; exact e2
    rw [e3, ob]
    exact fin m
  · rw [if_neg g]
    have gz : q2.toInt < 0 := by
      rw [Int64.le_iff_toInt_le] at g
      have e0 : (0 : Int64).toInt = 0 := by decide
      omega
    have lo := Int64.le_toInt q2
    have e1 : -q2 = lN (-q2.toInt).toNat := by
      rw [lI_N, show (((-q2.toInt).toNat : Nat) : Int) = -q2.toInt by omega]
      show -q2 = Int64.ofInt (-q2.toInt)
      rw [Int64.ofInt_neg, Int64.ofInt_toInt]
    have mn : MR (eneg u) (zpx j) (jrem (lN P - zpy j) (lN P)) (zip j) := by
      match u, u3 with
      | none, u3 => exact u3
      | some (x, y), ⟨k1, k2, k3⟩ => exact ⟨k1, k2, by rw [k3, c_neg hP]⟩
    obtain ⟨ox, oy, oi, e2, m⟩ := m_take h hP hN (K := (-q2.toInt).toNat) (by omega) (eneg_on u1) mn
    rw [← em_neg h u1 (z := q2.toInt) (by omega)] at m
    have e3 : fX4_take N (lN P) (zpx j) (jrem (lN P - zpy j) (lN P)) (zip j) (-q2) = some (ox, oy, oi) := by rw [e1]; exact e2
    rw [e3, ob]
    exact fin m
theorem g_half {P : Nat} (hP : P < 2 ^ 31) (x y : Fin P) {q : Int32} : fX3_half (lN (x.val * 2147483648 + y.val)) q = if q = 0 then some (lv x).toInt32 else some (lv y).toInt32 := by
  have b1 := x.isLt
  have b2 := y.isLt
  unfold fX3_half
  rw [n_up (by omega) (by omega), n_lo (by omega) (by omega)]
  rfl
theorem g_at {P : Nat} [NeZero P] (hP : P < 2 ^ 31) {zS zpx zpy : Nat → Int64} {zip : Nat → Bool} (hS : SR P zS zpx zpy zip) (q0 q1 : Int32) : ∃ r, fX3_at zS q0 q1 = some r ∧ fX4_at (lN P) zpx zpy zip q0 q1 = some r := by
  unfold fX3_at fX4_at
  rw [if_neg (lP0 hP)]
  rcases sl_c q0 with ⟨i, hi, -, a1, a2, a3, a4⟩ | ⟨a1, a2⟩
  case inr => simp only [a1, a2, ob, bif0, if_true]; exact ⟨_, rfl, rfl⟩
  simp only [a1, a2, ob, bit0, if_false]
  rcases hf_c q1 with ⟨b1, b2⟩ | ⟨b1, b2⟩
  case inr => simp only [b1, b2, ob, bif0, if_true]; exact ⟨_, rfl, rfl⟩
  simp only [b1, b2, ob, bit0, if_false]
  simp only [a3, if_false]
  simp only [a4]
  obtain ⟨u, u1, u2, u3⟩ := hS i hi
  rw [u2]
  match u, u3 with
  | none, u3 => rw [if_pos (show ept (none : Option (Fin P × Fin P)) = -1 from rfl), if_pos ((MR_bI (P := P) (a := none) (zx := 0) (zy := 0) u3).mpr rfl)]; exact ⟨_, rfl, rfl⟩
  | some (x, y), ⟨k1, k2, k3⟩ =>
    rw [if_neg (ept_n1 hP x y), k1, if_neg bt0, k2, k3]
    show ∃ r, (fX3_half (lN (x.val * 2147483648 + y.val)) q1).bind (fun r9 => some r9) = some r ∧ _
    rw [g_half hP]
    by_cases z : q1 = 0
    · rw [if_pos z]; exact ⟨_, rfl, rfl⟩
    · rw [if_neg z]; exact ⟨_, rfl, rfl⟩
end
