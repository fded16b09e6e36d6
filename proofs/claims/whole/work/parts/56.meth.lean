section
/-! write, read, pair, multiply, power, value, open, sign -/
theorem g_wr {P : Nat} [NeZero P] (hP : P < 2 ^ 31) {s x y : Int64} {i : Bool} (hs : sr P s x y i) : ∃ r, fX3_written s = some r ∧ (if bI i = 0 then some (-1) else some (2 * x + (y &&& 1))) = some r := by
  obtain ⟨u, u1, rfl, u3⟩ := hs
  unfold fX3_written
  match u, u3 with
  | none, u3 => rw [if_pos (show ept (none : Option (Fin P × Fin P)) = -1 from rfl), if_pos ((MR_bI (P := P) (a := none) (zx := x) (zy := y) u3).mpr rfl)]; exact ⟨_, rfl, rfl⟩
  | some (a, b), ⟨k1, k2, k3⟩ =>
    have b2 := b.isLt
    rw [if_neg (ept_n1 hP a b), k1, if_neg bt0, ept_up hP, ept_lo hP, ob, ob, k2, k3]
    refine ⟨_, rfl, ?_⟩
    show some (2 * lv a + (lN b.val &&& 1)) = some (2 * lv a + jrem (lN b.val) 2)
    rw [rem2 (by omega), wb_a1 (by omega)]
theorem g_write {P : Nat} [NeZero P] (hP : P < 2 ^ 31) {zS zpx zpy : Nat → Int64} {zip : Nat → Bool} (hS : SR P zS zpx zpy zip) (q0 : Int32) : ∃ r, fX3_write zS q0 = some r ∧ fX4_write (lN P) zpx zpy zip q0 = some r := by
  unfold fX3_write fX4_write fX4_written
  rw [if_neg (lP0 hP)]
  rcases sl_c q0 with ⟨i, hi, -, a1, a2, a3, a4⟩ | ⟨a1, a2⟩
  case inr => simp only [a1, a2, ob, bif0, if_true]; exact ⟨_, rfl, rfl⟩
  simp only [a1, a2, ob, bit0, if_false]
  simp only [a3, if_false]
  simp only [a4]
  obtain ⟨r, e1, e2⟩ := g_wr hP (hS i hi)
  rw [e1, e2]
  exact ⟨_, rfl, rfl⟩
theorem lN_n2 {a : Nat} (ha : a < 2 ^ 63) : ¬ lN a = (-2) := by
  rw [← Int64.toInt_inj, pk_lT ha]
  have : (-2 : Int64).toInt = -2 := by decide
  omega
theorem ept_n2 {P : Nat} (hP : P < 2 ^ 31) (x y : Fin P) : ¬ ept (some (x, y)) = (-2) := lN_n2 (by have := x.isLt; have := y.isLt; omega)
theorem g_read {P : Nat} [NeZero P] (h : P3 P) (hP : P < 2 ^ 31) {N : Nat} (hN : 100000 ≤ N) {zS zpx zpy : Nat → Int64} {zip : Nat → Bool} (hS : SR P zS zpx zpy zip) (q0 : Int32) (q1 : Int64) : ∃ r tS px py ip, fX3_read N (lN P) zS q0 q1 = some (r, tS) ∧ fX4_read N (lN P) zpx zpy zip q0 q1 = some (r, px, py, ip) ∧ SR P tS px py ip := by
  unfold fX3_read fX4_read fX0_pointWritten
  rw [if_neg (lP0 hP)]
  rcases sl_c q0 with ⟨i, hi, -, a1, a2, a3, a4⟩ | ⟨a1, a2⟩
  case inr => simp only [a1, a2, ob, bif0, if_true]; exact ⟨_, _, _, _, _, rfl, rfl, hS⟩
  simp only [a1, a2, ob, bit0, if_false]
  simp only [a3, if_false]
  simp only [a4]
  by_cases n1 : q1 = -1
  · rw [if_pos n1, if_pos n1, ob, if_neg (by decide)]
    exact ⟨_, _, _, _, _, rfl, rfl, hS.nil i⟩
  rw [if_neg n1, if_neg n1]
  by_cases n2 : q1 < 0
  · rw [if_pos n2, if_pos n2, ob, if_pos (show (-2 : Int64) = -2 from rfl)]
    exact ⟨_, _, _, _, _, rfl, rfl, hS⟩
  rw [if_neg n2, if_neg n2]
  obtain ⟨K, hK, rfl⟩ := pk_lOf n2
  have dv : lN K / 2 = lN (K / 2) := pk_lDiv hK (b := 2) (by decide) (by decide)
  rw [dv]
  by_cases n3 : lN (K / 2) < lN P
  case neg =>
    rw [if_neg n3, if_neg n3, ob, if_pos (show (-2 : Int64) = -2 from rfl)]
    exact ⟨_, _, _, _, _, rfl, rfl, hS⟩
  rw [if_pos n3, if_pos n3]
  rw [pk_lLT (by omega) (by omega)] at n3
  obtain ⟨x, hx⟩ : ∃ x : Fin P, lN (K / 2) = lv x := ⟨⟨K / 2, n3⟩, rfl⟩
  rw [rem2 hK, wb_a1 (by omega)]
  rw [hx, m_curve hP, ob, m_root h hP hN, ob]
  simp only [bnd]
  rw [c_cub hP, ob, c_root h hP hN, ob]
  match hy : er (x * x * x + x) with
  | none =>
    rw [show erI (none : Option (Fin P)) = -1 from rfl]
    rw [if_pos (show (-1 : Int64) = -1 from rfl), ob, if_pos (show (-2 : Int64) = -2 from rfl)]
    refine ⟨_, _, _, _, _, rfl, ?_, hS⟩
    by_cases o : lN (K % 2) = 1
    · rw [if_pos o, if_pos (by decide)]
    · rw [if_neg o, if_pos (by decide)]
  | some y =>
    obtain ⟨s1, s2⟩ := er_even h hy
    rw [show erI (some y) = lv y from rfl]
    have by1 := y.isLt
    have bx1 := x.isLt
    rw [if_neg (lv_neg1 hP y)]
    by_cases y0 : y = 0
    · have z0 : lv y = 0 := (lv_0 hP).mpr y0
      have nn : ¬ lv y < 0 := lv_n0 hP y
      rw [if_pos z0]
      by_cases o : lN (K % 2) = 1
      · rw [if_pos o, if_pos o, if_neg nn, if_pos z0, ob, if_pos (show (-2 : Int64) = -2 from rfl)]
        exact ⟨_, _, _, _, _, rfl, rfl, hS⟩
      · rw [if_neg o, if_neg o, if_neg nn, if_pos z0, ept_jn hP, ob, ob, if_neg (ept_n2 hP _ _)]
        exact ⟨_, _, _, _, _, rfl, rfl, hS.upd i (a := some (x, y)) s1 ⟨rfl, rfl, rfl⟩⟩
    · have z0 : ¬ lv y = 0 := fun z => y0 ((lv_0 hP).mp z)
      have nn : ¬ lv y < 0 := lv_n0 hP y
      have ng : lN P - lv y = lv (-y) := by
        have := fneg_val y0
        show lN P - lN y.val = lN (-y).val
        rw [this, lN_sub (by omega)]
      have on2 : (-y) * (-y) = x * x * x + x := by rw [← s1]; grind
      have by2 := (-y).isLt
      rw [if_neg z0]
      by_cases o : lN (K % 2) = 1
      · rw [if_pos o, if_pos o, if_neg nn, if_neg z0, ng, ept_jn hP, ob, ob, if_neg (ept_n2 hP _ _)]
        exact ⟨_, _, _, _, _, rfl, rfl, hS.upd i (a := some (x, -y)) on2 ⟨rfl, rfl, rfl⟩⟩
      · rw [if_neg o, if_neg o, if_neg nn, if_neg z0, ept_jn hP, ob, ob, if_neg (ept_n2 hP _ _)]
        exact ⟨_, _, _, _, _, rfl, rfl, hS.upd i (a := some (x, y)) s1 ⟨rfl, rfl, rfl⟩⟩
theorem g_takes {P : Nat} [NeZero P] (h : P3 P) (hP : P < 2 ^ 31) {N : Nat} (hN : 100000 ≤ N) {R : Nat} (hR : R < 2 ^ 31) {zS zpx zpy : Nat → Int64} {zip : Nat → Bool} (zx zy : Int64) (zi : Bool) {q : Int32} {i : Nat} (a3 : ¬ (q < 0 ∨ 16 ≤ q.toNatClampNeg)) (a4 : q.toNatClampNeg = i) {u : Option (Fin P × Fin P)} (u1 : eon u) (u3 : MR u (zpx i) (zpy i) (zip i)) : ∃ ox oy oi, fX4_isOfR N (lN P) (lN R) zx zy zi zpx zpy zip q = some (decide (em h.1 R u = none), ox, oy, oi) := by
  unfold fX4_isOfR
  rw [m_load _ _ _ _ _ _ a3 a4]
  simp only [ob]
  obtain ⟨ox, oy, oi, e2, m⟩ := m_take h hP hN (K := R) (by omega) u1 u3
  rw [e2]
  simp only [ob]
  by_cases z : em h.1 R u = none
  · rw [if_pos ((MR_bI m).mpr z), decide_eq_true z]; exact ⟨_, _, _, rfl⟩
  · rw [if_neg (fun q => z ((MR_bI m).mp q)), decide_eq_false z]; exact ⟨_, _, _, rfl⟩
theorem g_pair {P : Nat} [NeZero P] (h : P3 P) (hP : P < 2 ^ 31) {N : Nat} (hN : 100000 ≤ N) {R hb : Nat} (hr : RB R hb) {zS zpx zpy zV zvu zvv : Nat → Int64} {zip : Nat → Bool} (hS : SR P zS zpx zpy zip) (hV : VR P zV zvu zvv) (zx zy zu zv : Int64) (zi : Bool) (zl : Int32) (q0 q1 q2 : Int32) : ∃ r tV ox oy oi ou ov ol vu vv, fX3_pair N (lN P) (lN R) zS zV q0 q1 q2 = some (r, tV) ∧ fX4_pair N (lN P) (lN R) zx zy zi zu zv zl zpx zpy zip zvu zvv q0 q1 q2 = some (r, ox, oy, oi, ou, ov, ol, vu, vv) ∧ VR P tV vu vv := by
  have hr' := hr
  obtain ⟨r1, r2, r3, r4, r5, r6⟩ := hr'
  unfold fX3_pair fX4_pair
  rw [if_neg (lP0 hP)]
  rcases vl_c q0 with ⟨i, hi, -, a1, a2, a3, a4⟩ | ⟨a1, a2⟩
  case inr => simp only [a1, a2, ob, bif0, if_true]; exact ⟨_, _, _, _, _, _, _, _, _, _, rfl, rfl, hV⟩
  simp only [a1, a2, ob, bit0, if_false]
  rcases sl_c q1 with ⟨j, hj, -, b1, b2, b3, b4⟩ | ⟨b1, b2⟩
  case inr => simp only [b1, b2, ob, bif0, if_true]; exact ⟨_, _, _, _, _, _, _, _, _, _, rfl, rfl, hV⟩
  simp only [b1, b2, ob, bit0, if_false]
  rcases sl_c q2 with ⟨k, hk, -, c1, c2, c3, c4⟩ | ⟨c1, c2⟩
  case inr => simp only [c1, c2, ob, bif0, if_true]; exact ⟨_, _, _, _, _, _, _, _, _, _, rfl, rfl, hV⟩
  simp only [c1, c2, ob, bit0, if_false]
  simp only [a3, b3, c3, if_false]
  simp only [a4, b4, c4]
  obtain ⟨u, u1, u2, u3⟩ := hS j hj
  obtain ⟨v, v1, v2, v3⟩ := hS k hk
  obtain ⟨x1, y1, i1, e1⟩ := g_takes (zS := zS) h hP hN r2 zx zy zi b3 b4 u1 u3
  rw [e1, u2, v2, c_takes h hP hN r2 u1]
  simp only [ob]
  by_cases tu : em h.1 R u = none
  case neg =>
    rw [decide_eq_false tu, if_pos bf0, if_pos bf0]
    exact ⟨_, _, _, _, _, _, _, _, _, _, rfl, rfl, hV⟩
  rw [decide_eq_true tu, if_neg bt0, if_neg bt0]
  obtain ⟨x2, y2, i2, e2⟩ := g_takes (zS := zS) h hP hN r2 x1 y1 i1 c3 c4 v1 v3
  rw [e2, c_takes h hP hN r2 v1]
  simp only [ob]
  by_cases tv : em h.1 R v = none
  case neg =>
    rw [decide_eq_false tv, if_pos bf0, if_pos bf0]
    exact ⟨_, _, _, _, _, _, _, _, _, _, rfl, rfl, hV⟩
  rw [decide_eq_true tv, if_neg bt0, if_neg bt0]
  obtain ⟨x3, y3, i3, e3⟩ := m_pairOf h hP hN hr u3 v3 x2 y2 zu zv i2 zl
  rw [c_of h hP hN hr, c_lines hP hr, e3]
  exact ⟨_, _, _, _, _, _, _, _, _, _, rfl, rfl, hV.upd i _⟩
theorem g_keep {P : Nat} [NeZero P] (h : P3 P) (hP : P < 2 ^ 31) {zV zvu zvv : Nat → Int64} (hV : VR P zV zvu zvv) {q : Int32} {i : Nat} (a3 : ¬ (q < 0 ∨ 8 ≤ q.toNatClampNeg)) (a4 : q.toNatClampNeg = i) (w : Fin P × Fin P) {E : Int64} (hE : E = ewd w) : ∃ r vu vv, (if E = 2147483648 then some ((1 : Int32), vp_updL zV i E) else some (0, vp_updL zV i E)) = some (r, vp_updL zV i E) ∧ fX4_keepValue (lv w.1) (lv w.2) zvu zvv q = some (r, vu, vv) ∧ VR P (vp_updL zV i E) vu vv := by
  have hU := hV.upd i w
  rw [← hE] at hU
  unfold fX4_keepValue
  rw [if_neg a3, a4]
  simp only [bnd]
  by_cases z : w = w1
  · rw [if_pos (by rw [hE, z]; exact (w1_e h).symm)]
    refine ⟨_, _, _, rfl, ?_, hU⟩
    have z1 : lv w.1 = 1 := by rw [z]; exact (l1P h).symm
    have z2 : lv w.2 = 0 := by rw [z]; exact (lv_0 hP).mpr rfl
    rw [if_pos z1, if_pos z2]
  · rw [if_neg (fun q => z (ewd_inj hP (by rw [← hE, q]; exact w1_e h)))]
    refine ⟨_, _, _, rfl, ?_, hU⟩
    by_cases z1 : lv w.1 = 1
    · rw [if_pos z1]
      by_cases z2 : lv w.2 = 0
      · exact absurd (Prod.ext ((lv_eq hP).mp (z1.trans (l1P h))) ((lv_0 hP).mp z2)) z
      · rw [if_neg z2]
    · rw [if_neg z1]
theorem g_multiply {P : Nat} [NeZero P] (h : P3 P) (hP : P < 2 ^ 31) {zV zvu zvv : Nat → Int64} (hV : VR P zV zvu zvv) (zu zv : Int64) (q0 q1 q2 : Int32) : ∃ r tV ou ov vu vv, fX3_multiply (lN P) zV q0 q1 q2 = some (r, tV) ∧ fX4_multiply (lN P) zu zv zvu zvv q0 q1 q2 = some (r, ou, ov, vu, vv) ∧ VR P tV vu vv := by
  unfold fX3_multiply fX4_multiply
  rw [if_neg (lP0 hP)]
  rcases vl_c q0 with ⟨i, hi, -, a1, a2, a3, a4⟩ | ⟨a1, a2⟩
  case inr => simp only [a1, a2, ob, bif0, if_true]; exact ⟨_, _, _, _, _, _, rfl, rfl, hV⟩
  simp only [a1, a2, ob, bit0, if_false]
  rcases vl_c q1 with ⟨j, hj, -, b1, b2, b3, b4⟩ | ⟨b1, b2⟩
  case inr => simp only [b1, b2, ob, bif0, if_true]; exact ⟨_, _, _, _, _, _, rfl, rfl, hV⟩
  simp only [b1, b2, ob, bit0, if_false]
  rcases vl_c q2 with ⟨k, hk, -, c1, c2, c3, c4⟩ | ⟨c1, c2⟩
  case inr => simp only [c1, c2, ob, bif0, if_true]; exact ⟨_, _, _, _, _, _, rfl, rfl, hV⟩
  simp only [c1, c2, ob, bit0, if_false]
  simp only [a3, b3, c3, if_false]
  simp only [a4, b4, c4]
  obtain ⟨u, u1, u2, u3⟩ := hV j hj
  obtain ⟨v, v1, v2, v3⟩ := hV k hk
  obtain ⟨E, hE⟩ : ∃ E, E = ewd (wm u v) := ⟨_, rfl⟩
  have ec := c_wm hP u v
  rw [← hE, ← u1, ← v1] at ec
  have em := m_wm hP u v
  obtain ⟨r, vu, vv, k1, k2, k3⟩ := g_keep h hP hV a3 a4 (wm u v) hE
  rw [ec]
  simp only [bnd]
  rw [u2, u3, v2, v3, em]
  simp only [ob, upd_at]
  rw [k1, k2]
  exact ⟨_, _, _, _, _, _, rfl, rfl, k3⟩
theorem g_power {P : Nat} [NeZero P] (h : P3 P) (hP : P < 2 ^ 31) {N : Nat} (hN : 100000 ≤ N) {zV zvu zvv : Nat → Int64} (hV : VR P zV zvu zvv) (zu zv : Int64) (q0 q1 : Int32) (q2 : Int64) : ∃ r tV ou ov vu vv, fX3_power N (lN P) zV q0 q1 q2 = some (r, tV) ∧ fX4_power N (lN P) zu zv zvu zvv q0 q1 q2 = some (r, ou, ov, vu, vv) ∧ VR P tV vu vv := by
  unfold fX3_power fX4_power
  rw [if_neg (lP0 hP)]
  rcases vl_c q0 with ⟨i, hi, -, a1, a2, a3, a4⟩ | ⟨a1, a2⟩
  case inr => simp only [a1, a2, ob, bif0, if_true]; exact ⟨_, _, _, _, _, _, rfl, rfl, hV⟩
  simp only [a1, a2, ob, bit0, if_false]
  rcases vl_c q1 with ⟨j, hj, -, b1, b2, b3, b4⟩ | ⟨b1, b2⟩
  case inr => simp only [b1, b2, ob, bif0, if_true]; exact ⟨_, _, _, _, _, _, rfl, rfl, hV⟩
  simp only [b1, b2, ob, bit0, if_false]
  by_cases g : 0 ≤ q2
  case neg => rw [if_neg g, if_neg g]; exact ⟨_, _, _, _, _, _, rfl, rfl, hV⟩
  rw [if_pos g, if_pos g]
  simp only [a3, b3, if_false]
  simp only [a4, b4]
  obtain ⟨K, hK, rfl⟩ := pk_lOf (x := q2) (by rw [Int64.lt_iff_toInt_lt]; rw [Int64.le_iff_toInt_le] at g; omega)
  obtain ⟨u, u1, u2, u3⟩ := hV j hj
  obtain ⟨E, hE⟩ : ∃ E, E = ewd (wp K u) := ⟨_, rfl⟩
  have ec := c_wpow h hP hN hK u
  rw [← hE, ← u1] at ec
  have em := m_wpow h hP hN (K := K) (by omega) u
  obtain ⟨r, vu, vv, k1, k2, k3⟩ := g_keep h hP hV a3 a4 (wp K u) hE
  rw [ec]
  simp only [bnd]
  rw [u2, u3, em]
  simp only [ob, upd_at]
  rw [k1, k2]
  exact ⟨_, _, _, _, _, _, rfl, rfl, k3⟩
theorem g_value {P : Nat} [NeZero P] (hP : P < 2 ^ 31) {zV zvu zvv : Nat → Int64} (hV : VR P zV zvu zvv) (q0 q1 : Int32) : ∃ r, fX3_value zV q0 q1 = some r ∧ fX4_value (lN P) zvu zvv q0 q1 = some r := by
  unfold fX3_value fX4_value
  rw [if_neg (lP0 hP)]
  rcases vl_c q0 with ⟨i, hi, -, a1, a2, a3, a4⟩ | ⟨a1, a2⟩
  case inr => simp only [a1, a2, ob, bif0, if_true]; exact ⟨_, rfl, rfl⟩
  simp only [a1, a2, ob, bit0, if_false]
  rcases hf_c q1 with ⟨b1, b2⟩ | ⟨b1, b2⟩
  case inr => simp only [b1, b2, ob, bif0, if_true]; exact ⟨_, rfl, rfl⟩
  simp only [b1, b2, ob, bit0, if_false]
  simp only [a3, if_false]
  simp only [a4]
  obtain ⟨u, u1, u2, u3⟩ := hV i hi
  rw [u1, u2, u3]
  show ∃ r, (fX3_half (lN (u.1.val * 2147483648 + u.2.val)) q1).bind (fun r9 => some r9) = some r ∧ _
  rw [g_half hP]
  by_cases z : q1 = 0
  · rw [if_pos z]; exact ⟨_, rfl, rfl⟩
  · rw [if_neg z]; exact ⟨_, rfl, rfl⟩
end
