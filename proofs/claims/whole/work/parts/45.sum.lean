section
noncomputable def es {P : Nat} [NeZero P] (hp : Pr P) (x1 y1 x2 y2 : Fin P) : Fin P := if x1 = x2 then (3 * (x1 * x1) + 1) * fin_inv hp (2 * y1) else (y2 - y1) * fin_inv hp (x2 - x1)
theorem eadd_ss {P : Nat} [NeZero P] (hp : Pr P) (x1 y1 x2 y2 : Fin P) : eadd hp (some (x1, y1)) (some (x2, y2)) = if x1 = x2 ∧ y1 + y2 = 0 then none else some (es hp x1 y1 x2 y2 * es hp x1 y1 x2 y2 - x1 - x2, es hp x1 y1 x2 y2 * (x1 - (es hp x1 y1 x2 y2 * es hp x1 y1 x2 y2 - x1 - x2)) - y1) := rfl
theorem eadd_r {P : Nat} [NeZero P] (hp : Pr P) (a : Option (Fin P × Fin P)) : eadd hp a none = a := by
  match a with
  | none => rfl
  | some _ => rfl
theorem c_3a {P : Nat} [NeZero P] (hP : P < 2 ^ 31) (a : Fin P) : jrem (3 * lv a + 1) (lN P) = lv (3 * a + 1) := by
  have ha := a.isLt
  have e : 3 * lv a + 1 = lN (3 * a.val + 1) := by
    rw [show (3 : Int64) = lN 3 from rfl]
    unfold lv
    rw [lN_mul, lN_1]
  rw [e]
  refine rem_R hP ?_ (by omega)
  rw [Int.natCast_add, Int.natCast_mul]
  exact Rp_add (Rp_mul (Rp_nat 3) (Rp_val a)) (Rp_nat 1)
theorem c_2a {P : Nat} [NeZero P] (hP : P < 2 ^ 31) (a : Fin P) : jrem (2 * lv a) (lN P) = lv (2 * a) := by
  have ha := a.isLt
  have e : 2 * lv a = lN (2 * a.val) := by
    rw [l2]
    unfold lv
    rw [lN_mul]
  rw [e]
  refine rem_R hP ?_ (by omega)
  rw [Int.natCast_mul]
  exact Rp_mul (Rp_nat 2) (Rp_val a)
theorem c_slope {P : Nat} [NeZero P] (h : P3 P) (hP : P < 2 ^ 31) {N : Nat} (hN : 100000 ≤ N) (x1 y1 x2 y2 : Fin P) : fX0_slope N (lN P) (ept (some (x1, y1))) (ept (some (x2, y2))) = some (lv (es h.1 x1 y1 x2 y2)) := by
  unfold fX0_slope es
  rw [ept_up hP x1 y1, ept_lo hP x1 y1, ept_up hP x2 y2, ept_lo hP x2 y2, ob, ob, ob]
  by_cases q : x1 = x2
  · rw [if_pos ((lv_eq hP).mpr q), if_pos q, c_mul hP, ob, if_neg (lP0 hP)]
    simp only [bnd]
    rw [c_3a hP, c_2a hP, c_inv h.1 hP hN, ob, c_mul hP, ob]
  · rw [if_neg (fun z => q ((lv_eq hP).mp z)), if_neg q, ob, c_sub hP, ob, ob, c_sub hP, ob, c_inv h.1 hP hN, ob, c_mul hP, ob]
theorem c_sum {P : Nat} [NeZero P] (h : P3 P) (hP : P < 2 ^ 31) {N : Nat} (hN : 100000 ≤ N) : ∀ (a b : Option (Fin P × Fin P)), fX0_sum N (lN P) (ept a) (ept b) = some (ept (eadd h.1 a b))
  | none, b => by
    unfold fX0_sum
    rw [if_pos (show ept (none : Option (Fin P × Fin P)) = (-1) from rfl)]; rfl
  | some (x1, y1), none => by
    unfold fX0_sum
    rw [if_neg (ept_n1 hP x1 y1), if_pos (show ept (none : Option (Fin P × Fin P)) = (-1) from rfl)]; rfl
  | some (x1, y1), some (x2, y2) => by
    unfold fX0_sum
    rw [if_neg (ept_n1 hP x1 y1), if_neg (ept_n1 hP x2 y2), c_opp hP, ob, eadd_ss]
    by_cases q : x1 = x2 ∧ y1 + y2 = 0
    · rw [decide_eq_true q, if_neg (by decide), if_pos q]; rfl
    · rw [decide_eq_false q, if_pos (by decide), if_neg q, c_slope h hP hN, ob, c_mul hP, ob, ept_up hP x1 y1, ept_up hP x2 y2, ept_lo hP x1 y1, ob, c_sub hP, ob, ob, c_sub hP, ob, ob, c_sub hP, ob, c_mul hP, ob, ob, c_sub hP, ob, ept_jn hP, ob]
/-- a point in the model's three fields -/
def MR {P : Nat} : Option (Fin P × Fin P) → Int64 → Int64 → Bool → Prop
  | none, _, _, i => i = false
  | some (x, y), zx, zy, i => i = true ∧ zx = lv x ∧ zy = lv y
theorem m_slope {P : Nat} [NeZero P] (h : P3 P) (hP : P < 2 ^ 31) {N : Nat} (hN : 100000 ≤ N) (x1 y1 x2 y2 : Fin P) : fX4_slope N (lN P) (lv x1) (lv y1) (lv x2) (lv y2) = some (lv (es h.1 x1 y1 x2 y2)) := by
  have b1 := x1.isLt
  have b2 := x2.isLt
  have b3 := y1.isLt
  have b4 := y2.isLt
  unfold fX4_slope es
  by_cases q : x1 = x2
  · have e : 2 * lv y1 = lI (2 * (y1.val : Int)) := by rw [lv_I, show (2 : Int64) = lI 2 from rfl, lI_mul]
    rw [if_pos ((lv_eq hP).mpr q), if_pos q, if_neg (lP0 hP), e, m_inv h hP hN (show Rp (2 * (y1.val : Int)) (2 * y1) from Rp_mul (Rp_nat 2) (Rp_val y1)) (by omega) (by omega), ob, remv hP, c_3a hP, remv hP]
  · have e1 : lv y2 - lv y1 = lI ((y2.val : Int) - y1.val) := by rw [lv_I, lv_I, lI_sub]
    have e2 : lv x2 - lv x1 = lI ((x2.val : Int) - x1.val) := by rw [lv_I, lv_I, lI_sub]
    rw [if_neg (fun z => q ((lv_eq hP).mp z)), if_neg q, e1, fit_R hP (Rp_sub (Rp_val y2) (Rp_val y1)) (by omega) (by omega), ob, e2, m_inv h hP hN (Rp_sub (Rp_val x2) (Rp_val x1)) (by omega) (by omega), ob, if_neg (lP0 hP), remv hP]
theorem m_fit2 {P : Nat} [NeZero P] (hP : P < 2 ^ 31) (a b : Fin P) : fX4_fit (lN P) (lv a - lv b) = some (lv (a - b)) := by
  have b1 := a.isLt
  have b2 := b.isLt
  have e1 : lv a - lv b = lI ((a.val : Int) - b.val) := by rw [lv_I, lv_I, lI_sub]
  rw [e1, fit_R hP (Rp_sub (Rp_val a) (Rp_val b)) (by omega) (by omega)]
theorem m_fit3 {P : Nat} [NeZero P] (hP : P < 2 ^ 31) (a b c : Fin P) : fX4_fit (lN P) (lv a - lv b - lv c) = some (lv (a - b - c)) := by
  have b1 := a.isLt
  have b2 := b.isLt
  have b3 := c.isLt
  have e1 : lv a - lv b - lv c = lI ((a.val : Int) - b.val - c.val) := by rw [lv_I, lv_I, lv_I, lI_sub, lI_sub]
  rw [e1, fit_R hP (Rp_sub (Rp_sub (Rp_val a) (Rp_val b)) (Rp_val c)) (by omega) (by omega)]
theorem m_tail {P : Nat} [NeZero P] (hP : P < 2 ^ 31) (s x1 y1 x2 : Fin P) (i : Bool) : ((fX4_fit (lN P) (((jrem (lv s * lv s) (lN P)) - lv x1) - lv x2)).bind fun r17 => (fX4_fit (lN P) (lv x1 - r17)).bind fun r19 => (fX4_fit (lN P) ((jrem (lv s * r19) (lN P)) - lv y1)).bind fun r21 => some (r17, r21, i)) = some (lv (s * s - x1 - x2), lv (s * (x1 - (s * s - x1 - x2)) - y1), i) := by
  rw [remv hP, m_fit3 hP, ob, m_fit2 hP, ob, remv hP, m_fit2 hP, ob]
theorem m_plus {P : Nat} [NeZero P] (h : P3 P) (hP : P < 2 ^ 31) {N : Nat} (hN : 100000 ≤ N) {a b : Option (Fin P × Fin P)} {zx zy q0 q1 : Int64} {zi q2 : Bool} (ha : MR a zx zy zi) (hb : MR b q0 q1 q2) : ∃ ox oy oi, fX4_plus N (lN P) zx zy zi q0 q1 q2 = some (ox, oy, oi) ∧ MR (eadd h.1 a b) ox oy oi := by
  match a, b, ha, hb with
  | a, none, ha, hb =>
    have hb : q2 = false := hb
    subst hb
    refine ⟨zx, zy, zi, ?_, by rw [eadd_r]; exact ha⟩
    unfold fX4_plus
    rw [if_pos (by decide)]
  | none, some (x2, y2), ha, hb =>
    have ha : zi = false := ha
    obtain ⟨rfl, rfl, rfl⟩ := hb
    subst ha
    refine ⟨lv x2, lv y2, true, ?_, ⟨rfl, rfl, rfl⟩⟩
    unfold fX4_plus
    rw [if_neg (by decide), if_pos (by decide)]
  | some (x1, y1), some (x2, y2), ha, hb =>
    obtain ⟨rfl, rfl, rfl⟩ := ha
    obtain ⟨rfl, rfl, rfl⟩ := hb
    rw [eadd_ss]
    unfold fX4_plus
    rw [if_neg (by decide), if_neg (by decide)]
    by_cases q : x1 = x2
    · rw [if_pos ((lv_eq hP).mpr q), if_neg (lP0 hP), c_addmod hP]
      by_cases q2 : y1 + y2 = 0
      · rw [if_pos ((lv_0 hP).mpr q2), if_pos ⟨q, q2⟩]
        exact ⟨_, _, _, rfl, rfl⟩
      · rw [if_neg (fun z => q2 ((lv_0 hP).mp z)), if_neg (fun z => q2 z.2), m_slope h hP hN, ob, m_tail hP]
        exact ⟨_, _, _, rfl, rfl, rfl, rfl⟩
    · rw [if_neg (fun z => q ((lv_eq hP).mp z)), if_neg (fun z => q z.1), m_slope h hP hN, ob, if_neg (lP0 hP), m_tail hP]
      exact ⟨_, _, _, rfl, rfl, rfl, rfl⟩
/-- k times a point -/
noncomputable def em {P : Nat} [NeZero P] (hp : Pr P) (k : Nat) (a : Option (Fin P × Fin P)) : Option (Fin P × Fin P) := gp (eadd hp) none k a
theorem em_on {P : Nat} [NeZero P] (h : P3 P) {a : Option (Fin P × Fin P)} (ha : eon a) (k : Nat) : eon (em h.1 k a) := (e_ab h).gS ha k
theorem mul_loop {P : Nat} [NeZero P] (h : P3 P) (hP : P < 2 ^ 31) {N : Nat} (hN : 100000 ≤ N) : ∀ (n k : Nat) (t d : Option (Fin P × Fin P)), eon t → eon d → k < 2 ^ n → k < 2 ^ 63 → fX0_multiple_20 N (lN P) (n + 1) (ept t) (ept d) (lN k) = some (ept (eadd h.1 t (em h.1 k d)))
  | n, k, t, d, ht, hd, h1, h2 => by
    have hA := e_ab h
    by_cases hk : k = 0
    · subst hk
      rw [fX0_multiple_20, if_pos ((le0N h2).mpr rfl)]
      show some (ept t) = some (ept (eadd h.1 t none))
      rw [eadd_r]
    · match n, h1 with
      | 0, h1 => exact absurd h1 (by omega)
      | n + 1, h1 =>
        have h3 : k / 2 < 2 ^ n := by rw [Nat.pow_succ] at h1; omega
        have hdd := e_cl h hd hd
        rw [fX0_multiple_20, if_neg (fun q => hk ((le0N h2).mp q)), rem2 h2]
        by_cases q : k % 2 = 1
        · rw [if_pos (eq1N.mpr q), c_sum h hP hN, ob, c_sum h hP hN, ob]
          simp only [bnd]
          rw [shr1 h2, mul_loop h hP hN n (k / 2) _ _ (e_cl h ht hd) hdd h3 (by omega)]
          have e1 : em h.1 (k / 2) (eadd h.1 d d) = em h.1 (2 * (k / 2)) d := hA.dbl hd _
          have e2 : em h.1 k d = eadd h.1 d (em h.1 (2 * (k / 2)) d) := by
            have : em h.1 (2 * (k / 2) + 1) d = eadd h.1 d (em h.1 (2 * (k / 2)) d) := rfl
            rw [← this, show 2 * (k / 2) + 1 = k by omega]
          rw [e1, e2, e_assoc h ht hd (em_on h hd _)]
        · rw [if_neg (fun z => q (eq1N.mp z)), c_sum h hP hN, ob]
          simp only [bnd]
          rw [shr1 h2, mul_loop h hP hN n (k / 2) _ _ ht hdd h3 (by omega)]
          have e1 : em h.1 (k / 2) (eadd h.1 d d) = em h.1 (2 * (k / 2)) d := hA.dbl hd _
          rw [e1, show 2 * (k / 2) = k by omega]
theorem c_mult {P : Nat} [NeZero P] (h : P3 P) (hP : P < 2 ^ 31) {N : Nat} (hN : 100000 ≤ N) (k : Int64) {a : Option (Fin P × Fin P)} (ha : eon a) : fX0_multiple N (lN P) k (ept a) = some (ept (em h.1 (k.toInt % ((P : Int) + 1)).toNat a)) := by
  unfold fX0_multiple
  have e0 : (lN (P + 1)).toInt = (P : Int) + 1 := by rw [pk_lT (by omega)]; omega
  have r1 := Int.emod_nonneg k.toInt (show (P : Int) + 1 ≠ 0 by omega)
  have r2 := Int.emod_lt_of_pos k.toInt (show (0 : Int) < (P : Int) + 1 by omega)
  rw [lN_1, fmod_I _ _ (by rw [e0]; omega), e0, ob]
  have e1 : lI (k.toInt % ((P : Int) + 1)) = lN (k.toInt % ((P : Int) + 1)).toNat := by rw [lI_N, Int.toNat_of_nonneg r1]
  rw [e1]
  obtain ⟨n, rfl⟩ : ∃ n, N = n + 1 := ⟨N - 1, by omega⟩
  have h2n : 2 ^ 32 ≤ 2 ^ n := Nat.pow_le_pow_right (by decide) (by omega)
  show fX0_multiple_20 (n + 1) (lN P) (n + 1) (ept (none : Option (Fin P × Fin P))) _ _ = _
  rw [mul_loop h hP hN n _ none a trivial ha (by omega) (by omega)]
  rfl
theorem c_multN {P : Nat} [NeZero P] (h : P3 P) (hP : P < 2 ^ 31) {N : Nat} (hN : 100000 ≤ N) {k : Nat} (hk : k < 2 ^ 63) {a : Option (Fin P × Fin P)} (ha : eon a) : fX0_multiple N (lN P) (lN k) (ept a) = some (ept (em h.1 k a)) := by
  rw [c_mult h hP hN _ ha, pk_lT hk]
  have e : ((k : Int) % ((P : Int) + 1)).toNat = k % (P + 1) := by
    have : ((k % (P + 1) : Nat) : Int) = (k : Int) % ((P : Int) + 1) := by rw [Int.natCast_emod]; rfl
    rw [← this]; rfl
  rw [e]
  exact congrArg (fun q => some (ept q)) ((e_ab h).modz ha (e_lag h ha) k)
theorem take_loop {P : Nat} [NeZero P] (h : P3 P) (hP : P < 2 ^ 31) {N : Nat} (hN : 100000 ≤ N) {K : Nat} (hK : K < 2 ^ 64) {a : Option (Fin P × Fin P)} (ha : eon a) {lx ly : Int64} {li : Bool} (hm : MR a lx ly li) : ∀ (b n : Nat) (zx zy : Int64) (zi : Bool), b ≤ 64 → b < n → MR (em h.1 (K / 2 ^ b) a) zx zy zi → ∃ ox oy oi, fX4_take_26 N (lN P) (lN K) lx ly li n (nI b + (-1)) zx zy zi = some (ox, oy, oi) ∧ MR (em h.1 K a) ox oy oi
  | 0, n, zx, zy, zi, hb, hn, hz => by
    obtain ⟨m, rfl⟩ : ∃ m, n = m + 1 := ⟨n - 1, by omega⟩
    rw [fX4_take_26, if_pos (by decide)]
    rw [Nat.pow_zero, Nat.div_one] at hz
    exact ⟨zx, zy, zi, rfl, hz⟩
  | b + 1, n, zx, zy, zi, hb, hn, hz => by
    have hA := e_ab h
    obtain ⟨m, rfl⟩ : ∃ m, n = m + 1 := ⟨n - 1, by omega⟩
    rw [fX4_take_26, pk_m1, if_neg (nI_pos (by omega))]
    obtain ⟨o2, o3, o4, e1, h1⟩ := m_plus h hP hN hz hz
    rw [e1, ob]
    show ∃ ox oy oi, (if jushr (lN K) (nI b) &&& 1 = 1 then _ else _) = some (ox, oy, oi) ∧ _
    have e2 : jushr (lN K) (nI b) &&& 1 = lN (K / 2 ^ b % 2) := wb_bit hK (by omega)
    have e3 : K / 2 ^ b = 2 * (K / 2 ^ (b + 1)) + K / 2 ^ b % 2 := by
      rw [Nat.pow_succ, ← Nat.div_div_eq_div_mul]; omega
    have e4 : eadd h.1 (em h.1 (K / 2 ^ (b + 1)) a) (em h.1 (K / 2 ^ (b + 1)) a) = em h.1 (2 * (K / 2 ^ (b + 1))) a := by
      have := hA.add ha (K / 2 ^ (b + 1)) (K / 2 ^ (b + 1))
      rw [← Nat.two_mul] at this
      exact this.symm
    rw [e4] at h1
    rw [e2]
    by_cases q : K / 2 ^ b % 2 = 1
    · rw [if_pos (eq1N.mpr q)]
      obtain ⟨o8, o9, o10, e5, h2⟩ := m_plus h hP hN h1 hm
      rw [e5, ob]
      simp only [bnd]
      refine take_loop h hP hN hK ha hm b m o8 o9 o10 (by omega) (by omega) ?_
      have e6 : em h.1 (K / 2 ^ b) a = eadd h.1 (em h.1 (2 * (K / 2 ^ (b + 1))) a) a := by
        rw [e3, q]
        have k1 := hA.add ha 1 (2 * (K / 2 ^ (b + 1)))
        rw [hA.one ha] at k1
        exact k1
      rw [e6]
      exact h2
    · rw [if_neg (fun z => q (eq1N.mp z))]
      simp only [bnd]
      refine take_loop h hP hN hK ha hm b m o2 o3 o4 (by omega) (by omega) ?_
      rw [e3, show K / 2 ^ b % 2 = 0 by omega, Nat.add_zero]
      exact h1
theorem m_take {P : Nat} [NeZero P] (h : P3 P) (hP : P < 2 ^ 31) {N : Nat} (hN : 100000 ≤ N) {K : Nat} (hK : K < 2 ^ 64) {a : Option (Fin P × Fin P)} (ha : eon a) {lx ly : Int64} {li : Bool} (hm : MR a lx ly li) : ∃ ox oy oi, fX4_take N (lN P) lx ly li (lN K) = some (ox, oy, oi) ∧ MR (em h.1 K a) ox oy oi := by
  unfold fX4_take
  have e : (63 : Int32) = nI 64 + (-1) := by decide
  rw [e]
  refine take_loop h hP hN hK ha hm 64 N lx ly false (by omega) (by omega) ?_
  rw [Nat.div_eq_of_lt hK]
  rfl
end
