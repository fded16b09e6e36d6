section
def erI {P : Nat} : Option (Fin P) → Int64
  | none => -1
  | some y => lv y
theorem pw_odd {P : Nat} [NeZero P] (y s : Fin P) {k : Nat} (h : k % 2 = 1) : y * s * (s * s) ^ (k / 2) = y * s ^ k := by
  have e : k = 2 * (k / 2) + 1 := by omega
  have e2 : s ^ k = s ^ (2 * (k / 2)) * s := by rw [← show s ^ (2 * (k / 2) + 1) = s ^ (2 * (k / 2)) * s from rfl, ← e]
  rw [e2, fpow_sq]
  generalize (s * s) ^ (k / 2) = t
  grind
theorem pw_even {P : Nat} [NeZero P] (y s : Fin P) {k : Nat} (h : k % 2 = 0) : y * (s * s) ^ (k / 2) = y * s ^ k := by
  have e : k = 2 * (k / 2) := by omega
  rw [← fpow_sq, ← e]
theorem le0N {k : Nat} (hk : k < 2 ^ 63) : lN k ≤ 0 ↔ k = 0 := by
  rw [l0, pk_lLE hk (by decide)]
  omega
theorem eq1N {k : Nat} : lN (k % 2) = 1 ↔ k % 2 = 1 := by
  rw [l1, pk_lEQ (by omega) (by decide)]
theorem eq0N {k : Nat} : lN (k % 2) = 0 ↔ k % 2 = 0 := by
  rw [l0, pk_lEQ (by omega) (by decide)]
/-- what the loop of evenRoot ends with -/
def erz {P : Nat} [NeZero P] (a z : Fin P) : Option Int64 := if z * z = a then (if z.val % 2 = 0 then some (lv z) else some (lN P - lv z)) else some (-1)
theorem er_loop {P : Nat} [NeZero P] (hP : P < 2 ^ 31) (N : Nat) (a : Fin P) : ∀ (n k : Nat) (y s : Fin P), k < 2 ^ n → k < 2 ^ 63 → fX2_evenRoot_17 N (lN P) (lv a) (n + 1) (lv y) (lv s) (lN k) = erz a (y * s ^ k)
  | n, k, y, s, h1, h2 => by
    have hy := y.isLt
    by_cases hk : k = 0
    · subst hk
      rw [fX2_evenRoot_17, if_pos ((le0N h2).mpr rfl), c_mul hP, ob]
      have e : y * s ^ 0 = y := by show y * 1 = y; grind
      rw [e]
      unfold erz
      by_cases q : y * y = a
      · rw [if_pos ((lv_eq hP).mpr q), if_pos q, show lv y = lN y.val from rfl, rem2 (by omega)]
        by_cases q2 : y.val % 2 = 0
        · rw [if_pos (eq0N.mpr q2), if_pos q2]
        · rw [if_neg (fun z => q2 (eq0N.mp z)), if_neg q2]
      · rw [if_neg (fun z => q ((lv_eq hP).mp z)), if_neg q]
    · match n, h1 with
      | 0, h1 => exact absurd h1 (by omega)
      | n + 1, h1 =>
        have h3 : k / 2 < 2 ^ n := by rw [Nat.pow_succ] at h1; omega
        rw [fX2_evenRoot_17, if_neg (fun q => hk ((le0N h2).mp q)), rem2 h2]
        by_cases q : k % 2 = 1
        · rw [if_pos (eq1N.mpr q), c_mul hP, ob, c_mul hP, ob]
          simp only [bnd]
          rw [shr1 h2, er_loop hP N a n (k / 2) (y * s) (s * s) h3 (by omega), pw_odd y s q]
        · rw [if_neg (fun z => q (eq1N.mp z)), c_mul hP, ob]
          simp only [bnd]
          rw [shr1 h2, er_loop hP N a n (k / 2) y (s * s) h3 (by omega), pw_even y s (by omega)]
theorem erz_er {P : Nat} [NeZero P] (h : P3 P) (hP : P < 2 ^ 31) (a : Fin P) : erz a (rt a) = some (erI (er a)) := by
  unfold erz er
  by_cases q : rt a * rt a = a
  · rw [if_pos q, if_pos q]
    by_cases q2 : (rt a).val % 2 = 0
    · rw [if_pos q2, if_pos q2]
      rfl
    · rw [if_neg q2, if_neg q2]
      have hne : rt a ≠ 0 := by
        intro z
        rw [z] at q2
        exact q2 (by simp)
      have hl := (rt a).isLt
      show some (lN P - lN (rt a).val) = some (lN (-rt a).val)
      rw [fneg_val hne, lN_sub (by omega)]
  · rw [if_neg q, if_neg q]
    rfl
theorem c_root {P : Nat} [NeZero P] (h : P3 P) (hP : P < 2 ^ 31) {N : Nat} (hN : 100000 ≤ N) (a : Fin P) : fX2_evenRoot N (lN P) (lv a) = some (erI (er a)) := by
  unfold fX2_evenRoot
  simp only [bnd]
  rw [lN_1, show (4 : Int64) = lN 4 from rfl, pk_lDiv (by omega) (by decide) (by decide)]
  obtain ⟨n, rfl⟩ : ∃ n, N = n + 1 := ⟨N - 1, by omega⟩
  have e1 : (1 : Int64) = lv (1 : Fin P) := by
    have h3 := h.2
    show lN 1 = lN (1 % P)
    rw [Nat.mod_eq_of_lt (by omega)]
  have h2n : 2 ^ 31 ≤ 2 ^ n := Nat.pow_le_pow_right (by decide) (by omega)
  rw [e1, er_loop hP (n + 1) a n _ 1 a (by omega) (by omega)]
  have e2 : (1 : Fin P) * a ^ ((P + 1) / 4) = rt a := by unfold rt; generalize a ^ ((P + 1) / 4) = t; grind
  rw [e2]
  exact erz_er h hP a
theorem l1P {P : Nat} [NeZero P] (h : P3 P) : (1 : Int64) = lv (1 : Fin P) := by
  have h3 := h.2
  show lN 1 = lN (1 % P)
  rw [Nat.mod_eq_of_lt (by omega)]
theorem remv {P : Nat} [NeZero P] (hP : P < 2 ^ 31) (a b : Fin P) : jrem (lv a * lv b) (lN P) = lv (a * b) := by
  have := mul62 a.isLt b.isLt hP
  unfold lv
  rw [lN_mul, remN (by omega) (Nat.pos_of_ne_zero (NeZero.ne P)) (by omega), Fin.val_mul]
theorem mr_loop {P : Nat} [NeZero P] (hP : P < 2 ^ 31) (N : Nat) : ∀ (n k : Nat) (y s : Fin P), k < 2 ^ n → k < 2 ^ 63 → fX4_raised_13 N (lN P) (n + 1) (lv y) (lv s) (lN k) = some (lv (y * s ^ k))
  | n, k, y, s, h1, h2 => by
    by_cases hk : k = 0
    · subst hk
      rw [fX4_raised_13, if_pos ((le0N h2).mpr rfl)]
      have e : y * s ^ 0 = y := by show y * 1 = y; grind
      rw [e]
    · match n, h1 with
      | 0, h1 => exact absurd h1 (by omega)
      | n + 1, h1 =>
        have h3 : k / 2 < 2 ^ n := by rw [Nat.pow_succ] at h1; omega
        rw [fX4_raised_13, if_neg (fun q => hk ((le0N h2).mp q)), wb_a1 (by omega)]
        by_cases q : k % 2 = 1
        · rw [if_pos (eq1N.mpr q), if_neg (lP0 hP)]
          simp only [bnd]
          rw [shr1 h2, remv hP, remv hP, mr_loop hP N n (k / 2) (y * s) (s * s) h3 (by omega), pw_odd y s q]
        · rw [if_neg (fun z => q (eq1N.mp z)), if_neg (lP0 hP)]
          simp only [bnd]
          rw [shr1 h2, remv hP, mr_loop hP N n (k / 2) y (s * s) h3 (by omega), pw_even y s (by omega)]
theorem m_raised {P : Nat} [NeZero P] (h : P3 P) (hP : P < 2 ^ 31) {N : Nat} (hN : 100000 ≤ N) {z : Int} {f : Fin P} (hz : Rp z f) (h1 : -2 ^ 63 ≤ z) (h2 : z < 2 ^ 63) {k : Nat} (hk : k < 2 ^ 31) : fX4_raised N (lN P) (lI z) (lN k) = some (lv (f ^ k)) := by
  unfold fX4_raised
  rw [fit_R hP hz h1 h2, ob, l1P h]
  obtain ⟨n, rfl⟩ : ∃ n, N = n + 1 := ⟨N - 1, by omega⟩
  have h2n : 2 ^ 31 ≤ 2 ^ n := Nat.pow_le_pow_right (by decide) (by omega)
  rw [mr_loop hP (n + 1) n k 1 f (by omega) (by omega)]
  have e2 : (1 : Fin P) * f ^ k = f ^ k := by generalize f ^ k = t; grind
  rw [e2]
theorem f_inv_pow {P : Nat} [NeZero P] (h : P3 P) (f : Fin P) : f ^ (P - 2) = fin_inv h.1 f := by
  have h3 := h.2
  by_cases hf : f = 0
  · subst hf
    rw [fin_inv0]
    obtain ⟨k, hk⟩ : ∃ k, P - 2 = k + 1 := ⟨P - 3, by omega⟩
    rw [hk]
    have : (0 : Fin P) ^ (k + 1) = (0 : Fin P) ^ k * 0 := rfl
    rw [this]
    grind
  · refine fin_inv_u h.1 ?_
    have h1 := ffermat h.1 hf
    obtain ⟨k, hk⟩ : ∃ k, P - 1 = k + 1 ∧ P - 2 = k := ⟨P - 2, by omega, rfl⟩
    rw [hk.1] at h1
    rw [hk.2]
    have e : f ^ (k + 1) = f ^ k * f := rfl
    rw [e] at h1
    grind
theorem m_inv {P : Nat} [NeZero P] (h : P3 P) (hP : P < 2 ^ 31) {N : Nat} (hN : 100000 ≤ N) {z : Int} {f : Fin P} (hz : Rp z f) (h1 : -2 ^ 63 ≤ z) (h2 : z < 2 ^ 63) : fX4_turned N (lN P) (lI z) = some (lv (fin_inv h.1 f)) := by
  have h3 := h.2
  unfold fX4_turned
  rw [l2, lN_sub (by omega), m_raised h hP hN hz h1 h2 (by omega), ob, f_inv_pow h]
theorem lv_I {P : Nat} (x : Fin P) : lv x = lI (x.val : Int) := lI_N x.val
theorem m_root {P : Nat} [NeZero P] (h : P3 P) (hP : P < 2 ^ 31) {N : Nat} (hN : 100000 ≤ N) (a : Fin P) : fX4_rootOf N (lN P) (lv a) = some (erI (er a)) := by
  have ha := a.isLt
  unfold fX4_rootOf
  rw [lN_1, show (4 : Int64) = lN 4 from rfl, pk_lDiv (by omega) (by decide) (by decide), lv_I a, m_raised h hP hN (Rp_val a) (by omega) (by omega) (by omega), ob, if_neg (lP0 hP), fit_R hP (Rp_val a) (by omega) (by omega), ob]
  show (if jrem (lv (rt a) * lv (rt a)) (lN P) = lv a then _ else _) = _
  rw [remv hP, ← erz_er h hP a]
  unfold erz
  have hr := (rt a).isLt
  by_cases q : rt a * rt a = a
  · rw [if_pos ((lv_eq hP).mpr q), if_pos q]
    show (if lN (rt a).val &&& 1 = 0 then _ else _) = _
    rw [wb_a1 (by omega)]
    by_cases q2 : (rt a).val % 2 = 0
    · rw [if_pos (eq0N.mpr q2), if_pos q2]; rfl
    · rw [if_neg (fun z => q2 (eq0N.mp z)), if_neg q2]; rfl
  · rw [if_neg (fun z => q ((lv_eq hP).mp z)), if_neg q]
theorem m_curve {P : Nat} [NeZero P] (hP : P < 2 ^ 31) (x : Fin P) : fX4_curve (lN P) (lv x) = some (lv (x * x * x + x)) := by
  unfold fX4_curve
  rw [if_neg (lP0 hP), remv hP]
  have h1 := mul62 (x * x).isLt x.isLt hP
  have hx := x.isLt
  have e : lv (x * x) * lv x + lv x = lN ((x * x).val * x.val + x.val) := by unfold lv; rw [lN_mul, lN_add]
  rw [e, rem_R hP (f := x * x * x + x) ?_ (by omega)]
  rw [Int.natCast_add, Int.natCast_mul]
  exact Rp_add (Rp_mul (Rp_val _) (Rp_val _)) (Rp_val _)
end
