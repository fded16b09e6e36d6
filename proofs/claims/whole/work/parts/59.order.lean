section
/-! order: the same prime numbers in the same order on both sides -/
theorem lz0 {x : Nat} (h : x < 2 ^ 63) : lN x = 0 ↔ x = 0 := by rw [l0, pk_lEQ h (by decide)]
theorem or_in {P : Nat} [NeZero P] (h : P3 P) (hP : P < 2 ^ 31) {N : Nat} (hN : 100000 ≤ N) {zpx zpy : Nat → Int64} {zip : Nat → Bool} {q1 : Int32} {s : Nat} (a3 : ¬ (q1 < 0 ∨ 16 ≤ q1.toNatClampNeg)) (a4 : q1.toNatClampNeg = s) {a : Option (Fin P × Fin P)} (ha : eon a) (hm : MR a (zpx s) (zpy s) (zip s)) (l6 : Int64) {q : Nat} (hq : 2 ≤ q) (hq2 : q < 2 ^ 32) : ∀ (f n n' i o m : Nat) (zx zy : Int64) (zi : Bool), 1 ≤ m → m < 2 ^ f → i + f ≤ 32 → f < n → f < n' → o < 2 ^ 32 → ∃ o' m' t x y j, fX0_orderOf_34 N (lN P) (ept a) (lN q) n (lN o) (lN m) (nI i) = some (lN o', lN m', t) ∧ fX4_order_64 N (lN P) zpx zpy zip q1 l6 (lN q) n' (lN o) (lN m) zx zy zi = some (lN o', lN m', x, y, j) ∧ 1 ≤ m' ∧ m' ≤ m ∧ o' ≤ o ∧ (m = q → m' = 1 ∧ o' = if em h.1 (o / q) a = none then o / q else o)
  | 0, _, _, _, _, m, _, _, _, h1, h2, _, _, _, _ => by omega
  | f + 1, n + 1, n' + 1, i, o, m, zx, zy, zi, h1, h2, h3, h4, h5, h6 => by
    have m32 : m < 2 ^ 32 := Nat.lt_of_lt_of_le h2 (Nat.pow_le_pow_right (by decide) (by omega))
    unfold fX0_orderOf_34 fX4_order_64
    have c : ¬ (32 : Int32) ≤ nI i := nI_ge (b := 32) (by omega) (by decide)
    have cq : ¬ lN q = 0 := lN_ne0 (by omega) (by omega)
    rw [if_neg c, if_neg cq, if_neg cq, remN (by omega) (by omega) (by omega), pk_lDiv (by omega) (by omega) (by omega)]
    have ml : m % q < q := Nat.mod_lt _ (by omega)
    by_cases z : m % q = 0
    · rw [if_pos ((lz0 (by omega)).mpr z), if_pos ((lz0 (by omega)).mpr z)]
      have dm := Nat.div_add_mod m q
      rw [z, Nat.add_zero] at dm
      have g1 : 1 ≤ m / q := by
        rcases Nat.eq_zero_or_pos (m / q) with e | e
        · rw [e, Nat.mul_zero] at dm; omega
        · exact e
      have g2 : m / q < 2 ^ f := by
        rw [Nat.pow_succ] at h2
        have : m / q ≤ m / 2 := Nat.div_le_div_left hq (by decide)
        omega
      have g3 : m / q ≤ m := Nat.div_le_self _ _
      have g4 : o / q ≤ o := Nat.div_le_self _ _
      simp only [bnd]
      unfold fX0_orderWithout
      rw [if_neg cq, pk_lDiv (a := o) (by omega) (by omega) (by omega), c_multN h hP hN (k := o / q) (by omega) ha, m_load _ _ _ _ _ _ a3 a4]
      simp only [ob]
      obtain ⟨ox, oy, oi, e2, mm⟩ := m_take h hP hN (K := o / q) (by omega) ha hm
      rw [e2]
      simp only [ob]
      rw [nI_1]
      have g5 : m = q → ¬ (m / q) % q = 0 := fun e => by rw [e, Nat.div_self (by omega), Nat.mod_eq_of_lt (by omega)]; decide
      have last : ∀ (O : Nat) (x y : Int64) (j : Bool), O < 2 ^ 32 → m = q → ∀ {o' m' : Nat} {t x' y' j'}, fX0_orderOf_34 N (lN P) (ept a) (lN q) n (lN O) (lN (m / q)) (nI (i + 1)) = some (lN o', lN m', t) → fX4_order_64 N (lN P) zpx zpy zip q1 l6 (lN q) n' (lN O) (lN (m / q)) x y j = some (lN o', lN m', x', y', j') → m' ≤ m / q → 1 ≤ m' → o' ≤ O → m' = 1 ∧ o' = O := by
        intro O x y j hO e o' m' t x' y' j' k1 k2 k3 k4 k5
        have e1 : m / q = 1 := by rw [e]; exact Nat.div_self (by omega)
        cases n' with
        | zero => exact absurd k2 (by unfold fX4_order_64; intro z; cases z)
        | succ n' =>
          unfold fX4_order_64 at k2
          have ml2 : m / q % q < q := Nat.mod_lt _ (by omega)
          rw [if_neg cq, remN (by omega) (by omega) (by omega), if_neg (fun z => g5 e ((lz0 (by omega)).mp z))] at k2
          injection k2 with k2
          injection k2 with k2 k6
          rw [pk_lEQ (by omega) (by omega)] at k2
          exact ⟨by omega, k2.symm⟩
      by_cases w : em h.1 (o / q) a = none
      · rw [if_pos ((ept_m1 hP _).mpr w), if_pos ((MR_bI mm).mpr w), ob]
        obtain ⟨o', m', t, x, y, j, k1, k2, k3, k4, k5, k6⟩ := or_in h hP hN a3 a4 ha hm l6 hq hq2 f n n' (i + 1) (o / q) (m / q) ox oy oi g1 g2 (by omega) (by omega) (by omega) (by omega)
        refine ⟨o', m', t, x, y, j, k1, k2, k3, by omega, by omega, fun e => ?_⟩
        rw [if_pos w]
        exact last (o / q) ox oy oi (by omega) e k1 k2 k4 k3 k5
      · rw [if_neg (fun z => w ((ept_m1 hP _).mp z)), if_neg (fun z => w ((MR_bI mm).mp z)), ob]
        obtain ⟨o', m', t, x, y, j, k1, k2, k3, k4, k5, k6⟩ := or_in h hP hN a3 a4 ha hm l6 hq hq2 f n n' (i + 1) o (m / q) ox oy oi g1 g2 (by omega) (by omega) (by omega) (by omega)
        refine ⟨o', m', t, x, y, j, k1, k2, k3, by omega, k5, fun e => ?_⟩
        rw [if_neg w]
        exact last o ox oy oi (by omega) e k1 k2 k4 k3 k5
    · rw [if_neg (fun q => z ((lz0 (by omega)).mp q)), if_neg (fun q => z ((lz0 (by omega)).mp q))]
      exact ⟨o, m, _, _, _, _, rfl, rfl, h1, Nat.le_refl _, Nat.le_refl _, fun e => by rw [e, Nat.mod_self] at z; exact absurd rfl z⟩
theorem or_out {P : Nat} [NeZero P] (h : P3 P) (hP : P < 2 ^ 31) {N : Nat} (hN : 100000 ≤ N) {zpx zpy : Nat → Int64} {zip : Nat → Bool} {q1 : Int32} {s : Nat} (a3 : ¬ (q1 < 0 ∨ 16 ≤ q1.toNatClampNeg)) (a4 : q1.toNatClampNeg = s) {a : Option (Fin P × Fin P)} (ha : eon a) (hm : MR a (zpx s) (zpy s) (zip s)) : ∀ (d n n' q o m : Nat) (zx zy : Int64) (zi : Bool), q + d = 46342 → 2 ≤ q → 1 ≤ m → m ≤ 2 ^ 31 → o ≤ 2 ^ 31 → d < n → d + 1 < n' → ∃ o' x y j, fX0_orderOf_20 N (lN P) (ept a) n (lN o) (lN m) (lN q) = some (lN o') ∧ fX4_order_37 N (lN P) zpx zpy zip q1 n' (lN o) (lN m) (lN q) zx zy zi = some ((lN o').toInt32, x, y, j)
  | d, n + 1, n' + 1, q, o, m, zx, zy, zi, h1, h2, h3, h4, h5, h6, h7 => by
    have q2 : q * q ≤ 46342 * 46342 := Nat.mul_le_mul (by omega) (by omega)
    unfold fX0_orderOf_20 fX4_order_37
    rw [lN_mul]
    by_cases z1 : m ≤ 1
    · have q4 : 2 * 2 ≤ q * q := Nat.mul_le_mul h2 h2
      have c1 : lN m ≤ 1 := (pk_lLE (a := m) (b := 1) (by omega) (by decide)).mpr z1
      rw [if_pos (by rw [pk_lLT (by omega) (by omega)]; omega), if_pos c1, if_pos c1]
      exact ⟨_, _, _, _, rfl, rfl⟩
    have c1 : ¬ lN m ≤ 1 := fun z => z1 ((pk_lLE (a := m) (b := 1) (by omega) (by decide)).mp z)
    by_cases z2 : m < q * q
    · rw [if_pos (by rw [pk_lLT (by omega) (by omega)]; omega), if_neg c1, if_neg c1, if_neg (by rw [pk_lLE (by omega) (by omega)]; omega)]
      obtain ⟨o', m', t, x, y, j, k1, k2, k3, k4, k5, k6⟩ := or_in h hP hN a3 a4 ha hm (lN q) (q := m) (by omega) (by omega) 32 (N + 33) N 0 o m zx zy zi h3 (by omega) (by omega) (by omega) (by omega) (by omega)
      obtain ⟨k7, k8⟩ := k6 rfl
      rw [k2]
      simp only [ob, bnd]
      unfold fX0_orderWithout
      have g4 : o / m ≤ o := Nat.div_le_self _ _
      rw [if_neg (lN_ne0 (a := m) (by omega) (by omega)), pk_lDiv (by omega) (by omega) (by omega), c_multN h hP hN (k := o / m) (by omega) ha, ob]
      obtain ⟨n'', rfl⟩ : ∃ n'', n' = n'' + 1 := ⟨n' - 1, by omega⟩
      unfold fX4_order_37
      have cm : lN m' ≤ 1 := by rw [k7]; decide
      rw [if_pos cm]
      refine ⟨o', _, _, _, ?_, rfl⟩
      rw [k8]
      by_cases w : em h.1 (o / m) a = none
      · rw [if_pos ((ept_m1 hP _).mpr w), if_pos w]; rfl
      · rw [if_neg (fun z => w ((ept_m1 hP _).mp z)), if_neg w]; rfl
    · have q3 : q < 46341 := by
        rcases Nat.lt_or_ge q 46341 with e | e
        · exact e
        · have : 46341 * 46341 ≤ q * q := Nat.mul_le_mul e e
          omega
      rw [if_neg (by rw [pk_lLT (by omega) (by omega)]; omega), if_neg c1, if_pos (by rw [pk_lLE (by omega) (by omega)]; omega)]
      obtain ⟨o', m', t, x, y, j, k1, k2, k3, k4, k5, k6⟩ := or_in h hP hN a3 a4 ha hm (lN q) (q := q) (by omega) (by omega) 32 N N 0 o m zx zy zi h3 (by omega) (by omega) (by omega) (by omega) (by omega)
      rw [nI_0] at k1
      rw [k1, k2]
      simp only [ob, bnd]
      rw [lN_1]
      obtain ⟨d', rfl⟩ : ∃ d', d = d' + 1 := ⟨d - 1, by omega⟩
      exact or_out h hP hN a3 a4 ha hm d' n n' (q + 1) o' m' x y j (by omega) (by omega) k3 (by omega) (by omega) (by omega) (by omega)
theorem g_order {P : Nat} [NeZero P] (h : P3 P) (hP : P < 2 ^ 31) {N : Nat} (hN : 100000 ≤ N) {zS zpx zpy : Nat → Int64} {zip : Nat → Bool} (hS : SR P zS zpx zpy zip) (zx zy : Int64) (zi : Bool) (q0 : Int32) : ∃ r ox oy oi, fX3_order N (lN P) zS q0 = some r ∧ fX4_order N (lN P) zx zy zi zpx zpy zip q0 = some (r, ox, oy, oi) := by
  unfold fX3_order fX4_order
  rw [if_neg (lP0 hP)]
  rcases sl_c q0 with ⟨i, hi, -, a1, a2, a3, a4⟩ | ⟨a1, a2⟩
  case inr => simp only [a1, a2, ob, bif0, if_true]; exact ⟨_, _, _, _, rfl, rfl⟩
  simp only [a1, a2, ob, bit0, if_false]
  rw [if_neg a3, a4]
  obtain ⟨u, u1, u2, u3⟩ := hS i hi
  unfold fX0_orderOf
  simp only [bnd]
  rw [u2, lN_1]
  obtain ⟨o', x, y, j, k1, k2⟩ := or_out h hP hN a3 a4 u1 u3 46340 N N 2 (P + 1) (P + 1) zx zy zi (by omega) (by omega) (by omega) (by omega) (by omega) (by omega) (by omega)
  have k1' : fX0_orderOf_20 N (lN P) (ept u) N (lN (P + 1)) (lN (P + 1)) 2 = some (lN o') := k1
  have k2' : fX4_order_37 N (lN P) zpx zpy zip q0 N (lN (P + 1)) (lN (P + 1)) 2 zx zy zi = some ((lN o').toInt32, x, y, j) := k2
  rw [k1', k2']
  exact ⟨_, _, _, _, rfl, rfl⟩
end
