section
def lI (z : Int) : Int64 := Int64.ofInt z
theorem lI_N (n : Nat) : lN n = lI (n : Int) := Int64.toBitVec_inj.mp (by
  show BitVec.ofNat 64 n = BitVec.ofInt 64 (n : Int)
  exact (BitVec.ofInt_natCast 64 n).symm)
theorem lI_sub (a b : Int) : lI a - lI b = lI (a - b) := (Int64.ofInt_sub a b).symm
theorem lI_add (a b : Int) : lI a + lI b = lI (a + b) := (Int64.ofInt_add a b).symm
theorem lI_mul (a b : Int) : lI a * lI b = lI (a * b) := (Int64.ofInt_mul a b).symm
theorem lI_t {z : Int} (h1 : -2 ^ 63 ≤ z) (h2 : z < 2 ^ 63) : (lI z).toInt = z := Int64.toInt_ofInt_of_le h1 h2
theorem lI_ge0 {z : Int} (h1 : -2 ^ 63 ≤ z) (h2 : z < 2 ^ 63) : 0 ≤ lI z ↔ 0 ≤ z := by
  rw [Int64.le_iff_toInt_le, lI_t h1 h2]
  exact Iff.rfl
theorem eu_r1 (A B M r q : Nat) : B * r + (A + q * B) * M = A * M + B * (M * q + r) := by grind
theorem eu_r2 (a b q x M r : Int) : (a - q * b) * x - r = (a * x - (M * q + r)) - q * (b * x - M) := by grind
theorem eu_r3 (P u q v : Int) : P * u - q * (P * v) = P * (u - q * v) := by grind
theorem eu_r4 (a b q : Int) : b * (a - q * b) = a * b - q * (b * b) := by grind
theorem eu_r5 {P v x u : Int} (h : P * v * x - 1 = P * u) : P * (v * x - u) = 1 := by grind
theorem euc_step {P x L M : Nat} {a b : Int} {q : Nat} (hq : 1 ≤ q) (hL : L = M * q + L % M) (hs : a * b ≤ 0) (hsum : a.natAbs * M + b.natAbs * L = P) (d1 : (P : Int) ∣ a * x - L) (d2 : (P : Int) ∣ b * x - M) :
    b * (a - q * b) ≤ 0 ∧ b.natAbs * (L % M) + (a - q * b).natAbs * M = P ∧ b.natAbs ≤ (a - q * b).natAbs ∧ (P : Int) ∣ (a - q * b) * x - ((L % M : Nat) : Int) := by
  have e1 : (a - q * b).natAbs = a.natAbs + q * b.natAbs := by
    have k1 : (q * b).natAbs = q * b.natAbs := by rw [Int.natAbs_mul]; rfl
    rw [← k1]
    rcases Int.le_total 0 b with hb | hb
    · have ha : a ≤ 0 ∨ b = 0 := by
        by_cases h0 : b = 0
        · exact Or.inr h0
        · left
          exact Int.not_lt.mp fun h => absurd (Int.mul_pos h (show 0 < b by omega)) (by omega)
      have hq0 : 0 ≤ (q : Int) * b := Int.mul_nonneg (by omega) hb
      rcases ha with h | h
      · omega
      · rw [h, Int.mul_zero]; simp
    · have ha : 0 ≤ a ∨ b = 0 := by
        by_cases h0 : b = 0
        · exact Or.inr h0
        · left
          exact Int.not_lt.mp fun h => absurd (Int.mul_pos_of_neg_of_neg h (show b < 0 by omega)) (by omega)
      have hq0 : (q : Int) * b ≤ 0 := Int.mul_nonpos_of_nonneg_of_nonpos (by omega) hb
      rcases ha with h | h
      · omega
      · rw [h, Int.mul_zero]; simp
  refine ⟨?_, ?_, ?_, ?_⟩
  · have h1 : 0 ≤ b * b := by
      rcases Int.le_total 0 b with hb | hb
      · exact Int.mul_nonneg hb hb
      · exact Int.mul_nonneg_of_nonpos_of_nonpos hb hb
    have h2 : 0 ≤ (q : Int) * (b * b) := Int.mul_nonneg (by omega) h1
    have h3 : b * (a - q * b) = a * b - q * (b * b) := eu_r4 a b q
    omega
  · rw [e1, ← hsum]
    generalize b.natAbs = B
    generalize a.natAbs = A
    generalize L % M = r at hL ⊢
    subst hL
    exact eu_r1 _ _ _ _ _
  · rw [e1]
    have : 1 * b.natAbs ≤ q * b.natAbs := Nat.mul_le_mul_right _ hq
    omega
  · obtain ⟨u, hu⟩ := d1
    obtain ⟨v, hv⟩ := d2
    refine ⟨u - q * v, ?_⟩
    have h3 : (L : Int) = (M : Int) * q + ((L % M : Nat) : Int) := by exact_mod_cast hL
    rw [eu_r2 a b q x M, ← h3, hu, hv, eu_r3]
theorem euc_loop {P : Nat} (hp : Pr P) (hP : P < 2 ^ 31) (N : Nat) {x : Nat} (hx0 : 0 < x) (hxP : x < P) : ∀ (n k L M : Nat) (a b : Int), k ≤ 62 → 64 ≤ n + k → M < L → L * M < 2 ^ (62 - k) → Nat.gcd L M = 1 → a * b ≤ 0 → a.natAbs * M + b.natAbs * L = P → a.natAbs ≤ b.natAbs → (P : Int) ∣ a * x - L → (P : Int) ∣ b * x - M →
    ∃ r : Nat, r < P ∧ x * r % P = 1 ∧ fX2_inverse_17 N (lN P) n (lN L) (lN M) (lI a) (lI b) (nI k) = some (lN r)
  | 0, k, L, M, a, b, h1, h2, h3, h4, h5, h6, h7, h8, h9, h10 => absurd h2 (by omega)
  | n + 1, k, L, M, a, b, h1, h2, h3, h4, h5, h6, h7, h8, h9, h10 => by
    have hLP : L ≤ P := by
      by_cases hb : b.natAbs = 0
      · have : a.natAbs = 0 := by omega
        rw [hb, this] at h7
        have := hp.1
        omega
      · have : 1 * L ≤ b.natAbs * L := Nat.mul_le_mul_right _ (by omega)
        omega
    rw [fX2_inverse_17]
    have c1 : ¬ (64 : Int32) ≤ nI k := by
      rw [show (64 : Int32) = nI 64 from rfl, nI_leI (by decide) (by omega)]
      omega
    rw [if_neg c1]
    by_cases hM : M = 0
    · subst hM
      rw [if_pos (show lN 0 = 0 from rfl)]
      rw [Nat.gcd_zero_right] at h5
      subst h5
      have hB : b.natAbs = P := by omega
      have hA : a.natAbs < P := by
        refine Nat.lt_of_le_of_ne (by omega) fun q => ?_
        obtain ⟨u, hu⟩ := h9
        have d : (P : Int) ∣ a := by rw [← q]; exact Int.natAbs_dvd.mpr (Int.dvd_refl a)
        obtain ⟨v, hv⟩ := d
        rw [hv] at hu
        have h11 : (P : Int) * (v * x - u) = 1 := eu_r5 hu
        have h12 : (P : Int) ≤ 1 := Int.le_of_dvd (by omega) ⟨_, h11.symm⟩
        have := hp.1
        omega
      have hmod : (a * x) % (P : Int) = 1 := by
        obtain ⟨u, hu⟩ := h9
        have e : a * x = 1 + (P : Int) * u := by
          have : ((1 : Nat) : Int) = 1 := rfl
          omega
        rw [e, Int.add_mul_emod_self_left]
        have := hp.1
        exact Int.emod_eq_of_lt (by omega) (by omega)
      by_cases ha : 0 ≤ a
      · rw [if_pos ((lI_ge0 (by omega) (by omega)).mpr ha)]
        refine ⟨a.toNat, by omega, ?_, ?_⟩
        · have : ((x * a.toNat % P : Nat) : Int) = 1 := by
            rw [Int.natCast_emod, Int.natCast_mul, Int.toNat_of_nonneg ha, Int.mul_comm]
            exact hmod
          exact_mod_cast this
        · rw [lI_N, Int.toNat_of_nonneg ha]
      · rw [if_neg (fun q => ha ((lI_ge0 (by omega) (by omega)).mp q))]
        refine ⟨(a + P).toNat, by omega, ?_, ?_⟩
        · have : ((x * (a + P).toNat % P : Nat) : Int) = 1 := by
            rw [Int.natCast_emod, Int.natCast_mul, Int.toNat_of_nonneg (by omega), Int.mul_comm, Int.add_mul, Int.add_mul_emod_self_left]
            exact hmod
          exact_mod_cast this
        · rw [lI_N P, lI_add, lI_N, Int.toNat_of_nonneg (by omega)]
    · rw [if_neg (lN_ne0 (by omega) (by omega))]
      have hk : k < 62 := by
        refine Nat.lt_of_le_of_ne h1 fun q => ?_
        subst q
        have : 1 * 1 ≤ L * M := Nat.mul_le_mul (by omega) (by omega)
        have e : 2 ^ (62 - 62) = 1 := rfl
        omega
      have hq : 1 ≤ L / M := Nat.div_pos (by omega) (by omega)
      have hr : L % M < M := Nat.mod_lt _ (by omega)
      have hdm := Nat.div_add_mod L M
      obtain ⟨s1, s2, s3, s4⟩ := euc_step (x := x) hq hdm.symm h6 h7 h9 h10
      have hprod : M * (L % M) < 2 ^ (62 - (k + 1)) := by
        have e1 : 2 ^ (62 - k) = 2 * 2 ^ (62 - (k + 1)) := by
          rw [show 62 - k = (62 - (k + 1)) + 1 by omega, Nat.pow_succ, Nat.mul_comm]
        have e2 : M * 1 ≤ M * (L / M) := Nat.mul_le_mul_left _ hq
        have e3 : M * (2 * (L % M)) ≤ M * L := Nat.mul_le_mul_left _ (by omega)
        have e4 : M * (2 * (L % M)) = 2 * (M * (L % M)) := by rw [Nat.mul_left_comm]
        have e5 : M * L = L * M := Nat.mul_comm _ _
        omega
      have hg : Nat.gcd M (L % M) = 1 := by rw [Nat.gcd_comm, ← Nat.gcd_rec, Nat.gcd_comm]; exact h5
      obtain ⟨r, hr1, hr2, hr3⟩ := euc_loop hp hP N hx0 hxP n (k + 1) M (L % M) b (a - (L / M : Nat) * b) (by omega) (by omega) hr hprod hg s1 s2 s3 h10 s4
      refine ⟨r, hr1, hr2, ?_⟩
      have w5 : lN L / lN M = lN (L / M) := pk_lDiv (by omega) (by omega) (by omega)
      have w6 : lN L - lN (L / M) * lN M = lN (L % M) := by
        rw [lN_mul, lN_sub (by rw [Nat.mul_comm]; omega)]
        congr 1
        rw [Nat.mul_comm]; omega
      have w7 : lI a - lN (L / M) * lI b = lI (a - (L / M : Nat) * b) := by rw [lI_N (L / M), lI_mul, lI_sub]
      simp only [bnd]
      rw [w5, w6, w7, nI_1]
      exact hr3
theorem c_inv {P : Nat} [NeZero P] (hp : Pr P) (hP : P < 2 ^ 31) {N : Nat} (hN : 100000 ≤ N) (a : Fin P) : fX2_inverse N (lN P) (lv a) = some (lv (fin_inv hp a)) := by
  unfold fX2_inverse
  by_cases ha : a = 0
  · subst ha
    rw [fin_inv0]
    obtain ⟨n, rfl⟩ : ∃ n, N = n + 1 := ⟨N - 1, by omega⟩
    have e : lv (0 : Fin P) = 0 := (lv_0 hP).mpr rfl
    rw [e, fX2_inverse_17, if_neg (by decide), if_pos rfl, if_pos (by decide)]
  · have h0 : 0 < a.val := Nat.pos_of_ne_zero fun q => ha (Fin.ext (by rw [q]; simp))
    have hlt := a.isLt
    have hg : Nat.gcd P a.val = 1 := by
      have h1 := Nat.gcd_dvd_left P a.val
      have h2 := Nat.gcd_dvd_right P a.val
      have h3 := Nat.le_of_dvd h0 h2
      have h4 : 0 < Nat.gcd P a.val := Nat.gcd_pos_of_pos_right _ h0
      by_cases q : Nat.gcd P a.val = 1
      · exact q
      · exact absurd h1 (hp.2 _ (by omega) (by omega))
    have hpa : P * a.val < 2 ^ (62 - 0) := by
      have h1 : P * a.val ≤ (2 ^ 31 - 1) * (2 ^ 31 - 1) := Nat.mul_le_mul (by omega) (by omega)
      omega
    obtain ⟨r, hr1, hr2, hr3⟩ := euc_loop hp hP N h0 hlt N 0 P a.val 0 1 (by omega) (by omega) hlt hpa hg (by decide) (by simp) (by decide) ⟨-1, by omega⟩ ⟨0, by omega⟩
    show fX2_inverse_17 N (lN P) N (lN P) (lN a.val) 0 1 0 = _
    have e0 : (0 : Int64) = lI 0 := rfl
    have e1 : (1 : Int64) = lI 1 := rfl
    have e2 : (0 : Int32) = nI 0 := rfl
    rw [e0, e1, e2, hr3]
    have : (⟨r, hr1⟩ : Fin P) = fin_inv hp a := by
      refine fin_inv_u hp (Fin.ext ?_)
      rw [Fin.val_mul]
      show a.val * r % P = 1 % P
      rw [hr2, Nat.mod_eq_of_lt (by have := hp.1; omega)]
    rw [← this]
    rfl
end
