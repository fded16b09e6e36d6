section
/-! field: prime numbers, the rows laid anew -/
theorem pr_of {n k : Nat} (hn : 2 ≤ n) (hk : n < k * k) (hd : ∀ d, 2 ≤ d → d < k → ¬ d ∣ n) : Pr n := by
  refine ⟨hn, fun d h1 h2 h3 => ?_⟩
  obtain ⟨e, he⟩ := h3
  rcases Nat.lt_or_ge d k with c | c
  · exact hd d h1 c ⟨e, he⟩
  · have e2 : 2 ≤ e := by
      rcases Nat.lt_or_ge e 2 with q | q
      · rcases (show e = 0 ∨ e = 1 by omega) with r | r
        · rw [r, Nat.mul_zero] at he; omega
        · rw [r, Nat.mul_one] at he; omega
      · exact q
    rcases Nat.lt_or_ge e k with c2 | c2
    · exact hd e e2 c2 ⟨d, by rw [he, Nat.mul_comm]⟩
    · have := Nat.mul_le_mul c c2
      omega
theorem pr_no {n k : Nat} (h2 : 2 ≤ k) (hk : k * k ≤ n) (hd : n % k = 0) : ¬ Pr n := fun p => by
  have : k * 2 ≤ k * k := Nat.mul_le_mul (Nat.le_refl _) h2
  exact p.2 k h2 (by omega) (Nat.dvd_of_mod_eq_zero hd)
theorem sq_small {k n : Nat} (h : k * k ≤ n) (hn : n < 2 ^ 31) : k < 46341 := by
  rcases Nat.lt_or_ge k 46341 with e | e
  · exact e
  · have : 46341 * 46341 ≤ k * k := Nat.mul_le_mul e e
    omega
theorem mp_loop (N : Nat) {n : Nat} (hn : 2 ≤ n) (hn2 : n < 2 ^ 31) : ∀ (d f k : Nat), k + d = 46342 → 2 ≤ k → d < f → (∀ d, 2 ≤ d → d < k → ¬ d ∣ n) → ∃ b, fX4_isPrime_14 N (lN n) f (lN k) = some b ∧ (b = true ↔ Pr n)
  | d, f + 1, k, h1, h2, h3, h4 => by
    have q2 : k * k ≤ 46342 * 46342 := Nat.mul_le_mul (by omega) (by omega)
    unfold fX4_isPrime_14
    rw [lN_mul]
    by_cases c : n < k * k
    · rw [if_pos (by rw [pk_lLT (by omega) (by omega)]; exact c)]
      exact ⟨true, rfl, fun _ => pr_of hn c h4, fun _ => rfl⟩
    · rw [if_neg (by rw [pk_lLT (by omega) (by omega)]; exact c), if_neg (lN_ne0 (a := k) (by omega) (by omega)), remN (by omega) (by omega) (by omega)]
      have c' : k * k ≤ n := by omega
      have ks := sq_small c' hn2
      have ml : n % k < k := Nat.mod_lt _ (by omega)
      by_cases z : n % k = 0
      · rw [if_pos ((lz0 (by omega)).mpr z)]
        exact ⟨false, rfl, (fun w => by cases w), fun w => absurd w (pr_no h2 c' z)⟩
      · rw [if_neg (fun w => z ((lz0 (by omega)).mp w))]
        simp only [bnd]
        rw [lN_1]
        obtain ⟨d', rfl⟩ : ∃ d', d = d' + 1 := ⟨d - 1, by omega⟩
        refine mp_loop N hn hn2 d' f (k + 1) (by omega) (by omega) (by omega) (fun e e1 e2 e3 => ?_)
        rcases (show e < k ∨ e = k by omega) with w | w
        · exact h4 e e1 w e3
        · rw [w] at e3; exact z (Nat.mod_eq_zero_of_dvd e3)
theorem m_prime {N : Nat} (hN : 100000 ≤ N) {n : Nat} (hn : 2 ≤ n) (hn2 : n < 2 ^ 31) : ∃ b, fX4_isPrime N (lN n) = some b ∧ (b = true ↔ Pr n) := by
  unfold fX4_isPrime
  have c : (2 : Int64) ≤ lN n := (pk_lLE (a := 2) (by decide) (by omega)).mpr hn
  rw [if_pos c]
  exact mp_loop N hn hn2 46340 N 2 (by omega) (by omega) (by omega) (fun d h1 h2 => by omega)
theorem cp_loop (N : Nat) {n : Nat} (hn : 2 ≤ n) (hn2 : n < 2 ^ 31) (ho : n % 2 = 1) : ∀ (d f k : Nat), k + d = 46343 → 3 ≤ k → k % 2 = 1 → d < f → (∀ d, 2 ≤ d → d < k → ¬ d ∣ n) → ∃ b, fX3_isOddPrime_16 N (lN n) f (lN k) = some b ∧ (b = true ↔ Pr n)
  | d, f + 1, k, h1, h2, ho2, h3, h4 => by
    have q2 : k * k ≤ 46343 * 46343 := Nat.mul_le_mul (by omega) (by omega)
    unfold fX3_isOddPrime_16
    rw [lN_mul]
    by_cases c : n < k * k
    · rw [if_pos (by rw [pk_lLT (by omega) (by omega)]; exact c)]
      exact ⟨true, rfl, fun _ => pr_of hn c h4, fun _ => rfl⟩
    · rw [if_neg (by rw [pk_lLT (by omega) (by omega)]; exact c), if_neg (lN_ne0 (a := k) (by omega) (by omega)), remN (by omega) (by omega) (by omega)]
      have c' : k * k ≤ n := by omega
      have ks := sq_small c' hn2
      have ml : n % k < k := Nat.mod_lt _ (by omega)
      by_cases z : n % k = 0
      · rw [if_pos ((lz0 (by omega)).mpr z)]
        exact ⟨false, rfl, (fun w => by cases w), fun w => absurd w (pr_no (by omega) c' z)⟩
      · rw [if_neg (fun w => z ((lz0 (by omega)).mp w))]
        simp only [bnd]
        have e2 : lN k + 2 = lN (k + 2) := lN_add k 2
        rw [e2]
        obtain ⟨d', rfl⟩ : ∃ d', d = d' + 2 := ⟨d - 2, by omega⟩
        refine cp_loop N hn hn2 ho d' f (k + 2) (by omega) (by omega) (by omega) (by omega) (fun e e1 e2 e3 => ?_)
        rcases (show e < k ∨ e = k ∨ e = k + 1 by omega) with w | w | w
        · exact h4 e e1 w e3
        · rw [w] at e3; exact z (Nat.mod_eq_zero_of_dvd e3)
        · obtain ⟨t, ht⟩ := e3
          obtain ⟨j, hj⟩ : ∃ j, e = 2 * j := ⟨e / 2, by omega⟩
          rw [hj, Nat.mul_assoc] at ht
          omega
theorem c_prime {N : Nat} (hN : 100000 ≤ N) {n : Nat} (hn : 3 ≤ n) (hn2 : n < 2 ^ 31) : ∃ b, fX3_isOddPrime N (lN n) = some b ∧ (b = true ↔ Pr n) := by
  unfold fX3_isOddPrime
  rw [rem2 (by omega)]
  by_cases z : n % 2 = 0
  · rw [if_pos (eq0N.mpr z)]
    exact ⟨false, rfl, (fun w => by cases w), fun w => absurd (Nat.dvd_of_mod_eq_zero z) (w.2 2 (by omega) (by omega))⟩
  · rw [if_neg (fun w => z (eq0N.mp w))]
    exact cp_loop N (by omega) hn2 (by omega) 46340 N 3 (by omega) (by omega) (by omega) (by omega) (fun d h1 h2 h3 => by
      have : d = 2 := by omega
      rw [this] at h3
      exact z (Nat.mod_eq_zero_of_dvd h3))
theorem f3_loop (N : Nat) (zp zr zh : Int64) (zip : Nat → Bool) : ∀ (d n i : Nat) (vu vv : Nat → Int64), i + d = 8 → d < n → (∀ k, k < i → vu k = 1 ∧ vv k = 0) → ∃ ou ov, fX4_field_113 N n (nI i) zp zr zh zip vu vv = some (zh.toInt32, zp, zr, zh, zip, ou, ov) ∧ ∀ k, k < 8 → ou k = 1 ∧ ov k = 0
  | 0, n + 1, i, vu, vv, e, _, hk => by
    unfold fX4_field_113
    have c : (8 : Int32) ≤ nI i := nI_le (a := 8) (by omega) (by omega)
    rw [if_pos c]
    exact ⟨_, _, rfl, fun k q => hk k (by omega)⟩
  | d + 1, n + 1, i, vu, vv, e, hn, hk => by
    unfold fX4_field_113
    have c : ¬ (8 : Int32) ≤ nI i := nI_ge (b := 8) (by omega) (by decide)
    rw [if_neg c, if_neg (nI_in (by omega) (by decide)), nI_clamp (by omega)]
    simp only [bnd]
    rw [nI_1]
    refine f3_loop N zp zr zh zip d n (i + 1) _ _ (by omega) (by omega) (fun k q => ?_)
    by_cases w : k = i
    · simp only [vp_updL, if_pos w]; exact ⟨trivial, trivial⟩
    · simp only [vp_updL, if_neg w]; exact hk k (by omega)
theorem f2_loop {N : Nat} (hN : 100000 ≤ N) (zp zr zh : Int64) (vu vv : Nat → Int64) : ∀ (d n i : Nat) (zip : Nat → Bool), i + d = 16 → d < n → (∀ k, k < i → zip k = false) → ∃ oi ou ov, fX4_field_89 N n (nI i) zp zr zh zip vu vv = some (zh.toInt32, zp, zr, zh, oi, ou, ov) ∧ (∀ k, k < 16 → oi k = false) ∧ ∀ k, k < 8 → ou k = 1 ∧ ov k = 0
  | 0, n + 1, i, zip, e, _, hk => by
    unfold fX4_field_89
    have c : (16 : Int32) ≤ nI i := nI_le (a := 16) (by omega) (by omega)
    rw [if_pos c]
    obtain ⟨ou, ov, e1, e2⟩ := f3_loop N zp zr zh zip 8 N 0 vu vv (by omega) (by omega) (fun k q => by omega)
    rw [nI_0] at e1
    exact ⟨_, _, _, e1, fun k q => hk k (by omega), e2⟩
  | d + 1, n + 1, i, zip, e, hn, hk => by
    unfold fX4_field_89
    have c : ¬ (16 : Int32) ≤ nI i := nI_ge (b := 16) (by omega) (by decide)
    rw [if_neg c, if_neg (nI_in (by omega) (by decide)), nI_clamp (by omega)]
    simp only [bnd]
    rw [nI_1]
    refine f2_loop hN zp zr zh vu vv d n (i + 1) _ (by omega) (by omega) (fun k q => ?_)
    by_cases w : k = i
    · simp only [uB, if_pos w]
    · simp only [uB, if_neg w]; exact hk k (by omega)
theorem r2_loop (N : Nat) (zS : Nat → Int64) : ∀ (d n i : Nat) (zV : Nat → Int64), i + d = 8 → d < n → (∀ k, k < i → zV k = 2147483648) → ∃ oV, fX3_clearRows_25 N n (nI i) zS zV = some (zS, oV) ∧ ∀ k, k < 8 → oV k = 2147483648
  | 0, n + 1, i, zV, e, _, hk => by
    unfold fX3_clearRows_25
    have c : (8 : Int32) ≤ nI i := nI_le (a := 8) (by omega) (by omega)
    rw [if_pos c]
    exact ⟨_, rfl, fun k q => hk k (by omega)⟩
  | d + 1, n + 1, i, zV, e, hn, hk => by
    unfold fX3_clearRows_25
    have c : ¬ (8 : Int32) ≤ nI i := nI_ge (b := 8) (by omega) (by decide)
    rw [if_neg c, if_neg (nI_in (by omega) (by decide)), nI_clamp (by omega)]
    simp only [bnd]
    rw [nI_1]
    refine r2_loop N zS d n (i + 1) _ (by omega) (by omega) (fun k q => ?_)
    by_cases w : k = i
    · simp only [vp_updL, if_pos w]
    · simp only [vp_updL, if_neg w]; exact hk k (by omega)
theorem r1_loop {N : Nat} (hN : 100000 ≤ N) (zV : Nat → Int64) : ∀ (d n i : Nat) (zS : Nat → Int64), i + d = 16 → d < n → (∀ k, k < i → zS k = -1) → ∃ oS oV, fX3_clearRows_2 N n (nI i) zS zV = some (oS, oV) ∧ (∀ k, k < 16 → oS k = -1) ∧ ∀ k, k < 8 → oV k = 2147483648
  | 0, n + 1, i, zS, e, _, hk => by
    unfold fX3_clearRows_2
    have c : (16 : Int32) ≤ nI i := nI_le (a := 16) (by omega) (by omega)
    rw [if_pos c]
    obtain ⟨oV, e1, e2⟩ := r2_loop N zS 8 N 0 zV (by omega) (by omega) (fun k q => by omega)
    rw [nI_0] at e1
    exact ⟨_, _, e1, fun k q => hk k (by omega), e2⟩
  | d + 1, n + 1, i, zS, e, hn, hk => by
    unfold fX3_clearRows_2
    have c : ¬ (16 : Int32) ≤ nI i := nI_ge (b := 16) (by omega) (by decide)
    rw [if_neg c, if_neg (nI_in (by omega) (by decide)), nI_clamp (by omega)]
    simp only [bnd]
    rw [nI_1]
    refine r1_loop hN zV d n (i + 1) _ (by omega) (by omega) (fun k q => ?_)
    by_cases w : k = i
    · simp only [vp_updL, if_pos w]
    · simp only [vp_updL, if_neg w]; exact hk k (by omega)
theorem c_clear {N : Nat} (hN : 100000 ≤ N) (zS zV : Nat → Int64) : ∃ oS oV, fX3_clearRows N zS zV = some (oS, oV) ∧ (∀ k, k < 16 → oS k = -1) ∧ ∀ k, k < 8 → oV k = 2147483648 := by
  unfold fX3_clearRows
  obtain ⟨oS, oV, e1, e2⟩ := r1_loop hN zV 16 N 0 zS (by omega) (by omega) (fun k q => by omega)
  rw [nI_0] at e1
  exact ⟨_, _, e1, e2⟩
end
