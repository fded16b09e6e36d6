section
def wm {P : Nat} [NeZero P] (a b : Fin P × Fin P) : Fin P × Fin P := (a.1 * b.1 - a.2 * b.2, a.1 * b.2 + a.2 * b.1)
def w1 {P : Nat} [NeZero P] : Fin P × Fin P := (1, 0)
theorem w_ab {P : Nat} [NeZero P] : Ab (wm (P := P)) w1 (fun _ => True) := by
  refine ⟨trivial, fun _ _ _ _ => trivial, fun a b c _ _ _ => ?_, fun a b _ _ => ?_, fun a _ => ?_⟩
  · exact Prod.ext (show (a.1 * b.1 - a.2 * b.2) * c.1 - (a.1 * b.2 + a.2 * b.1) * c.2 = a.1 * (b.1 * c.1 - b.2 * c.2) - a.2 * (b.1 * c.2 + b.2 * c.1) by grind) (show (a.1 * b.1 - a.2 * b.2) * c.2 + (a.1 * b.2 + a.2 * b.1) * c.1 = a.1 * (b.1 * c.2 + b.2 * c.1) + a.2 * (b.1 * c.1 - b.2 * c.2) by grind)
  · exact Prod.ext (show a.1 * b.1 - a.2 * b.2 = b.1 * a.1 - b.2 * a.2 by grind) (show a.1 * b.2 + a.2 * b.1 = b.1 * a.2 + b.2 * a.1 by grind)
  · exact Prod.ext (show 1 * a.1 - 0 * a.2 = a.1 by grind) (show 1 * a.2 + 0 * a.1 = a.2 by grind)
theorem w_one {P : Nat} [NeZero P] (a : Fin P × Fin P) : wm a w1 = a := by
  rw [(w_ab (P := P)).2.2.2.1 a w1 trivial trivial, (w_ab (P := P)).2.2.2.2 a trivial]
theorem w1_e {P : Nat} [NeZero P] (h : P3 P) : (2147483648 : Int64) = ewd (w1 : Fin P × Fin P) := by
  have h3 := h.2
  have e1 : ((1 : Fin P)).val = 1 := by show 1 % P = 1; exact Nat.mod_eq_of_lt (by omega)
  have e2 : ((0 : Fin P)).val = 0 := by simp
  show (2147483648 : Int64) = lN ((1 : Fin P).val * 2147483648 + (0 : Fin P).val)
  rw [e1, e2]
  rfl
theorem c_wm {P : Nat} [NeZero P] (hP : P < 2 ^ 31) (a b : Fin P × Fin P) : fX1_product (lN P) (ewd a) (ewd b) = some (ewd (wm a b)) := by
  unfold fX1_product
  rw [ewd_up hP a, ewd_up hP b, ewd_lo hP a, ewd_lo hP b, ob, ob, ob, ob]
  simp only [bnd]
  rw [ob, ob, ob, ob]
  have b1 := mul62 a.1.isLt b.1.isLt hP
  have b2 := mul62 a.2.isLt b.2.isLt hP
  have b3 := mul62 a.1.isLt b.2.isLt hP
  have b4 := mul62 a.2.isLt b.1.isLt hP
  have e1 : lv a.1 * lv b.1 - lv a.2 * lv b.2 = lI (((a.1.val * b.1.val : Nat) : Int) - ((a.2.val * b.2.val : Nat) : Int)) := by
    unfold lv
    rw [lN_mul, lN_mul, lI_N, lI_N, lI_sub]
  have e2 : lv a.1 * lv b.2 + lv a.2 * lv b.1 = lN (a.1.val * b.2.val + a.2.val * b.1.val) := by
    unfold lv
    rw [lN_mul, lN_mul, lN_add]
  have r1 : Rp (((a.1.val * b.1.val : Nat) : Int) - ((a.2.val * b.2.val : Nat) : Int)) (a.1 * b.1 - a.2 * b.2) := by
    rw [Int.natCast_mul, Int.natCast_mul]
    exact Rp_sub (Rp_mul (Rp_val _) (Rp_val _)) (Rp_mul (Rp_val _) (Rp_val _))
  have r2 : Rp ((a.1.val * b.2.val + a.2.val * b.1.val : Nat) : Int) (a.1 * b.2 + a.2 * b.1) := by
    rw [Int.natCast_add, Int.natCast_mul, Int.natCast_mul]
    exact Rp_add (Rp_mul (Rp_val _) (Rp_val _)) (Rp_mul (Rp_val _) (Rp_val _))
  generalize a.1.val * b.1.val = n1 at *
  generalize a.2.val * b.2.val = n2 at *
  generalize a.1.val * b.2.val = n3 at *
  generalize a.2.val * b.1.val = n4 at *
  rw [e1, e2, fmod_R hP r1 (by omega) (by omega), ob, if_neg (lP0 hP), rem_R hP r2 (by omega), ewd_jn hP, ob]
  rfl
theorem m_wm {P : Nat} [NeZero P] (hP : P < 2 ^ 31) (a b : Fin P × Fin P) : fX4_multiply2 (lN P) (lv a.1) (lv a.2) (lv b.1) (lv b.2) = some (lv (wm a b).1, lv (wm a b).2) := by
  unfold fX4_multiply2
  rw [if_neg (lP0 hP), remv hP, remv hP, remv hP, remv hP, c_addmod hP]
  simp only [bnd]
  have key : ∀ u v : Fin P, jrem (lv u + lN P - lv v) (lN P) = lv (u - v) := by
    intro u v
    have hu := u.isLt
    have hv := v.isLt
    have e : lv u + lN P - lv v = lN (u.val + P - v.val) := by
      unfold lv
      rw [lN_add, lN_sub (by omega)]
    rw [e]
    refine rem_R hP ?_ (by omega)
    have k := Rp_sub (Rp_val u) (Rp_val v)
    unfold Rp at *
    rw [Int.natCast_sub (by omega), Int.natCast_add, show (u.val : Int) + (P : Int) - (v.val : Int) = (u.val : Int) - (v.val : Int) + (P : Int) by omega, Int.add_emod_right]
    exact k
  rw [key]
  rfl
noncomputable def wp {P : Nat} [NeZero P] (k : Nat) (a : Fin P × Fin P) : Fin P × Fin P := gp wm w1 k a
theorem c_wloop {P : Nat} [NeZero P] (hP : P < 2 ^ 31) (N : Nat) : ∀ (n k : Nat) (t d : Fin P × Fin P), k < 2 ^ n → k < 2 ^ 63 → fX1_raised_11 N (lN P) (n + 1) (ewd t) (ewd d) (lN k) = some (ewd (wm t (wp k d)))
  | n, k, t, d, h1, h2 => by
    have hA := w_ab (P := P)
    by_cases hk : k = 0
    · subst hk
      rw [fX1_raised_11, if_pos ((le0N h2).mpr rfl)]
      show some (ewd t) = some (ewd (wm t w1))
      rw [w_one]
    · match n, h1 with
      | 0, h1 => exact absurd h1 (by omega)
      | n + 1, h1 =>
        have h3 : k / 2 < 2 ^ n := by rw [Nat.pow_succ] at h1; omega
        have e1 : wp (k / 2) (wm d d) = wp (2 * (k / 2)) d := hA.dbl trivial _
        rw [fX1_raised_11, if_neg (fun q => hk ((le0N h2).mp q)), rem2 h2]
        by_cases q : k % 2 = 1
        · rw [if_pos (eq1N.mpr q), c_wm hP, ob, c_wm hP, ob]
          simp only [bnd]
          rw [shr1 h2, c_wloop hP N n (k / 2) _ _ h3 (by omega)]
          have e2 : wp k d = wm d (wp (2 * (k / 2)) d) := by
            have : wp (2 * (k / 2) + 1) d = wm d (wp (2 * (k / 2)) d) := rfl
            rw [← this, show 2 * (k / 2) + 1 = k by omega]
          rw [e1, e2, hA.2.2.1 t d _ trivial trivial trivial]
        · rw [if_neg (fun z => q (eq1N.mp z)), c_wm hP, ob]
          simp only [bnd]
          rw [shr1 h2, c_wloop hP N n (k / 2) _ _ h3 (by omega), e1, show 2 * (k / 2) = k by omega]
theorem c_wpow {P : Nat} [NeZero P] (h : P3 P) (hP : P < 2 ^ 31) {N : Nat} (hN : 100000 ≤ N) {k : Nat} (hk : k < 2 ^ 63) (a : Fin P × Fin P) : fX1_raised N (lN P) (ewd a) (lN k) = some (ewd (wp k a)) := by
  unfold fX1_raised
  obtain ⟨n, rfl⟩ : ∃ n, N = n + 1 := ⟨N - 1, by omega⟩
  have h2n : 2 ^ 63 ≤ 2 ^ n := Nat.pow_le_pow_right (by decide) (by omega)
  rw [w1_e h, c_wloop hP (n + 1) n k w1 a (by omega) hk, (w_ab (P := P)).2.2.2.2 _ trivial]
theorem m_wloop {P : Nat} [NeZero P] (hP : P < 2 ^ 31) (N : Nat) {K : Nat} (hK : K < 2 ^ 64) (a : Fin P × Fin P) : ∀ (b n : Nat) (t : Fin P × Fin P), b ≤ 64 → b < n → t = wp (K / 2 ^ b) a → fX4_power2_25 N (lN P) (lN K) (lv a.1) (lv a.2) n (nI b + (-1)) (lv t.1) (lv t.2) = some (lv (wp K a).1, lv (wp K a).2)
  | 0, n, t, hb, hn, ht => by
    obtain ⟨m, rfl⟩ : ∃ m, n = m + 1 := ⟨n - 1, by omega⟩
    rw [fX4_power2_25, if_pos (by decide)]
    rw [Nat.pow_zero, Nat.div_one] at ht
    rw [ht]
  | b + 1, n, t, hb, hn, ht => by
    have hA := w_ab (P := P)
    obtain ⟨m, rfl⟩ : ∃ m, n = m + 1 := ⟨n - 1, by omega⟩
    rw [fX4_power2_25, pk_m1, if_neg (nI_pos (by omega)), m_wm hP, ob]
    show (if jushr (lN K) (nI b) &&& 1 = 1 then _ else _) = _
    have e2 : jushr (lN K) (nI b) &&& 1 = lN (K / 2 ^ b % 2) := wb_bit hK (by omega)
    have e3 : K / 2 ^ b = 2 * (K / 2 ^ (b + 1)) + K / 2 ^ b % 2 := by
      rw [Nat.pow_succ, ← Nat.div_div_eq_div_mul]; omega
    have e4 : wm t t = wp (2 * (K / 2 ^ (b + 1))) a := by
      have k := hA.add (g := a) trivial (K / 2 ^ (b + 1)) (K / 2 ^ (b + 1))
      rw [← Nat.two_mul] at k
      rw [ht]
      exact k.symm
    rw [e2]
    by_cases q : K / 2 ^ b % 2 = 1
    · rw [if_pos (eq1N.mpr q), m_wm hP, ob]
      simp only [bnd]
      refine m_wloop hP N hK a b m _ (by omega) (by omega) ?_
      have e6 : wp (K / 2 ^ b) a = wm (wp (2 * (K / 2 ^ (b + 1))) a) a := by
        rw [e3, q]
        have k1 := hA.add (g := a) trivial 1 (2 * (K / 2 ^ (b + 1)))
        rw [hA.one trivial] at k1
        exact k1
      rw [e6, e4]
    · rw [if_neg (fun z => q (eq1N.mp z))]
      simp only [bnd]
      refine m_wloop hP N hK a b m _ (by omega) (by omega) ?_
      rw [e4, e3, show K / 2 ^ b % 2 = 0 by omega]
      rfl
theorem m_wpow {P : Nat} [NeZero P] (h : P3 P) (hP : P < 2 ^ 31) {N : Nat} (hN : 100000 ≤ N) {K : Nat} (hK : K < 2 ^ 64) (a : Fin P × Fin P) : fX4_power2 N (lN P) (lv a.1) (lv a.2) (lN K) = some (lv (wp K a).1, lv (wp K a).2) := by
  unfold fX4_power2
  have e : (63 : Int32) = nI 64 + (-1) := by decide
  have e0 : (0 : Int64) = lv (0 : Fin P) := ((lv_0 hP).mpr rfl).symm
  rw [e, l1P h, e0]
  exact m_wloop hP N hK a 64 N w1 (by omega) (by omega) (by rw [Nat.div_eq_of_lt hK]; rfl)
end
