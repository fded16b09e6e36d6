section
/-- prime numbers -/
def Pr (P : Nat) : Prop := 2 ≤ P ∧ ∀ d, 2 ≤ d → d < P → ¬ d ∣ P
theorem pr_inv {P : Nat} (hp : Pr P) : ∀ n a : Nat, a ≤ n → 0 < a → a < P → ∃ b : Nat, b < P ∧ (a * b) % P = 1
  | 0, a, h1, h2, _ => absurd h2 (by omega)
  | n + 1, a, h1, h2, h3 => by
    by_cases ha : a = 1
    · subst ha
      exact ⟨1, h3, by rw [Nat.mul_one]; exact Nat.mod_eq_of_lt h3⟩
    · have hr0 : P % a ≠ 0 := fun q => hp.2 a (by omega) h3 (Nat.dvd_of_mod_eq_zero q)
      have hr1 : P % a < a := Nat.mod_lt _ h2
      obtain ⟨c, hc1, hc2⟩ := pr_inv hp n (P % a) (by omega) (by omega) (by omega)
      have hP0 : (0 : Int) < P := by have := hp.1; omega
      refine ⟨((-((P / a : Nat) : Int) * c) % (P : Int)).toNat, ?_, ?_⟩
      · have := Int.emod_lt_of_pos (-((P / a : Nat) : Int) * c) hP0
        have := Int.emod_nonneg (-((P / a : Nat) : Int) * c) (Int.ne_of_gt hP0)
        omega
      · have e1 : (((-((P / a : Nat) : Int) * c) % (P : Int)).toNat : Int) = (-((P / a : Nat) : Int) * c) % (P : Int) := Int.toNat_of_nonneg (Int.emod_nonneg _ (Int.ne_of_gt hP0))
        have e2 : ((a * ((-((P / a : Nat) : Int) * c) % (P : Int)).toNat % P : Nat) : Int) = 1 := by
          rw [Int.natCast_emod, Int.natCast_mul, e1, Int.mul_emod, Int.emod_emod, ← Int.mul_emod]
          have e3 : (P : Int) = (a : Int) * ((P / a : Nat) : Int) + ((P % a : Nat) : Int) := by
            have := Nat.div_add_mod P a
            exact_mod_cast this.symm
          have e4 : (a : Int) * (-((P / a : Nat) : Int) * c) = ((P % a : Nat) : Int) * c + (P : Int) * (-(c : Int)) := by
            generalize ((P / a : Nat) : Int) = q at e3 ⊢
            generalize ((P % a : Nat) : Int) = r at e3 ⊢
            grind
          rw [e4, Int.add_mul_emod_self_left]
          exact_mod_cast hc2
        exact_mod_cast e2
theorem gp_pow (P g : Nat) (h : 2 ≤ P) : ∀ n, gp (fun a b => a * b % P) 1 n g = g ^ n % P
  | 0 => by
    show 1 = g ^ 0 % P
    rw [Nat.pow_zero]; exact (Nat.mod_eq_of_lt (by omega)).symm
  | n + 1 => by
    show g * gp (fun a b => a * b % P) 1 n g % P = _
    rw [gp_pow P g h n, Nat.mul_mod_mod, Nat.pow_succ, Nat.mul_comm]
theorem pr_mul {P a b : Nat} (hp : Pr P) (ha : 0 < a ∧ a < P) (hb : 0 < b ∧ b < P) : 0 < a * b % P ∧ a * b % P < P := by
  refine ⟨Nat.pos_of_ne_zero fun q => ?_, Nat.mod_lt _ (by omega)⟩
  obtain ⟨c, hc1, hc2⟩ := pr_inv hp a a (Nat.le_refl a) ha.1 ha.2
  have : (a * c) * b % P = 0 := by
    rw [Nat.mul_right_comm, Nat.mul_mod, q, Nat.zero_mul, Nat.zero_mod]
  rw [Nat.mul_mod, hc2, Nat.one_mul, Nat.mod_mod, Nat.mod_eq_of_lt hb.2] at this
  omega
/-- Fermat's little theorem -/
theorem fermat {P a : Nat} (hp : Pr P) (h0 : 0 < a) (h1 : a < P) : a ^ (P - 1) % P = 1 := by
  have h2 := hp.1
  have k := lag (op := fun a b => a * b % P) (e := 1) (S := fun a => 0 < a ∧ a < P) (by omega) (fun a b ha hb => pr_mul hp ha hb)
    (fun a b c _ _ _ => by show a * b % P * c % P = a * (b * c % P) % P; rw [Nat.mod_mul_mod, Nat.mul_mod_mod, Nat.mul_assoc])
    (fun a b _ _ => by show a * b % P = b * a % P; rw [Nat.mul_comm])
    (fun a ha => by show 1 * a % P = a; rw [Nat.one_mul]; exact Nat.mod_eq_of_lt ha.2)
    (fun a ha => by
      obtain ⟨b, hb1, hb2⟩ := pr_inv hp a a (Nat.le_refl a) ha.1 ha.2
      refine ⟨b, ⟨Nat.pos_of_ne_zero fun q => ?_, hb1⟩, ?_⟩
      · rw [q, Nat.mul_zero, Nat.zero_mod] at hb2; omega
      · show b * a % P = 1; rw [Nat.mul_comm]; exact hb2)
    (List.range' 1 (P - 1)) List.nodup_range' (fun x => by rw [List.mem_range'_1]; omega) (g := a) ⟨h0, h1⟩
  rw [List.length_range', gp_pow P a h2] at k
  exact k
end
