section
theorem jrem_I (x y : Int64) (hy : 0 < y.toInt) : jrem x y = lI (x.toInt.tmod y.toInt) := by
  have hne : y ≠ -1 := fun q => by rw [q] at hy; exact absurd hy (by decide)
  have h1 : (x / y).toInt = x.toInt.tdiv y.toInt := Int64.toInt_div_of_ne_right x y hne
  have e1 : lI x.toInt = x := Int64.ofInt_toInt x
  have e2 : lI y.toInt = y := Int64.ofInt_toInt y
  have e3 : lI (x.toInt.tdiv y.toInt) = x / y := by rw [← h1]; exact Int64.ofInt_toInt _
  have e4 : lI x.toInt - lI (x.toInt.tdiv y.toInt) * lI y.toInt = lI (x.toInt.tmod y.toInt) := by
    rw [lI_mul, lI_sub, Int.tmod_def, Int.mul_comm y.toInt]
  rw [e1, e2, e3] at e4
  exact e4
theorem I_ge (x : Int64) : 0 ≤ x ↔ 0 ≤ x.toInt := by
  rw [Int64.le_iff_toInt_le]
  exact Iff.rfl
theorem I_eq0 (x : Int64) : x = 0 ↔ x.toInt = 0 := by
  rw [← Int64.toInt_inj]
  exact Iff.rfl
theorem xor_ge (x y : Int64) (hy : 0 ≤ y.toInt) : 0 ≤ x ^^^ y ↔ 0 ≤ x.toInt := by
  rw [I_ge]
  have h1 : (x ^^^ y).toBitVec.msb = (x.toBitVec.msb ^^ y.toBitVec.msb) := by rw [Int64.toBitVec_xor, BitVec.msb_xor]
  rw [BitVec.msb_eq_toInt, BitVec.msb_eq_toInt, BitVec.msb_eq_toInt] at h1
  have h2 : decide (y.toBitVec.toInt < 0) = false := decide_eq_false (by show ¬ y.toInt < 0; omega)
  rw [h2, Bool.xor_false] at h1
  have h3 : ((x ^^^ y).toInt < 0) ↔ (x.toInt < 0) := by
    have := decide_eq_decide.mp h1
    exact this
  omega
theorem tm_cases (a b : Int) (hb : 0 < b) : (0 ≤ a.tmod b ∧ a.tmod b = a % b ∧ (0 ≤ a ∨ a.tmod b = 0)) ∨ (a.tmod b < 0 ∧ a < 0 ∧ a.tmod b = a % b - b) := by
  have h := @Int.tmod_eq_emod a b
  have h1 := Int.emod_nonneg a (show b ≠ 0 by omega)
  have h2 := Int.emod_lt_of_pos a hb
  by_cases q : 0 ≤ a ∨ b ∣ a
  · rw [if_pos q] at h
    left
    refine ⟨by omega, by omega, ?_⟩
    rcases q with q | q
    · exact Or.inl q
    · right
      have := Int.emod_eq_zero_of_dvd q
      omega
  · rw [if_neg q] at h
    right
    have : (b.natAbs : Int) = b := by omega
    have q1 : ¬ 0 ≤ a := fun z => q (Or.inl z)
    omega
theorem fit_I (x y : Int64) (hy : 0 < y.toInt) : fX4_fit y x = some (lI (x.toInt % y.toInt)) := by
  unfold fX4_fit
  have hne : ¬ y = 0 := fun q => by rw [q] at hy; exact absurd hy (by decide)
  rw [if_neg hne, jrem_I x y hy]
  simp only [bnd]
  have r1 := Int64.toInt_lt y
  have r3 := Int.emod_lt_of_pos x.toInt hy
  have r4 := Int.emod_nonneg x.toInt (show y.toInt ≠ 0 by omega)
  rcases tm_cases x.toInt y.toInt hy with ⟨h1, h2, -⟩ | ⟨h1, -, h2⟩
  · rw [if_pos ((lI_ge0 (by omega) (by omega)).mpr h1), h2]
  · rw [if_neg (fun q => by have := (lI_ge0 (by omega) (by omega)).mp q; omega), h2]
    have e2 : lI y.toInt = y := Int64.ofInt_toInt y
    have e3 : lI (x.toInt % y.toInt - y.toInt) + lI y.toInt = lI (x.toInt % y.toInt) := by
      rw [lI_add]; congr 1; omega
    rw [e2] at e3
    rw [e3]
theorem fmod_I (x y : Int64) (hy : 0 < y.toInt) : fJ9_floorMod_f86c9 x y = some (lI (x.toInt % y.toInt)) := by
  unfold fJ9_floorMod_f86c9
  have hne : ¬ y = 0 := fun q => by rw [q] at hy; exact absurd hy (by decide)
  rw [if_neg hne, jrem_I x y hy]
  simp only [bnd]
  have r1 := Int64.toInt_lt y
  have r3 := Int.emod_lt_of_pos x.toInt hy
  have r4 := Int.emod_nonneg x.toInt (show y.toInt ≠ 0 by omega)
  rcases tm_cases x.toInt y.toInt hy with ⟨h1, h2, h4⟩ | ⟨h1, h3, h2⟩
  · by_cases q : 0 ≤ x ^^^ y
    · rw [if_pos q, h2]
    · rw [if_neg q]
      have hx : ¬ 0 ≤ x.toInt := fun z => q ((xor_ge x y (by omega)).mpr z)
      have h6 : x.toInt.tmod y.toInt = 0 := by omega
      rw [← h2, h6, if_pos (show lI 0 = 0 from rfl)]
  · rw [if_neg (fun q => by have := (xor_ge x y (by omega)).mp q; omega)]
    rw [if_neg (fun q => by
      have := (I_eq0 _).mp q
      rw [lI_t (by omega) (by omega)] at this
      omega), h2]
    have e2 : lI y.toInt = y := Int64.ofInt_toInt y
    have e3 : lI (x.toInt % y.toInt - y.toInt) + lI y.toInt = lI (x.toInt % y.toInt) := by
      rw [lI_add]; congr 1; omega
    rw [e2] at e3
    rw [e3]
/-- the number z, modulo P, is f -/
def Rp {P : Nat} (z : Int) (f : Fin P) : Prop := z % (P : Int) = (f.val : Int)
theorem Rp_val {P : Nat} (f : Fin P) : Rp (f.val : Int) f := by
  have := f.isLt
  exact Int.emod_eq_of_lt (by omega) (by omega)
theorem Rp_nat {P : Nat} [NeZero P] (k : Nat) : Rp (k : Int) (Fin.ofNat P k) := by
  show (k : Int) % (P : Int) = ((k % P : Nat) : Int)
  rw [Int.natCast_emod]
theorem Rp_add {P : Nat} [NeZero P] {z w : Int} {f g : Fin P} (h1 : Rp z f) (h2 : Rp w g) : Rp (z + w) (f + g) := by
  unfold Rp at *
  rw [Int.add_emod, h1, h2, Fin.val_add, Int.natCast_emod, Int.natCast_add]
theorem Rp_mul {P : Nat} [NeZero P] {z w : Int} {f g : Fin P} (h1 : Rp z f) (h2 : Rp w g) : Rp (z * w) (f * g) := by
  unfold Rp at *
  rw [Int.mul_emod, h1, h2, Fin.val_mul, Int.natCast_emod, Int.natCast_mul]
theorem Rp_sub {P : Nat} [NeZero P] {z w : Int} {f g : Fin P} (h1 : Rp z f) (h2 : Rp w g) : Rp (z - w) (f - g) := by
  unfold Rp at *
  have hg := g.isLt
  have e : (f - g).val = (P - g.val + f.val) % P := by rw [Fin.sub_def]
  rw [Int.sub_emod, h1, h2, e, Int.natCast_emod, Int.natCast_add, Int.natCast_sub (by omega)]
  rw [show (P : Int) - (g.val : Int) + (f.val : Int) = (f.val : Int) - (g.val : Int) + (P : Int) by omega, Int.add_emod_right]
theorem Rp_0 {P : Nat} [NeZero P] : Rp 0 (0 : Fin P) := Rp_nat 0
theorem Rp_neg {P : Nat} [NeZero P] {z : Int} {f : Fin P} (h1 : Rp z f) : Rp (-z) (-f) := by
  have h := Rp_sub (Rp_0 (P := P)) h1
  rw [show (0 : Int) - z = -z by omega, show (0 : Fin P) - f = -f by grind] at h
  exact h
theorem Rp_mod {P : Nat} {z : Int} {f : Fin P} (h : Rp z f) : Rp (z % (P : Int)) f := by
  unfold Rp at *
  rw [Int.emod_emod]; exact h
theorem lPt {P : Nat} (hP : P < 2 ^ 31) : (lN P).toInt = (P : Int) := pk_lT (by omega)
theorem fit_R {P : Nat} [NeZero P] (hP : P < 2 ^ 31) {z : Int} {f : Fin P} (h : Rp z f) (h1 : -2 ^ 63 ≤ z) (h2 : z < 2 ^ 63) : fX4_fit (lN P) (lI z) = some (lv f) := by
  have h0 : 0 < P := Nat.pos_of_ne_zero (NeZero.ne P)
  rw [fit_I _ _ (by rw [lPt hP]; omega), lPt hP, lI_t h1 h2]
  have h : z % (P : Int) = (f.val : Int) := h
  rw [h]
  exact congrArg some (lI_N f.val).symm
theorem fmod_R {P : Nat} [NeZero P] (hP : P < 2 ^ 31) {z : Int} {f : Fin P} (h : Rp z f) (h1 : -2 ^ 63 ≤ z) (h2 : z < 2 ^ 63) : fJ9_floorMod_f86c9 (lI z) (lN P) = some (lv f) := by
  have h0 : 0 < P := Nat.pos_of_ne_zero (NeZero.ne P)
  rw [fmod_I _ _ (by rw [lPt hP]; omega), lPt hP, lI_t h1 h2]
  have h : z % (P : Int) = (f.val : Int) := h
  rw [h]
  exact congrArg some (lI_N f.val).symm
theorem rem_R {P : Nat} [NeZero P] (hP : P < 2 ^ 31) {n : Nat} {f : Fin P} (h : Rp (n : Int) f) (hn : n < 2 ^ 63) : jrem (lN n) (lN P) = lv f := by
  have h0 : 0 < P := Nat.pos_of_ne_zero (NeZero.ne P)
  rw [remN hn h0 (by omega)]
  unfold lv
  congr 1
  have : ((n % P : Nat) : Int) = (f.val : Int) := by rw [Int.natCast_emod]; exact h
  exact_mod_cast this
end
