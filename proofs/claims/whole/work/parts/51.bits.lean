section
def L4 (w v : Int32) : Option Int32 := if v < 4 then some (w - (jiushr v 1)) else bnd (w + (-2)) fun a => bnd (jiushr v 2) fun b => some (a - (jiushr b 1))
def L16 (w v : Int32) : Option Int32 := if v < 16 then L4 w v else bnd (w + (-4)) fun a => bnd (jiushr v 4) fun b => L4 a b
def L256 (w v : Int32) : Option Int32 := if v < 256 then L16 w v else bnd (w + (-8)) fun a => bnd (jiushr v 8) fun b => L16 a b
theorem J6_eq (q0 : Int32) (h : 0 < q0) : fJ6_numberOfLeadingZeros_0f7a4 q0 = if q0 < 65536 then L256 31 q0 else bnd (31 + (-16)) fun a => bnd (jiushr q0 16) fun b => L256 a b := by
  unfold fJ6_numberOfLeadingZeros_0f7a4
  rw [if_pos h]
  rfl
theorem iu {m : Nat} (hm : m < 2 ^ 31) (s : Int32) (k : Nat) (hs : ((s.toUInt32 &&& Int32.toUInt32 31).toBitVec % 32).toNat = k) : jiushr (nI m) s = nI (m / 2 ^ k) := pk_ushrN (by omega) s k hs
theorem nIm {B k : Nat} {c : Int32} (hc : c = -(nI k)) (h : k ≤ B) : nI B + c = nI (B - k) := by
  rw [hc, ← pk_sub h]
  generalize nI B = x
  generalize nI k = y
  grind
theorem ltc {m k : Nat} {c : Int32} (hc : c = nI k) (hm : m < 2 ^ 31) (hk : k < 2 ^ 31) : nI m < c ↔ m < k := by rw [hc]; exact nI_ltI hm hk
theorem L4_ok {B m : Nat} (hB : 3 ≤ B) (h1 : 1 ≤ m) (h2 : m < 16) : ∃ hb, hb ≤ 3 ∧ 2 ^ hb ≤ m ∧ m < 2 ^ (hb + 1) ∧ L4 (nI B) (nI m) = some (nI (B - hb)) := by
  unfold L4
  by_cases q : m < 4
  · rw [if_pos ((ltc (k := 4) (c := 4) rfl (by omega) (by decide)).mpr q), iu (by omega) 1 1 (by decide), pk_sub (by omega)]
    by_cases q2 : m < 2
    · exact ⟨0, by omega, by omega, by omega, by rw [show m / 2 ^ 1 = 0 by omega]⟩
    · exact ⟨1, by omega, by omega, by omega, by rw [show m / 2 ^ 1 = 1 by omega]⟩
  · rw [if_neg (fun z => q ((ltc (k := 4) (c := 4) rfl (by omega) (by decide)).mp z))]
    simp only [bnd]
    rw [nIm (k := 2) (by decide) (by omega), iu (by omega) 2 2 (by decide), iu (by omega) 1 1 (by decide), pk_sub (by omega)]
    by_cases q2 : m < 8
    · exact ⟨2, by omega, by omega, by omega, by rw [show B - 2 - m / 2 ^ 2 / 2 ^ 1 = B - 2 by omega]⟩
    · exact ⟨3, by omega, by omega, by omega, by rw [show B - 2 - m / 2 ^ 2 / 2 ^ 1 = B - 3 by omega]⟩
theorem L16_ok {B m : Nat} (hB : 7 ≤ B) (h1 : 1 ≤ m) (h2 : m < 256) : ∃ hb, hb ≤ 7 ∧ 2 ^ hb ≤ m ∧ m < 2 ^ (hb + 1) ∧ L16 (nI B) (nI m) = some (nI (B - hb)) := by
  unfold L16
  by_cases q : m < 16
  · rw [if_pos ((ltc (k := 16) (c := 16) rfl (by omega) (by decide)).mpr q)]
    obtain ⟨hb, k1, k2, k3, k4⟩ := L4_ok (B := B) (by omega) h1 q
    exact ⟨hb, by omega, k2, k3, k4⟩
  · rw [if_neg (fun z => q ((ltc (k := 16) (c := 16) rfl (by omega) (by decide)).mp z))]
    simp only [bnd]
    rw [nIm (k := 4) (by decide) (by omega), iu (by omega) 4 4 (by decide)]
    obtain ⟨hb, k1, k2, k3, k4⟩ := L4_ok (B := B - 4) (m := m / 2 ^ 4) (by omega) (by omega) (by omega)
    refine ⟨hb + 4, by omega, ?_, ?_, by rw [k4, show B - 4 - hb = B - (hb + 4) by omega]⟩
    · rw [Nat.pow_add]; omega
    · rw [show hb + 4 + 1 = (hb + 1) + 4 by omega, Nat.pow_add]; omega
theorem L256_ok {B m : Nat} (hB : 15 ≤ B) (h1 : 1 ≤ m) (h2 : m < 65536) : ∃ hb, hb ≤ 15 ∧ 2 ^ hb ≤ m ∧ m < 2 ^ (hb + 1) ∧ L256 (nI B) (nI m) = some (nI (B - hb)) := by
  unfold L256
  by_cases q : m < 256
  · rw [if_pos ((ltc (k := 256) (c := 256) rfl (by omega) (by decide)).mpr q)]
    obtain ⟨hb, k1, k2, k3, k4⟩ := L16_ok (B := B) (by omega) h1 q
    exact ⟨hb, by omega, k2, k3, k4⟩
  · rw [if_neg (fun z => q ((ltc (k := 256) (c := 256) rfl (by omega) (by decide)).mp z))]
    simp only [bnd]
    rw [nIm (k := 8) (by decide) (by omega), iu (by omega) 8 8 (by decide)]
    obtain ⟨hb, k1, k2, k3, k4⟩ := L16_ok (B := B - 8) (m := m / 2 ^ 8) (by omega) (by omega) (by omega)
    refine ⟨hb + 8, by omega, ?_, ?_, by rw [k4, show B - 8 - hb = B - (hb + 8) by omega]⟩
    · rw [Nat.pow_add]; omega
    · rw [show hb + 8 + 1 = (hb + 1) + 8 by omega, Nat.pow_add]; omega
theorem c_nlz {R : Nat} (h1 : 1 ≤ R) (h2 : R < 2 ^ 31) : ∃ hb, hb ≤ 31 ∧ 2 ^ hb ≤ R ∧ R < 2 ^ (hb + 1) ∧ fX1_bitsBehindHighest (lN R) = some (nI hb) := by
  have key : ∃ hb, hb ≤ 31 ∧ 2 ^ hb ≤ R ∧ R < 2 ^ (hb + 1) ∧ fJ6_numberOfLeadingZeros_0f7a4 (nI R) = some (nI (31 - hb)) := by
    rw [J6_eq _ (by rw [show (0 : Int32) = nI 0 from rfl]; exact nI_lt (by omega) h2)]
    by_cases q : R < 65536
    · rw [if_pos ((ltc (k := 65536) (c := 65536) rfl h2 (by decide)).mpr q)]
      obtain ⟨hb, k1, k2, k3, k4⟩ := L256_ok (B := 31) (by omega) h1 q
      exact ⟨hb, by omega, k2, k3, k4⟩
    · rw [if_neg (fun z => q ((ltc (k := 65536) (c := 65536) rfl h2 (by decide)).mp z))]
      simp only [bnd]
      rw [show (31 : Int32) + (-16) = nI 15 from by decide, iu h2 16 16 (by decide)]
      obtain ⟨hb, k1, k2, k3, k4⟩ := L256_ok (B := 15) (m := R / 2 ^ 16) (by omega) (by omega) (by omega)
      refine ⟨hb + 16, by omega, ?_, ?_, by rw [k4, show 15 - hb = 31 - (hb + 16) by omega]⟩
      · rw [Nat.pow_add]; omega
      · rw [show hb + 16 + 1 = (hb + 1) + 16 by omega, Nat.pow_add]; omega
  obtain ⟨hb, k1, k2, k3, k4⟩ := key
  refine ⟨hb, k1, k2, k3, ?_⟩
  unfold fX1_bitsBehindHighest fJ13_numberOfLeadingZeros_95d88
  simp only [bnd]
  have e1 : jushr (lN R) 32 = lN 0 := by
    have : jushr (lN R) (nI 32) = lN (R / 2 ^ 32) := wb_shr (by omega) (by decide)
    rw [show R / 2 ^ 32 = 0 by omega] at this
    exact this
  rw [e1, if_pos (by decide), lN_i, k4, ob, ob]
  rw [show (32 : Int32) = nI 32 from rfl, nI_add, show (63 : Int32) = nI 63 from rfl, pk_sub (by omega)]
  congr 2
  omega
end
