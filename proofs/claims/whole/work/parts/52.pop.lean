section
/-- 'and' lane by lane, a byte each -/
theorem and_lane (a m : Nat) {b n : Nat} (hb : b < 256) (hn : n < 256) : (256 * a + b) &&& (256 * m + n) = 256 * (a &&& m) + (b &&& n) := by
  have h1 : ((256 * a + b) &&& (256 * m + n)) % 2 ^ 8 = (b &&& n) := by
    rw [Nat.and_mod_two_pow]
    rw [show (256 * a + b) % 2 ^ 8 = b by omega, show (256 * m + n) % 2 ^ 8 = n by omega]
  have h2 : ((256 * a + b) &&& (256 * m + n)) / 2 ^ 8 = (a &&& m) := by
    rw [Nat.and_div_two_pow]
    rw [show (256 * a + b) / 2 ^ 8 = a by omega, show (256 * m + n) / 2 ^ 8 = m by omega]
  omega
def g1 (b : Nat) : Nat := b - ((b / 2) &&& 85)
def g2 (b : Nat) : Nat := (b &&& 51) + ((b / 4) &&& 51)
def g3 (b : Nat) : Nat := (b + b / 16) &&& 15
def pc8 (b : Nat) : Nat := b % 2 + b / 2 % 2 + b / 4 % 2 + b / 8 % 2 + b / 16 % 2 + b / 32 % 2 + b / 64 % 2 + b / 128 % 2
theorem g_tab : ∀ b, b < 256 → (b / 2 &&& 85) ≤ b ∧ g1 b < 256 ∧ g2 (g1 b) < 256 ∧ g2 (g1 b) % 16 ≤ 4 ∧ g2 (g1 b) / 16 ≤ 4 ∧ g3 (g2 (g1 b)) = pc8 b ∧ pc8 b ≤ 8 := by decide +kernel
theorem g_m1 : ∀ t, t < 2 → ∀ b, b < 256 → ((128 * t + b / 2) &&& 85) = (b / 2 &&& 85) := by decide +kernel
theorem g_m2 : ∀ t, t < 4 → ∀ b, b < 256 → ((64 * t + b / 4) &&& 51) = (b / 4 &&& 51) := by decide +kernel
theorem g_m3 : ∀ t, t < 5 → ∀ b, b < 69 → ((b + 16 * t + b / 16) &&& 15) = ((b + b / 16) &&& 15) := by decide +kernel
def f1 (x M : Nat) : Nat := x - ((x / 2) &&& M)
def f2 (x M : Nat) : Nat := (x &&& M) + ((x / 4) &&& M)
def f3 (x M : Nat) : Nat := (x + x / 16) &&& M
theorem and_le (x M : Nat) : (x / 2 &&& M) ≤ x := Nat.le_trans Nat.and_le_left (Nat.div_le_self _ _)
theorem f1_s (a M : Nat) {b : Nat} (hb : b < 256) : f1 (256 * a + b) (256 * M + 85) = 256 * f1 a M + g1 b := by
  unfold f1 g1
  have e : (256 * a + b) / 2 = 256 * (a / 2) + (128 * (a % 2) + b / 2) := by omega
  rw [e, and_lane _ _ (by omega) (by decide), g_m1 (a % 2) (by omega) b hb]
  have k1 := and_le a M
  have k2 := (g_tab b hb).1
  omega
theorem f2_s (a M : Nat) {b : Nat} (hb : b < 256) : f2 (256 * a + b) (256 * M + 51) = 256 * f2 a M + g2 b := by
  unfold f2 g2
  have e : (256 * a + b) / 4 = 256 * (a / 4) + (64 * (a % 4) + b / 4) := by omega
  rw [e, and_lane _ _ hb (by decide), and_lane _ _ (by omega) (by decide), g_m2 (a % 4) (by omega) b hb]
  omega
theorem f3_s (a M : Nat) {b : Nat} (hb : b % 16 ≤ 4) (hb2 : b / 16 ≤ 4) (ha : a % 16 ≤ 4) : f3 (256 * a + b) (256 * M + 15) = 256 * f3 a M + g3 b := by
  unfold f3 g3
  have e : 256 * a + b + (256 * a + b) / 16 = 256 * (a + a / 16) + (b + 16 * (a % 16) + b / 16) := by omega
  rw [e, and_lane _ _ (by omega) (by decide), g_m3 (a % 16) (by omega) b (by omega)]
/-- the bits of a number below 2 to the 32, counted -/
def pcR (R : Nat) : Nat := pc8 (R % 256) + pc8 (R / 256 % 256) + pc8 (R / 65536 % 256) + pc8 (R / 16777216 % 256)
theorem swar {R : Nat} (hR : R < 2 ^ 32) : f3 (f2 (f1 R 6148914691236517205) 3689348814741910323) 1085102592571150095 = pc8 (R % 256) + 256 * (pc8 (R / 256 % 256) + 256 * (pc8 (R / 65536 % 256) + 256 * pc8 (R / 16777216 % 256))) := by
  obtain ⟨b0, b1, b2, b3, h0, h1, h2, h3, hR⟩ : ∃ b0 b1 b2 b3, b0 < 256 ∧ b1 < 256 ∧ b2 < 256 ∧ b3 < 256 ∧ R = 256 * (256 * (256 * (256 * 0 + b3) + b2) + b1) + b0 := ⟨R % 256, R / 256 % 256, R / 65536 % 256, R / 16777216 % 256, by omega, by omega, by omega, by omega, by omega⟩
  have t0 := g_tab b0 h0
  have t1 := g_tab b1 h1
  have t2 := g_tab b2 h2
  have t3 := g_tab b3 h3
  have m1 : 6148914691236517205 = 256 * (256 * (256 * (256 * 1431655765 + 85) + 85) + 85) + 85 := by decide
  have m2 : 3689348814741910323 = 256 * (256 * (256 * (256 * 858993459 + 51) + 51) + 51) + 51 := by decide
  have m3 : 1085102592571150095 = 256 * (256 * (256 * (256 * 252645135 + 15) + 15) + 15) + 15 := by decide
  have z1 : f1 0 1431655765 = 0 := by decide +kernel
  have z2 : f2 0 858993459 = 0 := by decide +kernel
  have z3 : f3 0 252645135 = 0 := by decide +kernel
  have r0 : R % 256 = b0 := by omega
  have r1 : R / 256 % 256 = b1 := by omega
  have r2 : R / 65536 % 256 = b2 := by omega
  have r3 : R / 16777216 % 256 = b3 := by omega
  rw [r0, r1, r2, r3, hR, m1, m2, m3, f1_s _ _ h0, f1_s _ _ h1, f1_s _ _ h2, f1_s _ _ h3, z1]
  rw [f2_s _ _ t0.2.1, f2_s _ _ t1.2.1, f2_s _ _ t2.2.1, f2_s _ _ t3.2.1, z2]
  rw [f3_s _ _ t0.2.2.2.1 t0.2.2.2.2.1 (by omega), f3_s _ _ t1.2.2.2.1 t1.2.2.2.2.1 (by omega), f3_s _ _ t2.2.2.2.1 t2.2.2.2.2.1 (by omega), f3_s _ _ t3.2.2.2.1 t3.2.2.2.2.1 (by omega), z3]
  rw [t0.2.2.2.2.2.1, t1.2.2.2.2.2.1, t2.2.2.2.2.2.1, t3.2.2.2.2.2.1]
  omega
theorem ju {n k : Nat} {s : Int32} (hs : s = nI k) (hk : k < 64) (hn : n < 2 ^ 64) : jushr (lN n) s = lN (n / 2 ^ k) := by
  rw [hs]
  exact wb_shr hn hk
theorem c_pop {R : Nat} (hR : R < 2 ^ 31) : fJ13_bitCount_95d88 (lN R) = some (nI (pcR R)) := by
  have hs := swar (R := R) (by omega)
  have p0 := (g_tab (R % 256) (by omega)).2.2.2.2.2.2
  have p1 := (g_tab (R / 256 % 256) (by omega)).2.2.2.2.2.2
  have p2 := (g_tab (R / 65536 % 256) (by omega)).2.2.2.2.2.2
  have p3 := (g_tab (R / 16777216 % 256) (by omega)).2.2.2.2.2.2
  unfold fJ13_bitCount_95d88 pcR
  generalize pc8 (R % 256) = a0 at *
  generalize pc8 (R / 256 % 256) = a1 at *
  generalize pc8 (R / 65536 % 256) = a2 at *
  generalize pc8 (R / 16777216 % 256) = a3 at *
  simp only [bnd]
  have s1 : lN R - (jushr (lN R) 1 &&& 6148914691236517205) = lN (f1 R 6148914691236517205) := by
    rw [ju (s := 1) (n := R) (k := 1) rfl (by decide) (by omega), show (6148914691236517205 : Int64) = lN 6148914691236517205 from rfl, wb_and (a := R / 2 ^ 1) (by omega) (by decide), lN_sub (and_le R _)]
    rfl
  have b1 : f1 R 6148914691236517205 ≤ R := Nat.sub_le _ _
  have s2 : (lN (f1 R 6148914691236517205) &&& 3689348814741910323) + (jushr (lN (f1 R 6148914691236517205)) 2 &&& 3689348814741910323) = lN (f2 (f1 R 6148914691236517205) 3689348814741910323) := by
    rw [ju (s := 2) (n := f1 R 6148914691236517205) (k := 2) rfl (by decide) (by omega), show (3689348814741910323 : Int64) = lN 3689348814741910323 from rfl, wb_and (a := f1 R 6148914691236517205) (by omega) (by decide), wb_and (a := f1 R 6148914691236517205 / 2 ^ 2) (by omega) (by decide), lN_add]
    rfl
  have b2 : f2 (f1 R 6148914691236517205) 3689348814741910323 ≤ R + R := by
    unfold f2
    have k1 : (f1 R 6148914691236517205 &&& 3689348814741910323) ≤ f1 R 6148914691236517205 := Nat.and_le_left
    have k2 : (f1 R 6148914691236517205 / 4 &&& 3689348814741910323) ≤ f1 R 6148914691236517205 / 4 := Nat.and_le_left
    omega
  rw [s1, s2]
  generalize f2 (f1 R 6148914691236517205) 3689348814741910323 = y at *
  have s3 : (lN y + jushr (lN y) 4) &&& 1085102592571150095 = lN (f3 y 1085102592571150095) := by
    rw [ju (s := 4) (n := y) (k := 4) rfl (by decide) (by omega), lN_add, show (1085102592571150095 : Int64) = lN 1085102592571150095 from rfl, wb_and (a := y + y / 2 ^ 4) (by omega) (by decide)]
    rfl
  obtain ⟨x, hx⟩ : ∃ x, x = a0 + 256 * (a1 + 256 * (a2 + 256 * a3)) := ⟨_, rfl⟩
  rw [s3, hs, ← hx]
  rw [ju (s := 8) (n := x) (k := 8) rfl (by decide) (by omega), lN_add]
  obtain ⟨x4, hx4⟩ : ∃ x4, x4 = x + x / 2 ^ 8 := ⟨_, rfl⟩
  rw [← hx4, ju (s := 16) (n := x4) (k := 16) rfl (by decide) (by omega), lN_add]
  obtain ⟨x5, hx5⟩ : ∃ x5, x5 = x4 + x4 / 2 ^ 16 := ⟨_, rfl⟩
  rw [← hx5, ju (s := 32) (n := x5) (k := 32) rfl (by decide) (by omega), lN_add, lN_i]
  have e127 : (127 : Int32).toBitVec.toNat = 2 ^ 7 - 1 := by decide
  rw [pk_andN (n := x5 + x5 / 2 ^ 32) (by omega) 7 e127]
  have v1 : x / 2 ^ 8 = a1 + 256 * (a2 + 256 * a3) := by omega
  have v2 : x4 / 2 ^ 16 = (a2 + a3) + 256 * a3 := by omega
  have v3 : x5 = (a0 + a1 + a2 + a3) + 128 * (2 * (a1 + a2 + a3) + 512 * (a2 + a3) + 131072 * a3) := by omega
  have v4 : x5 / 2 ^ 32 = 0 := by omega
  rw [v4, Nat.add_zero, v3, Nat.add_mul_mod_self_left]
  congr 2
  exact Nat.mod_eq_of_lt (by omega)
end
