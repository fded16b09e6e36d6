section
/-! field: both sides take the same pairs, and lay the same rows -/
def BADF (N : Nat) (q0 q1 : Int32) : Prop := ∀ (zp zr zh : Int64) (zip : Nat → Bool) (vu vv : Nat → Int64), fX4_field N zp zr zh zip vu vv q0 q1 = some ((-2), zp, zr, zh, zip, vu, vv)
theorem g_fit {N : Nat} (hN : 100000 ≤ N) (q0 q1 : Int32) : (fX3_fitTogether N q0 q1 = some false ∧ BADF N q0 q1) ∨ (∃ P R : Nat, P < 2 ^ 31 ∧ P3 P ∧ 3 ≤ R ∧ R < 2 ^ 31 ∧ q0.toInt64 = lN P ∧ q1.toInt64 = lN R ∧ fX3_fitTogether N q0 q1 = some true ∧ ∀ (zp zr zh : Int64) (zip : Nat → Bool) (vu vv : Nat → Int64), fX4_field N zp zr zh zip vu vv q0 q1 = fX4_field_89 N N 0 (lN P) (lN R) (lN ((P + 1) / R)) zip vu vv) := by
  by_cases c0 : q0 < 11
  · exact .inl ⟨by unfold fX3_fitTogether; rw [if_pos c0], fun _ _ _ _ _ _ => by unfold fX4_field; rw [if_pos c0]⟩
  have e11 : (11 : Int32).toInt = 11 := by decide
  have e0 : (0 : Int32).toInt = 0 := by decide
  have e2 : (2 : Int32).toInt = 2 := by decide
  have e3 : (3 : Int32).toInt = 3 := by decide
  have c0' := c0
  rw [Int32.lt_iff_toInt_lt] at c0'
  obtain ⟨P, hP, rfl⟩ := nI_of (x := q0) (by rw [Int32.lt_iff_toInt_lt]; omega)
  have eP : (nI P).toInt = P := nI_toInt hP
  have p11 : 11 ≤ P := by omega
  have jr : jirem (nI P) 4 = nI (P % 4) := pk_rem (d := 4) hP (by decide) (by decide)
  by_cases c1 : P % 4 = 3
  case neg =>
    have n1 : ¬ jirem (nI P) 4 = 3 := by
      rw [jr]
      intro z
      have z2 := congrArg Int32.toInt z
      rw [nI_toInt (by omega)] at z2
      omega
    exact .inl ⟨by unfold fX3_fitTogether; rw [if_neg c0, if_neg n1], fun _ _ _ _ _ _ => by unfold fX4_field; rw [if_neg c0, if_neg n1]⟩
  have y1 : jirem (nI P) 4 = 3 := by rw [jr, c1]; rfl
  obtain ⟨b1, mb1, pb1⟩ := m_prime hN (n := P) (by omega) hP
  obtain ⟨d1, cb1, qd1⟩ := c_prime hN (n := P) (by omega) hP
  obtain rfl : d1 = b1 := Bool.eq_iff_iff.mpr (qd1.trans pb1.symm)
  have ei : (nI P).toInt64 = lN P := nI_l hP
  by_cases c2 : 2 < q1
  case neg =>
    have n3 : q1 < 3 := by
      rw [Int32.lt_iff_toInt_lt] at c2 ⊢
      omega
    refine .inl ⟨by unfold fX3_fitTogether; rw [if_neg c0, if_pos y1, if_neg c2], fun _ _ _ _ _ _ => ?_⟩
    unfold fX4_field
    rw [if_neg c0, if_pos y1, ei, mb1, ob]
    by_cases z : bI d1 = 0
    · rw [if_pos z]
    · rw [if_neg z, if_pos n3]
  have c2' := c2
  rw [Int32.lt_iff_toInt_lt] at c2'
  have n3 : ¬ q1 < 3 := by
    rw [Int32.lt_iff_toInt_lt]
    omega
  obtain ⟨R, hR, rfl⟩ := nI_of (x := q1) (by rw [Int32.lt_iff_toInt_lt]; omega)
  have eR : (nI R).toInt = R := nI_toInt hR
  have r3 : 3 ≤ R := by omega
  obtain ⟨b2, mb2, pb2⟩ := m_prime hN (n := R) (by omega) hR
  obtain ⟨d2, cb2, qd2⟩ := c_prime hN (n := R) (by omega) hR
  obtain rfl : d2 = b2 := Bool.eq_iff_iff.mpr (qd2.trans pb2.symm)
  have ej : (nI R).toInt64 = lN R := nI_l hR
  have r0 : ¬ lN R = 0 := lN_ne0 (by omega) (by omega)
  have a1 : lN P + 1 = lN (P + 1) := lN_1 P
  have rm1 : jrem (lN (P + 1)) (lN R) = lN ((P + 1) % R) := remN (by omega) (by omega) (by omega)
  have dv : lN (P + 1) / lN R = lN ((P + 1) / R) := pk_lDiv (by omega) (by omega) (by omega)
  have dl : (P + 1) / R ≤ P + 1 := Nat.div_le_self _ _
  have rm2 : jrem (lN ((P + 1) / R)) (lN R) = lN ((P + 1) / R % R) := remN (by omega) (by omega) (by omega)
  have f1 : fX3_fitTogether N (nI P) (nI R) = if lN ((P + 1) % R) = 0 then (if lN ((P + 1) / R % R) = 0 then some false else if bI d1 = 0 then some false else if bI d2 = 0 then some false else some true) else some false := by
    unfold fX3_fitTogether
    rw [if_neg c0, if_pos y1, if_pos c2]
    simp only [bnd]
    rw [ei, ej, a1, if_neg r0, rm1, dv, rm2, cb1, cb2, ob, ob]
  have f2 : ∀ (zp zr zh : Int64) (zip : Nat → Bool) (vu vv : Nat → Int64), fX4_field N zp zr zh zip vu vv (nI P) (nI R) = if bI d1 = 0 then some ((-2), zp, zr, zh, zip, vu, vv) else if bI d2 = 0 then some ((-2), zp, zr, zh, zip, vu, vv) else if lN ((P + 1) % R) = 0 then (if lN ((P + 1) / R % R) = 0 then some ((-2), zp, zr, zh, zip, vu, vv) else fX4_field_89 N N 0 (lN P) (lN R) (lN ((P + 1) / R)) zip vu vv) else some ((-2), zp, zr, zh, zip, vu, vv) := by
    intro zp zr zh zip vu vv
    unfold fX4_field
    rw [if_neg c0, if_pos y1, ei, mb1, ob, if_neg n3, ej, mb2, ob]
    simp only [bnd]
    rw [a1, if_neg r0, rm1, dv, rm2]
  by_cases z1 : lN ((P + 1) % R) = 0
  case neg =>
    refine .inl ⟨by rw [f1, if_neg z1], fun _ _ _ _ _ _ => ?_⟩
    rw [f2, if_neg z1]
    by_cases w1 : bI d1 = 0
    · rw [if_pos w1]
    · rw [if_neg w1]
      by_cases w2 : bI d2 = 0
      · rw [if_pos w2]
      · rw [if_neg w2]
  rw [if_pos z1] at f1
  by_cases z2 : lN ((P + 1) / R % R) = 0
  case pos =>
    refine .inl ⟨by rw [f1, if_pos z2], fun _ _ _ _ _ _ => ?_⟩
    rw [f2, if_pos z1, if_pos z2]
    by_cases w1 : bI d1 = 0
    · rw [if_pos w1]
    · rw [if_neg w1]
      by_cases w2 : bI d2 = 0
      · rw [if_pos w2]
      · rw [if_neg w2]
  rw [if_neg z2] at f1
  by_cases w1 : bI d1 = 0
  case pos => exact .inl ⟨by rw [f1, if_pos w1], fun _ _ _ _ _ _ => by rw [f2, if_pos w1]⟩
  rw [if_neg w1] at f1
  by_cases w2 : bI d2 = 0
  case pos => exact .inl ⟨by rw [f1, if_pos w2], fun _ _ _ _ _ _ => by rw [f2, if_neg w1, if_pos w2]⟩
  rw [if_neg w2] at f1
  have dt : d1 = true := by
    cases d1
    · exact absurd bf0 w1
    · rfl
  exact .inr ⟨P, R, hP, ⟨pb1.mp dt, c1⟩, r3, hR, ei, ej, f1, fun _ _ _ _ _ _ => by rw [f2, if_neg w1, if_neg w2, if_pos z1, if_neg z2]⟩
theorem g_init {P : Nat} [NeZero P] (h : P3 P) (hP : P < 2 ^ 31) {N : Nat} (hN : 100000 ≤ N) {R : Nat} (h0 : 3 ≤ R) (hR : R < 2 ^ 31) : fX0_init N (lN P) (lN R) = some (lN ((P + 1) / R), ept (tT h ((P + 1) / R) 1).1, nI (tT h ((P + 1) / R) 1).2) := by
  have dl : (P + 1) / R ≤ P + 1 := Nat.div_le_self _ _
  unfold fX0_init
  rw [if_neg (lN_ne0 (a := R) (by omega) (by omega)), lN_1, pk_lDiv (by omega) (by omega) (by omega)]
  simp only [bnd]
  have k := c_turned h hP hN (H := (P + 1) / R) (by omega) (K := 1) (by decide) 0
  rw [← l1] at k
  rw [k]
  rfl
theorem SR_new {P : Nat} [NeZero P] {zS zpx zpy : Nat → Int64} {zip : Nat → Bool} (h1 : ∀ k, k < 16 → zS k = -1) (h2 : ∀ k, k < 16 → zip k = false) : SR P zS zpx zpy zip := fun k hk => ⟨none, trivial, h1 k hk, h2 k hk⟩
theorem VR_new {P : Nat} [NeZero P] (h : P3 P) (hP : P < 2 ^ 31) {zV zvu zvv : Nat → Int64} (h1 : ∀ k, k < 8 → zV k = 2147483648) (h2 : ∀ k, k < 8 → zvu k = 1 ∧ zvv k = 0) : VR P zV zvu zvv := fun k hk => ⟨w1, (h1 k hk).trans (w1_e h), (h2 k hk).1.trans (l1P h), (h2 k hk).2.trans ((lv_0 hP).mpr rfl).symm⟩
/-- with a field of P and R: the rows of both sides anew -/
theorem g_newrows {P : Nat} [NeZero P] (h : P3 P) (hP : P < 2 ^ 31) {N : Nat} (hN : 100000 ≤ N) (R hh : Nat) (zS zV zpx zpy vu vv : Nat → Int64) (zip : Nat → Bool) : ∃ oS oV oi ou ov, fX3_clearRows N zS zV = some (oS, oV) ∧ fX4_field_89 N N 0 (lN P) (lN R) (lN hh) zip vu vv = some ((lN hh).toInt32, lN P, lN R, lN hh, oi, ou, ov) ∧ SR P oS zpx zpy oi ∧ VR P oV ou ov := by
  obtain ⟨oS, oV, c1, c2, c3⟩ := c_clear hN zS zV
  obtain ⟨oi, ou, ov, m1, m2, m3⟩ := f2_loop hN (lN P) (lN R) (lN hh) vu vv 16 N 0 zip (by omega) (by omega) (fun k q => by omega)
  rw [nI_0] at m1
  exact ⟨oS, oV, oi, ou, ov, c1, m1, SR_new c2 m2, VR_new h hP c3 m3⟩
theorem g_told0 (q : Int32) : ∃ r, fX3_told_null q = some r ∧ fX4_told 0 0 0 q = some r := by
  unfold fX3_told_null fX4_told
  rw [in_d, ob]
  have e0 : (0 : Int64).toInt = 0 := by decide
  have e1 : (2 : Int64).toInt = 2 := by decide
  have e2 : (0 : Int32).toInt = 0 := by decide
  have e3 : (2 : Int32).toInt = 2 := by decide
  by_cases h0 : q < 0
  · rw [if_pos h0]
    rw [Int32.lt_iff_toInt_lt] at h0
    exact ⟨_, rfl, by rw [decide_eq_false (by omega)]; rfl⟩
  · rw [if_neg h0]
    by_cases h1 : q ≤ 2
    · rw [if_pos h1]
      rw [Int32.lt_iff_toInt_lt] at h0
      rw [Int32.le_iff_toInt_le] at h1
      exact ⟨_, rfl, by rw [decide_eq_true (by omega), if_neg bt0, if_pos rfl]⟩
    · rw [if_neg h1]
      rw [Int32.le_iff_toInt_le] at h1
      exact ⟨_, rfl, by rw [decide_eq_false (by omega)]; rfl⟩
end
