section
/-- texts turned into points: what is left to try, how many are tried, x -/
noncomputable def tn {P : Nat} [NeZero P] (h : P3 P) (H : Nat) : Nat → Nat → Fin P → Option (Fin P × Fin P) × Nat
  | 0, _, _ => (none, 1000)
  | n + 1, i, x => match er (x * x * x + x) with
    | none => tn h H n (i + 1) (x + 1)
    | some y => if y = 0 then tn h H n (i + 1) (x + 1) else if em h.1 H (some (x, y)) = none then tn h H n (i + 1) (x + 1) else (em h.1 H (some (x, y)), i)
theorem tn_on {P : Nat} [NeZero P] (h : P3 P) (H : Nat) : ∀ (n i : Nat) (x : Fin P), eon (tn h H n i x).1
  | 0, _, _ => trivial
  | n + 1, i, x => by
    rw [tn]
    cases hq : er (x * x * x + x) with
    | none => exact tn_on h H n (i + 1) (x + 1)
    | some y =>
      show eon (if y = 0 then tn h H n (i + 1) (x + 1) else if em h.1 H (some (x, y)) = none then tn h H n (i + 1) (x + 1) else (em h.1 H (some (x, y)), i)).1
      by_cases q1 : y = 0
      · rw [if_pos q1]; exact tn_on h H n (i + 1) (x + 1)
      · rw [if_neg q1]
        by_cases q2 : em h.1 H (some (x, y)) = none
        · rw [if_pos q2]; exact tn_on h H n (i + 1) (x + 1)
        · rw [if_neg q2]; exact em_on h (show eon (some (x, y)) from (er_even h hq).1) H
theorem ept_m1 {P : Nat} (hP : P < 2 ^ 31) (a : Option (Fin P × Fin P)) : ept a = (-1) ↔ a = none := by
  constructor
  · intro q; exact ept_inj hP q
  · intro q; rw [q]; rfl
theorem c_next {P : Nat} [NeZero P] (h : P3 P) (hP : P < 2 ^ 31) (x : Fin P) : jrem (lv x + 1) (lN P) = lv (x + 1) := by rw [l1P h, c_addmod hP]
theorem lv_le0 {P : Nat} [NeZero P] (hP : P < 2 ^ 31) (y : Fin P) : lv y ≤ 0 ↔ y = 0 := by
  have hy := y.isLt
  show lN y.val ≤ 0 ↔ _
  rw [le0N (by omega)]
  constructor
  · intro q; exact Fin.ext (by rw [q]; simp)
  · intro q; rw [q]; simp
theorem lv_n0 {P : Nat} (hP : P < 2 ^ 31) (y : Fin P) : ¬ lv y < 0 := by
  have hy := y.isLt
  show ¬ lN y.val < 0
  rw [l0, pk_lLT (by omega) (by decide)]
  omega
theorem tn_c {P : Nat} [NeZero P] (h : P3 P) (hP : P < 2 ^ 31) {N : Nat} (hN : 100000 ≤ N) {H : Nat} (hH : H < 2 ^ 63) : ∀ (r i n : Nat) (x : Fin P) (zt : Int32), i + r = 1001 → r < n → (r = 0 → zt = nI 1000) → fX0_turned_9 N (lN P) (lN H) n (lv x) (nI i) zt = some (ept (tn h H r i x).1, nI (tn h H r i x).2)
  | 0, i, n, x, zt, h1, h2, h3 => by
    obtain ⟨m, rfl⟩ : ∃ m, n = m + 1 := ⟨n - 1, by omega⟩
    obtain rfl : i = 1001 := by omega
    rw [fX0_turned_9, if_pos (by decide), h3 rfl]
    rfl
  | r + 1, i, n, x, zt, h1, h2, h3 => by
    obtain ⟨m, rfl⟩ : ∃ m, n = m + 1 := ⟨n - 1, by omega⟩
    have hi : ¬ (1000 : Int32) < nI i := by
      rw [show (1000 : Int32) = nI 1000 from rfl, nI_ltI (by decide) (by omega)]; omega
    have ih := tn_c h hP hN hH r (i + 1) m (x + 1) (nI i) (by omega) (by omega) (fun q => by subst q; congr 1; omega)
    rw [fX0_turned_9, if_neg hi, c_cub hP, ob, c_root h hP hN, ob, tn]
    cases hq : er (x * x * x + x) with
    | none =>
      rw [show erI (none : Option (Fin P)) = (-1) from rfl, if_pos (by decide), if_neg (lP0 hP)]
      simp only [bnd]
      rw [c_next h hP, nI_1]
      exact ih
    | some y =>
      show (if lv y ≤ 0 then _ else _) = some (ept (if y = 0 then tn h H r (i + 1) (x + 1) else if em h.1 H (some (x, y)) = none then tn h H r (i + 1) (x + 1) else (em h.1 H (some (x, y)), i)).1, nI (if y = 0 then tn h H r (i + 1) (x + 1) else if em h.1 H (some (x, y)) = none then tn h H r (i + 1) (x + 1) else (em h.1 H (some (x, y)), i)).2)
      by_cases q1 : y = 0
      · rw [if_pos ((lv_le0 hP y).mpr q1), if_pos q1, if_neg (lP0 hP)]
        simp only [bnd]
        rw [c_next h hP, nI_1]
        exact ih
      · rw [if_neg (fun z => q1 ((lv_le0 hP y).mp z)), if_neg q1, show erI (some y) = lv y from rfl, ept_jn hP, ob, c_multN h hP hN hH (show eon (some (x, y)) from (er_even h hq).1), ob]
        by_cases q2 : em h.1 H (some (x, y)) = none
        · rw [if_pos ((ept_m1 hP _).mpr q2), if_pos q2, if_neg (lP0 hP)]
          simp only [bnd]
          rw [c_next h hP, nI_1]
          exact ih
        · rw [if_neg (fun z => q2 ((ept_m1 hP _).mp z)), if_neg q2]
theorem MR_bI {P : Nat} {a : Option (Fin P × Fin P)} {zx zy : Int64} {zi : Bool} (h : MR a zx zy zi) : bI zi = 0 ↔ a = none := by
  match a, h with
  | none, h =>
    have h : zi = false := h
    subst h
    exact ⟨fun _ => rfl, fun _ => rfl⟩
  | some (x, y), h =>
    obtain ⟨rfl, -, -⟩ := h
    exact ⟨fun q => absurd q (by decide), fun q => by cases q⟩
theorem tn_m {P : Nat} [NeZero P] (h : P3 P) (hP : P < 2 ^ 31) {N : Nat} (hN : 100000 ≤ N) {H : Nat} (hH : H < 2 ^ 63) : ∀ (r i n : Nat) (x : Fin P) (zx zy : Int64) (zi : Bool), i + r = 1001 → r < n → ∃ ox oy oi, fX4_turnOf_25 N (lN P) (lN H) n (lv x) (nI i) zx zy zi = some (nI (tn h H r i x).2, ox, oy, oi) ∧ MR (tn h H r i x).1 ox oy oi
  | 0, i, n, x, zx, zy, zi, h1, h2 => by
    obtain ⟨m, rfl⟩ : ∃ m, n = m + 1 := ⟨n - 1, by omega⟩
    obtain rfl : i = 1001 := by omega
    rw [fX4_turnOf_25, if_pos (by decide)]
    exact ⟨zx, zy, false, rfl, rfl⟩
  | r + 1, i, n, x, zx, zy, zi, h1, h2 => by
    obtain ⟨m, rfl⟩ : ∃ m, n = m + 1 := ⟨n - 1, by omega⟩
    have hi : ¬ (1000 : Int32) < nI i := by
      rw [show (1000 : Int32) = nI 1000 from rfl, nI_ltI (by decide) (by omega)]; omega
    have ih := fun a b c => tn_m h hP hN hH r (i + 1) m (x + 1) a b c (by omega) (by omega)
    rw [fX4_turnOf_25, if_neg hi, m_curve hP, ob, tn]
    by_cases qc : x * x * x + x = 0
    · rw [if_pos ((lv_0 hP).mpr qc), if_neg (lP0 hP)]
      simp only [bnd]
      rw [c_next h hP, nI_1]
      cases hq : er (x * x * x + x) with
      | none => exact ih zx zy zi
      | some y =>
        have hy : y = 0 := by
          have := (er_even h hq).1
          rw [qc] at this
          rcases f_mz h.1 this with k | k <;> exact k
        show ∃ ox oy oi, _ = some (nI (if y = 0 then tn h H r (i + 1) (x + 1) else if em h.1 H (some (x, y)) = none then tn h H r (i + 1) (x + 1) else (em h.1 H (some (x, y)), i)).2, ox, oy, oi) ∧ MR (if y = 0 then tn h H r (i + 1) (x + 1) else if em h.1 H (some (x, y)) = none then tn h H r (i + 1) (x + 1) else (em h.1 H (some (x, y)), i)).1 ox oy oi
        rw [if_pos hy]
        exact ih zx zy zi
    · rw [if_neg (fun z => qc ((lv_0 hP).mp z)), m_root h hP hN, ob]
      cases hq : er (x * x * x + x) with
      | none =>
        rw [show erI (none : Option (Fin P)) = (-1) from rfl, if_pos (by decide), if_neg (lP0 hP)]
        simp only [bnd]
        rw [c_next h hP, nI_1]
        exact ih zx zy zi
      | some y =>
        have hy : ¬ y = 0 := by
          intro q
          have := (er_even h hq).1
          rw [q] at this
          exact qc (by rw [← this]; grind)
        have hon : eon (some (x, y)) := (er_even h hq).1
        show ∃ ox oy oi, (if lv y < 0 then _ else _) = some (nI (if y = 0 then tn h H r (i + 1) (x + 1) else if em h.1 H (some (x, y)) = none then tn h H r (i + 1) (x + 1) else (em h.1 H (some (x, y)), i)).2, ox, oy, oi) ∧ MR (if y = 0 then tn h H r (i + 1) (x + 1) else if em h.1 H (some (x, y)) = none then tn h H r (i + 1) (x + 1) else (em h.1 H (some (x, y)), i)).1 ox oy oi
        rw [if_neg (lv_n0 hP y), if_neg hy]
        obtain ⟨o1, o2, o3, e1, m1⟩ := m_take h hP hN (K := H) (by omega) hon (lx := lv x) (ly := lv y) (li := true) ⟨rfl, rfl, rfl⟩
        rw [show erI (some y) = lv y from rfl, e1, ob]
        by_cases q2 : em h.1 H (some (x, y)) = none
        · show ∃ ox oy oi, (if bI o3 = 0 then _ else _) = _ ∧ _
          rw [if_pos ((MR_bI m1).mpr q2), if_pos q2, if_neg (lP0 hP)]
          simp only [bnd]
          rw [c_next h hP, nI_1]
          exact ih o1 o2 o3
        · show ∃ ox oy oi, (if bI o3 = 0 then _ else _) = _ ∧ _
          rw [if_neg (fun z => q2 ((MR_bI m1).mp z)), if_neg q2]
          exact ⟨o1, o2, o3, rfl, m1⟩
def tx0 {P : Nat} [NeZero P] (K : Nat) : Fin P := Fin.ofNat P (K / 2 % P * 2 + K % 2)
theorem first_eq {P : Nat} [NeZero P] (hP : P < 2 ^ 31) {K : Nat} (hK : K < 2 ^ 64) : jrem (((jrem (jushr (lN K) 1) (lN P)) * 2) + (lN K &&& 1)) (lN P) = lv (tx0 K : Fin P) := by
  have h0 : 0 < P := Nat.pos_of_ne_zero (NeZero.ne P)
  have e1 : jushr (lN K) 1 = lN (K / 2) := by
    have : jushr (lN K) (nI 1) = lN (K / 2 ^ 1) := wb_shr hK (by decide)
    exact this
  have h1 : K / 2 % P < P := Nat.mod_lt _ h0
  rw [e1, wb_a1 hK, remN (by omega) h0 (by omega), l2, lN_mul, lN_add, remN (by omega) h0 (by omega)]
  rfl
noncomputable def tT {P : Nat} [NeZero P] (h : P3 P) (H K : Nat) : Option (Fin P × Fin P) × Nat := tn h H 1000 1 (tx0 K)
theorem c_turned {P : Nat} [NeZero P] (h : P3 P) (hP : P < 2 ^ 31) {N : Nat} (hN : 100000 ≤ N) {H : Nat} (hH : H < 2 ^ 63) {K : Nat} (hK : K < 2 ^ 64) (zt : Int32) : fX0_turned N (lN P) (lN H) zt (lN K) = some (ept (tT h H K).1, nI (tT h H K).2) := by
  unfold fX0_turned fX0_firstTried
  rw [if_neg (lP0 hP), first_eq hP hK, ob]
  exact tn_c h hP hN hH 1000 1 N (tx0 K) zt (by omega) (by omega) (fun q => by omega)
theorem m_turnOf {P : Nat} [NeZero P] (h : P3 P) (hP : P < 2 ^ 31) {N : Nat} (hN : 100000 ≤ N) {H : Nat} (hH : H < 2 ^ 63) {K : Nat} (hK : K < 2 ^ 64) (zx zy : Int64) (zi : Bool) : ∃ ox oy oi, fX4_turnOf N (lN P) (lN H) zx zy zi (lN K) = some (nI (tT h H K).2, ox, oy, oi) ∧ MR (tT h H K).1 ox oy oi := by
  unfold fX4_turnOf
  rw [if_neg (lP0 hP), first_eq hP hK]
  simp only [bnd]
  exact tn_m h hP hN hH 1000 1 N (tx0 K) zx zy zi (by omega) (by omega)
end
