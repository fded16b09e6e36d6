section
def pcb (R : Nat) : Nat → Nat
  | 0 => 0
  | b + 1 => R / 2 ^ b % 2 + pcb R b
theorem lc_pcb (R : Nat) : ∀ b, lc R b = b + pcb R b
  | 0 => rfl
  | b + 1 => by rw [lc, pcb, lc_pcb R b]; omega
theorem pcb_top {R hb : Nat} (h1 : 2 ^ hb ≤ R) (h2 : R < 2 ^ (hb + 1)) : ∀ d, pcb R (hb + 1 + d) = pcb R hb + 1
  | 0 => by
    have k1 : R / 2 ^ hb = 1 := by
      refine Nat.div_eq_of_lt_le (by omega) ?_
      rw [Nat.pow_succ] at h2; omega
    rw [Nat.add_zero, pcb, k1]; omega
  | d + 1 => by
    have q : R / 2 ^ (hb + 1 + d) = 0 := Nat.div_eq_of_lt (Nat.lt_of_lt_of_le h2 (Nat.pow_le_pow_right (by decide) (by omega)))
    rw [show hb + 1 + (d + 1) = (hb + 1 + d) + 1 by omega, pcb, pcb_top h1 h2 d, q]; omega
theorem pc8m (x : Nat) : pc8 (x % 256) = x % 2 + x / 2 % 2 + x / 4 % 2 + x / 8 % 2 + x / 16 % 2 + x / 32 % 2 + x / 64 % 2 + x / 128 % 2 := by
  unfold pc8
  have e1 : x % 256 % 2 = x % 2 := by omega
  have e2 : x % 256 / 2 % 2 = x / 2 % 2 := by omega
  have e3 : x % 256 / 4 % 2 = x / 4 % 2 := by omega
  have e4 : x % 256 / 8 % 2 = x / 8 % 2 := by omega
  have e5 : x % 256 / 16 % 2 = x / 16 % 2 := by omega
  have e6 : x % 256 / 32 % 2 = x / 32 % 2 := by omega
  have e7 : x % 256 / 64 % 2 = x / 64 % 2 := by omega
  have e8 : x % 256 / 128 % 2 = x / 128 % 2 := by omega
  rw [e1, e2, e3, e4, e5, e6, e7, e8]
theorem pcb_32 (R : Nat) : pcb R 32 = pcR R := by
  unfold pcR
  rw [pc8m, pc8m, pc8m, pc8m]
  simp only [pcb, Nat.div_div_eq_div_mul]
  simp only [Nat.reducePow, Nat.reduceMul, Nat.div_one, Nat.add_zero]
  ac_rfl
/-- how many lines -/
theorem lcn_eq {R hb : Nat} (h1 : 2 ^ hb ≤ R) (h2 : R < 2 ^ (hb + 1)) (h3 : hb ≤ 31) : hb + pcR R = lc R hb + 1 := by
  have k := pcb_top h1 h2 (31 - hb)
  rw [show hb + 1 + (31 - hb) = 32 by omega, pcb_32] at k
  rw [lc_pcb, k]; omega
noncomputable def ee {P : Nat} [NeZero P] (h : P3 P) (R hb : Nat) (a b : Option (Fin P × Fin P)) : Fin P × Fin P :=
  match a, b with
  | some (ax, ay), some (qx, qy) => wp ((P * P - 1) / R) (ml h R (some (ax, ay)) qx qy hb w1 (some (ax, ay)))
  | _, _ => w1
def el {P : Nat} (R hb : Nat) (a b : Option (Fin P × Fin P)) : Nat :=
  match a, b with
  | some _, some _ => lc R hb
  | _, _ => 0
/-- what is known of r -/
def RB (R hb : Nat) : Prop := 3 ≤ R ∧ R < 2 ^ 31 ∧ hb ≤ 31 ∧ 2 ^ hb ≤ R ∧ R < 2 ^ (hb + 1) ∧ fX1_bitsBehindHighest (lN R) = some (nI hb)
theorem RB_of {R : Nat} (h0 : 3 ≤ R) (hR : R < 2 ^ 31) : ∃ hb, RB R hb := by
  obtain ⟨hb, k1, k2, k3, k4⟩ := c_nlz (R := R) (by omega) hR
  exact ⟨hb, h0, hR, k1, k2, k3, k4⟩
theorem c_of {P : Nat} [NeZero P] (h : P3 P) (hP : P < 2 ^ 31) {N : Nat} (hN : 100000 ≤ N) {R hb : Nat} (hr : RB R hb) (a b : Option (Fin P × Fin P)) : fX1_of N (lN P) (lN R) (ept a) (ept b) = some (ewd (ee h R hb a b)) := by
  obtain ⟨r1, r2, r3, r4, r5, r6⟩ := hr
  unfold fX1_of
  match a, b with
  | none, b =>
    rw [if_pos (show ept (none : Option (Fin P × Fin P)) = (-1) from rfl), w1_e h]; rfl
  | some (x1, y1), none =>
    rw [if_neg (ept_n1 hP x1 y1), if_pos (show ept (none : Option (Fin P × Fin P)) = (-1) from rfl), w1_e h]; rfl
  | some (x1, y1), some (x2, y2) =>
    rw [if_neg (ept_n1 hP x1 y1), if_neg (ept_n1 hP x2 y2), r6, ob]
    simp only [bnd]
    have e : nI hb - 1 = nI hb + (-1) := by generalize nI hb = x; grind
    rw [e, w1_e h]
    exact of_loop h hP hN (by omega) r2 (some (x1, y1)) x2 y2 hb N w1 (some (x1, y1)) (by omega) (by omega)
theorem c_lines {P : Nat} [NeZero P] (hP : P < 2 ^ 31) {R hb : Nat} (hr : RB R hb) (a b : Option (Fin P × Fin P)) : fX1_linesOf (lN R) (ept a) (ept b) = some (nI (el R hb a b)) := by
  obtain ⟨r1, r2, r3, r4, r5, r6⟩ := hr
  unfold fX1_linesOf
  match a, b with
  | none, b =>
    rw [if_pos (show ept (none : Option (Fin P × Fin P)) = (-1) from rfl)]; rfl
  | some (x1, y1), none =>
    rw [if_neg (ept_n1 hP x1 y1), if_pos (show ept (none : Option (Fin P × Fin P)) = (-1) from rfl)]; rfl
  | some (x1, y1), some (x2, y2) =>
    rw [if_neg (ept_n1 hP x1 y1), if_neg (ept_n1 hP x2 y2), r6, ob, c_pop r2, ob, nI_add, lcn_eq r4 r5 r3, nI_pred]
    rfl
theorem m_pairOf {P : Nat} [NeZero P] (h : P3 P) (hP : P < 2 ^ 31) {N : Nat} (hN : 100000 ≤ N) {R hb : Nat} (hr : RB R hb) {a b : Option (Fin P × Fin P)} {q0 q1 q3 q4 : Int64} {q2 q5 : Bool} (ha : MR a q0 q1 q2) (hb' : MR b q3 q4 q5) (zx zy zu zv : Int64) (zi : Bool) (zl : Int32) : ∃ ox oy oi, fX4_pairOf N (lN P) (lN R) zx zy zi zu zv zl q0 q1 q2 q3 q4 q5 = some (ox, oy, oi, lv (ee h R hb a b).1, lv (ee h R hb a b).2, nI (el R hb a b)) := by
  obtain ⟨r1, r2, r3, r4, r5, r6⟩ := hr
  have e0 : (0 : Int64) = lv (0 : Fin P) := ((lv_0 hP).mpr rfl).symm
  unfold fX4_pairOf
  match a, b, ha, hb' with
  | none, b, ha, hb' =>
    rw [if_pos ((MR_bI ha).mpr rfl), l1P h, e0]
    exact ⟨zx, zy, zi, rfl⟩
  | some (x1, y1), none, ha, hb' =>
    rw [if_neg (fun z => by cases (MR_bI ha).mp z), if_pos ((MR_bI hb').mpr rfl), l1P h, e0]
    exact ⟨zx, zy, zi, rfl⟩
  | some (x1, y1), some (x2, y2), ha, hb' =>
    rw [if_neg (fun z => by cases (MR_bI ha).mp z), if_neg (fun z => by cases (MR_bI hb').mp z)]
    obtain ⟨-, rfl, rfl⟩ := ha
    obtain ⟨-, rfl, rfl⟩ := hb'
    have k := seek_loop h hP hN r2 r4 r5 x1 y1 x2 y2 (62 - hb) N (by omega) (by omega)
    rw [show hb + (62 - hb) = 62 by omega] at k
    exact k
theorem c_takes {P : Nat} [NeZero P] (h : P3 P) (hP : P < 2 ^ 31) {N : Nat} (hN : 100000 ≤ N) {R : Nat} (hR : R < 2 ^ 31) {a : Option (Fin P × Fin P)} (ha : eon a) : fX1_takes N (lN P) (lN R) (ept a) = some (decide (em h.1 R a = none)) := by
  unfold fX1_takes
  rw [c_multN h hP hN (by omega) ha, ob]
  by_cases q : em h.1 R a = none
  · rw [if_pos ((ept_m1 hP _).mpr q), decide_eq_true q]
  · rw [if_neg (fun z => q ((ept_m1 hP _).mp z)), decide_eq_false q]
end
