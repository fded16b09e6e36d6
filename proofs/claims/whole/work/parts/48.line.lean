section
/-- the line's value at the second point's image -/
noncomputable def ln {P : Nat} [NeZero P] (hp : Pr P) (a b : Option (Fin P × Fin P)) (qx qy : Fin P) : Fin P × Fin P :=
  match a, b with
  | some (x1, y1), some (x2, y2) => if x1 = x2 ∧ y1 + y2 = 0 then (-qx - x1, 0) else (-y1 - es hp x1 y1 x2 y2 * (-qx - x1), qy)
  | _, _ => w1
theorem ln_n1 {P : Nat} [NeZero P] (hp : Pr P) (b : Option (Fin P × Fin P)) (qx qy : Fin P) : ln hp none b qx qy = w1 := rfl
theorem ln_n2 {P : Nat} [NeZero P] (hp : Pr P) (a : Option (Fin P × Fin P)) (qx qy : Fin P) : ln hp a none qx qy = w1 := by
  match a with
  | none => rfl
  | some _ => rfl
theorem ln_ss {P : Nat} [NeZero P] (hp : Pr P) (x1 y1 x2 y2 qx qy : Fin P) : ln hp (some (x1, y1)) (some (x2, y2)) qx qy = if x1 = x2 ∧ y1 + y2 = 0 then (-qx - x1, 0) else (-y1 - es hp x1 y1 x2 y2 * (-qx - x1), qy) := rfl
theorem c_neg {P : Nat} [NeZero P] (hP : P < 2 ^ 31) (a : Fin P) : jrem (lN P - lv a) (lN P) = lv (-a) := by
  have ha := a.isLt
  have e : lN P - lv a = lN (P - a.val) := by
    unfold lv
    rw [lN_sub (by omega)]
  rw [e]
  refine rem_R hP ?_ (by omega)
  have k := Rp_neg (Rp_val a)
  unfold Rp at *
  rw [Int.natCast_sub (by omega), show (P : Int) - (a.val : Int) = -(a.val : Int) + (P : Int) by omega, Int.add_emod_right]
  exact k
theorem c_line {P : Nat} [NeZero P] (h : P3 P) (hP : P < 2 ^ 31) {N : Nat} (hN : 100000 ≤ N) (a b : Option (Fin P × Fin P)) (qx qy : Fin P) : fX1_line N (lN P) (ept a) (ept b) (ept (some (qx, qy))) = some (ewd (ln h.1 a b qx qy)) := by
  unfold fX1_line
  match a, b with
  | none, b =>
    rw [if_pos (show ept (none : Option (Fin P × Fin P)) = (-1) from rfl), ln_n1, w1_e h]
  | some (x1, y1), none =>
    rw [if_neg (ept_n1 hP x1 y1), if_pos (show ept (none : Option (Fin P × Fin P)) = (-1) from rfl), ln_n2, w1_e h]
  | some (x1, y1), some (x2, y2) =>
    rw [if_neg (ept_n1 hP x1 y1), if_neg (ept_n1 hP x2 y2), ept_up hP qx qy, ob, if_neg (lP0 hP), ept_up hP x1 y1, ob, c_neg hP, c_sub hP, ob, c_opp hP, ob, ln_ss]
    by_cases q : x1 = x2 ∧ y1 + y2 = 0
    · rw [decide_eq_true q, if_neg (by decide), if_pos q]
      have e0 : (0 : Int64) = lv (0 : Fin P) := ((lv_0 hP).mpr rfl).symm
      rw [e0, ewd_jn hP, ob]
    · rw [decide_eq_false q, if_pos (by decide), if_neg q, c_slope h hP hN, ob, c_mul hP, ob, ept_lo hP x1 y1, ob, c_neg hP, c_sub hP, ob, ept_lo hP qx qy, ob, ewd_jn hP, ob]
theorem m_fitn {P : Nat} [NeZero P] (hP : P < 2 ^ 31) (a b : Fin P) : fX4_fit (lN P) ((-lv a) - lv b) = some (lv (-a - b)) := by
  have b1 := a.isLt
  have b2 := b.isLt
  have e1 : -lv a - lv b = lI (-(a.val : Int) - b.val) := by
    rw [lv_I, lv_I]
    have : -lI (a.val : Int) = lI (-(a.val : Int)) := (Int64.ofInt_neg _).symm
    rw [this, lI_sub]
  rw [e1, fit_R hP (Rp_sub (Rp_neg (Rp_val a)) (Rp_val b)) (by omega) (by omega)]
theorem m_line {P : Nat} [NeZero P] (h : P3 P) (hP : P < 2 ^ 31) {N : Nat} (hN : 100000 ≤ N) {a b : Option (Fin P × Fin P)} {zx zy q0 q1 : Int64} {zi q2 : Bool} (ha : MR a zx zy zi) (hb : MR b q0 q1 q2) (f : Fin P × Fin P) (qx qy : Fin P) (zl : Int32) :
    ∃ ox oy oi, fX4_line N (lN P) zx zy zi (lv f.1) (lv f.2) zl q0 q1 q2 (lv qx) (lv qy) = some (ox, oy, oi, lv (wm f (ln h.1 a b qx qy)).1, lv (wm f (ln h.1 a b qx qy)).2, zl + 1) ∧ MR (eadd h.1 a b) ox oy oi := by
  obtain ⟨ox, oy, oi, hpl, hmr⟩ := m_plus h hP hN ha hb
  refine ⟨ox, oy, oi, ?_, hmr⟩
  unfold fX4_line
  simp only [bnd]
  match a, b, ha, hb with
  | none, b, ha, hb =>
    rw [if_pos ((MR_bI ha).mpr rfl), hpl, ob, ln_n1, w_one]
  | some (x1, y1), none, ha, hb =>
    rw [if_neg (fun z => by cases (MR_bI ha).mp z), if_pos ((MR_bI hb).mpr rfl), hpl, ob, ln_n2, w_one]
  | some (x1, y1), some (x2, y2), ha, hb =>
    rw [if_neg (fun z => by cases (MR_bI ha).mp z), if_neg (fun z => by cases (MR_bI hb).mp z), hpl]
    obtain ⟨-, rfl, rfl⟩ := ha
    obtain ⟨-, rfl, rfl⟩ := hb
    rw [ln_ss]
    have key : es h.1 x1 y1 x2 y2 * (x1 + qx) - y1 = -y1 - es h.1 x1 y1 x2 y2 * (-qx - x1) := by
      generalize es h.1 x1 y1 x2 y2 = s
      grind
    have e0 : (0 : Int64) = lv (0 : Fin P) := ((lv_0 hP).mpr rfl).symm
    by_cases q : x1 = x2
    · rw [if_pos ((lv_eq hP).mpr q), if_neg (lP0 hP), c_addmod hP]
      by_cases q2 : y1 + y2 = 0
      · rw [if_pos ((lv_0 hP).mpr q2), if_pos ⟨q, q2⟩, m_fitn hP, ob]
        have k := m_wm hP f (-qx - x1, 0)
        rw [← e0] at k
        rw [k, ob, ob]
      · rw [if_neg (fun z => q2 ((lv_0 hP).mp z)), if_neg (fun z => q2 z.2), m_slope h hP hN, ob, c_addmod hP, remv hP, m_fit2 hP, ob, key]
        have k := m_wm hP f (-y1 - es h.1 x1 y1 x2 y2 * (-qx - x1), qy)
        rw [k, ob, ob]
    · rw [if_neg (fun z => q ((lv_eq hP).mp z)), if_neg (fun z => q z.1), m_slope h hP hN, ob, if_neg (lP0 hP), c_addmod hP, remv hP, m_fit2 hP, ob, key]
      have k := m_wm hP f (-y1 - es h.1 x1 y1 x2 y2 * (-qx - x1), qy)
      rw [k, ob, ob]
end
