section
theorem ec_add_ss {F : Type} [Lean.Grind.Field F] [DecidableEq F] (x1 y1 x2 y2 : F) : ec_add (some (x1, y1)) (some (x2, y2)) = if x1 = x2 ∧ y1 + y2 = 0 then none else some (ec_s x1 y1 x2 y2 * ec_s x1 y1 x2 y2 - x1 - x2, ec_s x1 y1 x2 y2 * (x1 - (ec_s x1 y1 x2 y2 * ec_s x1 y1 x2 y2 - x1 - x2)) - y1) := rfl
/-- the line through two points: its slope, and the third point's equations -/
theorem ec_line {F : Type} [Lean.Grind.Field F] [DecidableEq F] (h2 : (2 : F) ≠ 0) {x1 y1 x2 y2 : F} (h1 : y1*y1 = x1*x1*x1 + x1) (hh : y2*y2 = x2*x2*x2 + x2) (hne : ¬ (x1 = x2 ∧ y1 + y2 = 0)) :
    ∃ m u3 : F, u3 = ec_s x1 y1 x2 y2 * ec_s x1 y1 x2 y2 - x1 - x2 ∧ y1 = ec_s x1 y1 x2 y2 * x1 + m ∧ y2 = ec_s x1 y1 x2 y2 * x2 + m ∧ x1 + x2 + u3 = ec_s x1 y1 x2 y2 * ec_s x1 y1 x2 y2 ∧ x1*x2 + x1*u3 + x2*u3 = 1 - 2*ec_s x1 y1 x2 y2*m ∧ x1*x2*u3 = m*m := by
  obtain ⟨s, hs⟩ : ∃ s, s = ec_s x1 y1 x2 y2 := ⟨_, rfl⟩
  rw [← hs]
  refine ⟨y1 - s*x1, s*s - x1 - x2, rfl, by grind, ?_⟩
  unfold ec_s at hs
  by_cases hx : x1 = x2
  · subst hx
    rw [if_pos rfl] at hs
    have hy : y1 = y2 := by
      have k : (y1 + y2) * (y1 - y2) = 0 := by grind
      have k2 : y1 + y2 ≠ 0 := fun q => hne ⟨rfl, q⟩
      have := al_mz k k2
      grind
    subst hy
    have hy0 : 2 * y1 ≠ 0 := fun q => hne ⟨rfl, by grind⟩
    have hi := Lean.Grind.Field.mul_inv_cancel hy0
    generalize (2*y1)⁻¹ = i at hi hs
    have hsy : s * (2*y1) = 3*(x1*x1)+1 := by grind
    refine ⟨by grind, by grind, by grind, by grind⟩
  · rw [if_neg hx] at hs
    have hw : x2 - x1 ≠ 0 := fun q => hx (by grind)
    have hi := Lean.Grind.Field.mul_inv_cancel hw
    generalize (x2-x1)⁻¹ = i at hi hs
    have hsw : s * (x2 - x1) = y2 - y1 := by grind
    have k : (x2 - x1) * (s*(y1+y2) - (x1*x1 + x1*x2 + x2*x2 + 1)) = 0 := by grind
    have k2 := al_mz k hw
    refine ⟨by grind, by grind, ?_, ?_⟩
    · grind
    · grind
theorem ec_cl {F : Type} [Lean.Grind.Field F] [DecidableEq F] (h2 : (2 : F) ≠ 0) : ∀ {a b : Option (F × F)}, ec_on a → ec_on b → ec_on (ec_add a b)
  | none, _, _, hb => hb
  | some _, none, ha, _ => ha
  | some (x1, y1), some (x2, y2), ha, hb => by
    rw [ec_add_ss]
    by_cases hne : x1 = x2 ∧ y1 + y2 = 0
    · rw [if_pos hne]; exact trivial
    · rw [if_neg hne]
      obtain ⟨m, u3, e0, e1, e2, e3, e4, e5⟩ := ec_line h2 ha hb hne
      generalize ec_s x1 y1 x2 y2 = s at *
      rw [← e0]
      show (s * (x1 - u3) - y1) * (s * (x1 - u3) - y1) = u3*u3*u3 + u3
      have : s * (x1 - u3) - y1 = -(s*u3+m) := by grind
      rw [this]
      clear ha hb hne
      grind
theorem al_k1 {F : Type} [Lean.Grind.Field F] {c e d1 d2 j1 j2 D1 D2 E1 E2 : F} (hc : c*c = 2*e) (h1 : D1*d1 = 1) (h2 : D2*d2 = 1) (h3 : E1*j1 = 1) (h4 : E2*j2 = 1) (y1 y2 G1 G2 : F) : 1 - c*y1*d1*(c*y2*d2)*(G1*j1)*(G2*j2) = d1*d2*j1*j2*(D1*D2*(E1*E2) - 2*e*(y1*y2)*(G1*G2)) := by grind
theorem al_k2 {F : Type} [Lean.Grind.Field F] {c e d1 d2 j1 j2 D1 D2 E1 E2 : F} (hc : c*c = 2*e) (h1 : D1*d1 = 1) (h2 : D2*d2 = 1) (h3 : E1*j1 = 1) (h4 : E2*j2 = 1) (y1 y2 G1 G2 : F) : 1 + c*y1*d1*(c*y2*d2)*(G1*j1)*(G2*j2) = d1*d2*j1*j2*(D1*D2*(E1*E2) + 2*e*(y1*y2)*(G1*G2)) := by grind
theorem al_k3 {F : Type} [Lean.Grind.Field F] {c d1 d2 j1 j2 D1 D2 E1 E2 : F} (h1 : D1*d1 = 1) (h2 : D2*d2 = 1) (h3 : E1*j1 = 1) (h4 : E2*j2 = 1) (y1 y2 G1 G2 : F) : c*y1*d1*(G2*j2) + G1*j1*(c*y2*d2) = c*(d1*d2*j1*j2)*(y1*D2*G2*E1 + y2*D1*G1*E2) := by grind
theorem al_k4 {F : Type} [Lean.Grind.Field F] {c e d1 d2 j1 j2 D1 D2 E1 E2 : F} (hc : c*c = 2*e) (h1 : D1*d1 = 1) (h2 : D2*d2 = 1) (h3 : E1*j1 = 1) (h4 : E2*j2 = 1) (y1 y2 G1 G2 : F) : G1*j1*(G2*j2) - c*y1*d1*(c*y2*d2) = d1*d2*j1*j2*(G1*G2*(D1*D2) - 2*e*(y1*y2)*(E1*E2)) := by grind
theorem al_k5 {F : Type} [Lean.Grind.Field F] {X X' Y : F} (hx : X' = -X) (h : X*X + Y*Y + X*X*Y*Y = 1) : Y*Y - X*X' = 1 + X*X'*Y*Y := by grind
theorem al_k6 {F : Type} [Lean.Grind.Field F] {c D a A B C : F} (h : a*A = B*C) : c*a*(D*A) = c*D*C*B := by grind
theorem al_k7 {F : Type} [Lean.Grind.Field F] {D a A B C : F} (h : a*A = B*C) : a*(D*A) = D*C*B := by grind
/-- the map takes sums to sums -/
theorem ec_hom {F : Type} [Lean.Grind.Field F] [DecidableEq F] (h2 : (2 : F) ≠ 0) (hn : ∀ z : F, z*z + 1 ≠ 0) {c e : F} (he : e*e = 1) (hc : c*c = 2*e) : ∀ {a b : Option (F × F)}, ec_on a → ec_on b → ed c e (ec_add a b) = ed_add (ed c e a) (ed c e b)
  | none, b, _, hb => by
    show ed c e b = ed_add (0, 1) (ed c e b)
    have h1 : (1:F) * 1⁻¹ = 1 := Lean.Grind.Field.mul_inv_cancel (fun q => Lean.Grind.Field.zero_ne_one q.symm)
    obtain ⟨x, y⟩ := ed c e b
    unfold ed_add
    rw [show 1 - (0:F)*x*1*y = 1 by grind, show 1 + (0:F)*x*1*y = 1 by grind]
    exact Prod.ext (by grind) (by grind)
  | some a, none, ha, _ => by
    show ed c e (some a) = ed_add (ed c e (some a)) (0, 1)
    have h1 : (1:F) * 1⁻¹ = 1 := Lean.Grind.Field.mul_inv_cancel (fun q => Lean.Grind.Field.zero_ne_one q.symm)
    obtain ⟨x, y⟩ := ed c e (some a)
    unfold ed_add
    rw [show 1 - x*(0:F)*y*1 = 1 by grind, show 1 + x*(0:F)*y*1 = 1 by grind]
    exact Prod.ext (by grind) (by grind)
  | some (x1, y1), some (x2, y2), ha, hb => by
    have n1 := ed_n1 hn (ed_on_ed h2 hn he hc ha) (ed_on_ed h2 hn he hc hb)
    have n2 := ed_n2 hn (ed_on_ed h2 hn he hc ha) (ed_on_ed h2 hn he hc hb)
    have cl := ec_cl h2 ha hb
    rw [ec_add_ss] at cl ⊢
    have hD1 := Lean.Grind.Field.mul_inv_cancel (hn x1)
    have hD2 := Lean.Grind.Field.mul_inv_cancel (hn x2)
    have hE1 := Lean.Grind.Field.mul_inv_cancel (al_ue h2 hn he hc ha)
    have hE2 := Lean.Grind.Field.mul_inv_cancel (al_ue h2 hn he hc hb)
    by_cases hne : x1 = x2 ∧ y1 + y2 = 0
    · rw [if_pos hne]
      obtain ⟨rfl, hy⟩ := hne
      obtain rfl : y2 = -y1 := by grind
      have m1 := Lean.Grind.Field.mul_inv_cancel n1
      have m2 := Lean.Grind.Field.mul_inv_cancel n2
      simp only [ed, ed_add] at m1 m2 ⊢
      generalize (x1*x1+1)⁻¹ = d at *
      generalize (x1+e)⁻¹ = j at *
      have ha : y1*y1 = x1*x1*x1 + x1 := ha
      have hon := al_on he hc ha hD1 hE1
      refine Prod.ext ?_ ?_
      · show (0:F) = _
        rw [show c * y1 * d * ((x1 - e) * j) + (x1 - e) * j * (c * -y1 * d) = 0 by grind]
        grind
      · show (1:F) = _
        rw [al_k5 (X := c * y1 * d) (X' := c * -y1 * d) (Y := (x1 - e) * j) (by clear m1 m2 hon; grind) hon]
        exact m2.symm
    · rw [if_neg hne] at cl ⊢
      obtain ⟨m, u3, e0, e1, e2, e3, e4, e5⟩ := ec_line h2 ha hb hne
      generalize ec_s x1 y1 x2 y2 = s at *
      rw [← e0] at cl ⊢
      have hD3 := Lean.Grind.Field.mul_inv_cancel (hn u3)
      have hE3 := Lean.Grind.Field.mul_inv_cancel (al_ue h2 hn he hc cl)
      have hv3 : s * (x1 - u3) - y1 = -(s*u3+m) := by grind
      rw [hv3]
      have m1 := Lean.Grind.Field.mul_inv_cancel n1
      have m2 := Lean.Grind.Field.mul_inv_cancel n2
      have cX := al_colX s m x1 x2 u3 e he e3 e4 e5
      have cY := al_colY s m x1 x2 u3 e he e3 e4 e5
      rw [← e1, ← e2] at cX cY
      simp only [ed, ed_add] at m1 m2 ⊢
      generalize (x1*x1+1)⁻¹ = d1 at *
      generalize (x2*x2+1)⁻¹ = d2 at *
      generalize (x1+e)⁻¹ = j1 at *
      generalize (x2+e)⁻¹ = j2 at *
      refine Prod.ext ?_ ?_
      · refine al_cross hD3 m1 ?_
        rw [al_k1 hc hD1 hD2 hE1 hE2, al_k3 hD1 hD2 hE1 hE2]
        exact al_k6 cX
      · refine al_cross hE3 m2 ?_
        rw [al_k2 hc hD1 hD2 hE1 hE2, al_k4 hc hD1 hD2 hE1 hE2]
        exact al_k7 cY
theorem ed_inj {F : Type} [Lean.Grind.Field F] (h2 : (2 : F) ≠ 0) (hn : ∀ z : F, z*z + 1 ≠ 0) {c e : F} (he : e*e = 1) (hc : c*c = 2*e) : ∀ {a b : Option (F × F)}, ec_on a → ec_on b → ed c e a = ed c e b → a = b := by
  have one : ∀ {u v : F}, v*v = u*u*u + u → (u-e)*(u+e)⁻¹ ≠ 1 := by
    intro u v h q
    have hE := Lean.Grind.Field.mul_inv_cancel (al_ue h2 hn he hc h)
    generalize (u+e)⁻¹ = j at hE q
    have : (2:F) * e = 0 := by grind
    have := al_mz this h2
    grind
  intro a b ha hb h
  match a, b, ha, hb, h with
  | none, none, _, _, _ => rfl
  | none, some (u, v), _, hb, h => exact absurd (Prod.ext_iff.mp h).2.symm (one hb)
  | some (u, v), none, ha, _, h => exact absurd (Prod.ext_iff.mp h).2 (one ha)
  | some (u1, v1), some (u2, v2), ha, hb, h =>
    have hx : c*v1*(u1*u1+1)⁻¹ = c*v2*(u2*u2+1)⁻¹ := (Prod.ext_iff.mp h).1
    have hy : (u1-e)*(u1+e)⁻¹ = (u2-e)*(u2+e)⁻¹ := (Prod.ext_iff.mp h).2
    have hE1 := Lean.Grind.Field.mul_inv_cancel (al_ue h2 hn he hc ha)
    have hE2 := Lean.Grind.Field.mul_inv_cancel (al_ue h2 hn he hc hb)
    have hD := Lean.Grind.Field.mul_inv_cancel (hn u1)
    generalize (u1+e)⁻¹ = j1 at hE1 hy
    generalize (u2+e)⁻¹ = j2 at hE2 hy
    have k : (2:F) * (e * (u1 - u2)) = 0 := by
      have : (u1-e)*(u2+e) = (u2-e)*(u1+e) := by grind
      grind
    have k2 := al_mz k h2
    have hu : u1 = u2 := by grind
    subst hu
    generalize (u1*u1+1)⁻¹ = d at hx hD
    have k3 : c * (v1 - v2) = 0 := by grind
    have hc0 : c ≠ 0 := by
      intro q
      have : (2:F) * e = 0 := by grind
      have := al_mz this h2
      grind
    have hv : v1 = v2 := by have := al_mz k3 hc0; grind
    rw [hv]
theorem ec_assoc {F : Type} [Lean.Grind.Field F] [DecidableEq F] (h2 : (2 : F) ≠ 0) (hn : ∀ z : F, z*z + 1 ≠ 0) {c e : F} (he : e*e = 1) (hc : c*c = 2*e) {a b d : Option (F × F)} (ha : ec_on a) (hb : ec_on b) (hd : ec_on d) : ec_add (ec_add a b) d = ec_add a (ec_add b d) := by
  have hab := ec_cl h2 ha hb
  have hbd := ec_cl h2 hb hd
  refine ed_inj h2 hn he hc (ec_cl h2 hab hd) (ec_cl h2 ha hbd) ?_
  rw [ec_hom h2 hn he hc hab hd, ec_hom h2 hn he hc ha hb, ec_hom h2 hn he hc ha hbd, ec_hom h2 hn he hc hb hd]
  refine ed_assoc hn (ed_on_ed h2 hn he hc ha) (ed_on_ed h2 hn he hc hb) (ed_on_ed h2 hn he hc hd) ?_ ?_
  · rw [← ec_hom h2 hn he hc ha hb]; exact ed_on_ed h2 hn he hc hab
  · rw [← ec_hom h2 hn he hc hb hd]; exact ed_on_ed h2 hn he hc hbd
theorem ec_comm {F : Type} [Lean.Grind.Field F] [DecidableEq F] (h2 : (2 : F) ≠ 0) (hn : ∀ z : F, z*z + 1 ≠ 0) {c e : F} (he : e*e = 1) (hc : c*c = 2*e) {a b : Option (F × F)} (ha : ec_on a) (hb : ec_on b) : ec_add a b = ec_add b a := by
  refine ed_inj h2 hn he hc (ec_cl h2 ha hb) (ec_cl h2 hb ha) ?_
  rw [ec_hom h2 hn he hc ha hb, ec_hom h2 hn he hc hb ha, ed_comm]
end
