/-! the curve over a field where -1 is no square: its points are a group -/
section
def ec_on {F : Type} [Lean.Grind.Field F] : Option (F × F) → Prop
  | none => True
  | some (x, y) => y*y = x*x*x + x
def ec_s {F : Type} [Lean.Grind.Field F] [DecidableEq F] (x1 y1 x2 y2 : F) : F := if x1 = x2 then (3*(x1*x1)+1) * (2*y1)⁻¹ else (y2-y1)*(x2-x1)⁻¹
def ec_add {F : Type} [Lean.Grind.Field F] [DecidableEq F] : Option (F × F) → Option (F × F) → Option (F × F)
  | none, q => q
  | some a, none => some a
  | some (x1, y1), some (x2, y2) => if x1 = x2 ∧ y1 + y2 = 0 then none else
      some (ec_s x1 y1 x2 y2 * ec_s x1 y1 x2 y2 - x1 - x2, ec_s x1 y1 x2 y2 * (x1 - (ec_s x1 y1 x2 y2 * ec_s x1 y1 x2 y2 - x1 - x2)) - y1)
def ed {F : Type} [Lean.Grind.Field F] (c e : F) : Option (F × F) → F × F
  | none => (0, 1)
  | some (u, v) => (c*v*(u*u+1)⁻¹, (u-e)*(u+e)⁻¹)
def ed_add {F : Type} [Lean.Grind.Field F] (a b : F × F) : F × F := ((a.1*b.2+a.2*b.1)*(1 - a.1*b.1*a.2*b.2)⁻¹, (a.2*b.2 - a.1*b.1)*(1 + a.1*b.1*a.2*b.2)⁻¹)
def ed_on {F : Type} [Lean.Grind.Field F] (a : F × F) : Prop := a.1*a.1 + a.2*a.2 + a.1*a.1*a.2*a.2 = 1
theorem al_mz {F : Type} [Lean.Grind.Field F] {a b : F} (h : a * b = 0) (ha : a ≠ 0) : b = 0 := by
  have h1 : a * a⁻¹ = 1 := Lean.Grind.Field.mul_inv_cancel ha
  grind
/-- the complete law's divisors are no 0 -/
theorem ed_ne {F : Type} [Lean.Grind.Field F] (hn : ∀ z : F, z*z + 1 ≠ 0) {x1 y1 x2 y2 t : F} (h1 : x1*x1+y1*y1+x1*x1*y1*y1 = 1) (h2 : x2*x2+y2*y2+x2*x2*y2*y2 = 1) (ht : t * t = 1) (h : x1*x2*y1*y2 = t) : False := by
  have hx : x1*y1 ≠ 0 := by
    intro h0
    have : t = 0 := by rw [← h]; grind
    grind
  have k1 : (x1 - t*y1)*(x1 - t*y1) + (x1*y1*(x2+y2))*(x1*y1*(x2+y2)) = 0 := by grind
  have k2 : (x1 + t*y1)*(x1 + t*y1) + (x1*y1*(x2-y2))*(x1*y1*(x2-y2)) = 0 := by grind
  have j1 := al_mz (al_sq hn k1) hx
  have j2 := al_mz (al_sq hn k2) hx
  have h22 : (2 : F) * x2 = 0 := by grind
  have h23 : (2 : F) * y2 = 0 := by grind
  have : t = 0 ∨ (2 : F) = 0 := by
    by_cases q : (2 : F) = 0
    · exact Or.inr q
    · left
      have := al_mz h22 q
      grind
  rcases this with q | q
  · grind
  · exact hn 1 (by grind)
theorem ed_n1 {F : Type} [Lean.Grind.Field F] (hn : ∀ z : F, z*z + 1 ≠ 0) {a b : F × F} (h1 : ed_on a) (h2 : ed_on b) : 1 - a.1*b.1*a.2*b.2 ≠ 0 := by
  intro h
  exact ed_ne hn (t := 1) h1 h2 (by grind) (by grind)
theorem ed_n2 {F : Type} [Lean.Grind.Field F] (hn : ∀ z : F, z*z + 1 ≠ 0) {a b : F × F} (h1 : ed_on a) (h2 : ed_on b) : 1 + a.1*b.1*a.2*b.2 ≠ 0 := by
  intro h
  exact ed_ne hn (t := -1) h1 h2 (by grind) (by grind)
theorem ed_comm {F : Type} [Lean.Grind.Field F] (a b : F × F) : ed_add a b = ed_add b a := by
  unfold ed_add
  rw [show a.1*b.1*a.2*b.2 = b.1*a.1*b.2*a.2 by grind, show a.1*b.2+a.2*b.1 = b.1*a.2+b.2*a.1 by grind, show a.2*b.2 - a.1*b.1 = b.2*a.2 - b.1*a.1 by grind]
/-- two quotients are one, if the products across are -/
theorem al_cross {F : Type} [Lean.Grind.Field F] {a b c d i j : F} (hi : b * i = 1) (hj : d * j = 1) (h : a * d = c * b) : a * i = c * j := by grind
theorem ed_on_ed {F : Type} [Lean.Grind.Field F] (h2 : (2 : F) ≠ 0) (hn : ∀ z : F, z*z + 1 ≠ 0) {c e : F} (he : e*e = 1) (hc : c*c = 2*e) : ∀ {q : Option (F × F)}, ec_on q → ed_on (ed c e q)
  | none, _ => by show (0:F)*0 + 1*1 + 0*0*1*1 = 1; grind
  | some (u, v), h => al_on he hc h (Lean.Grind.Field.mul_inv_cancel (hn u)) (Lean.Grind.Field.mul_inv_cancel (al_ue h2 hn he hc h))
theorem al_h1 {F : Type} [Lean.Grind.Field F] {p i q j : F} (hp : p * i = 1) (hq : q * j = 1) (N M x y : F) : N*i*y + M*j*x = i*j*(N*q*y + M*p*x) := by grind
theorem al_h2 {F : Type} [Lean.Grind.Field F] {p i q j : F} (hp : p * i = 1) (hq : q * j = 1) (N M a b : F) : 1 - a*(N*i)*b*(M*j) = i*j*(p*q - a*b*N*M) := by grind
theorem al_h3 {F : Type} [Lean.Grind.Field F] {p i q j : F} (hp : p * i = 1) (hq : q * j = 1) (N M a b : F) : a*(M*j) + b*(N*i) = i*j*(a*M*p + b*N*q) := by grind
theorem al_h4 {F : Type} [Lean.Grind.Field F] {p i q j : F} (hp : p * i = 1) (hq : q * j = 1) (N M x y : F) : 1 - N*i*x*(M*j)*y = i*j*(p*q - N*M*x*y) := by grind
theorem al_h5 {F : Type} [Lean.Grind.Field F] {p i q j : F} (hp : p * i = 1) (hq : q * j = 1) (N M x y : F) : M*j*y - N*i*x = i*j*(M*p*y - N*q*x) := by grind
theorem al_h6 {F : Type} [Lean.Grind.Field F] {p i q j : F} (hp : p * i = 1) (hq : q * j = 1) (N M a b : F) : 1 + a*(N*i)*b*(M*j) = i*j*(p*q + a*b*N*M) := by grind
theorem al_h7 {F : Type} [Lean.Grind.Field F] {p i q j : F} (hp : p * i = 1) (hq : q * j = 1) (N M a b : F) : b*(M*j) - a*(N*i) = i*j*(b*M*p - a*N*q) := by grind
theorem al_h8 {F : Type} [Lean.Grind.Field F] {p i q j : F} (hp : p * i = 1) (hq : q * j = 1) (N M x y : F) : 1 + N*i*x*(M*j)*y = i*j*(p*q + N*M*x*y) := by grind
theorem al_h9 {F : Type} [Lean.Grind.Field F] {A1 A2 A3 A4 i j : F} (h : A1*A2 = A3*A4) : i*A1*(j*A2) = j*A3*(i*A4) := by grind
/-- associativity of the complete law, where the sums are on the curve too -/
theorem ed_assoc {F : Type} [Lean.Grind.Field F] (hn : ∀ z : F, z*z + 1 ≠ 0) {a b d : F × F} (ha : ed_on a) (hb : ed_on b) (hd : ed_on d) (hab : ed_on (ed_add a b)) (hbd : ed_on (ed_add b d)) : ed_add (ed_add a b) d = ed_add a (ed_add b d) := by
  have p1 := Lean.Grind.Field.mul_inv_cancel (ed_n1 hn ha hb)
  have q1 := Lean.Grind.Field.mul_inv_cancel (ed_n2 hn ha hb)
  have p2 := Lean.Grind.Field.mul_inv_cancel (ed_n1 hn hb hd)
  have q2 := Lean.Grind.Field.mul_inv_cancel (ed_n2 hn hb hd)
  have r1 := Lean.Grind.Field.mul_inv_cancel (ed_n1 hn hab hd)
  have s1 := Lean.Grind.Field.mul_inv_cancel (ed_n2 hn hab hd)
  have r2 := Lean.Grind.Field.mul_inv_cancel (ed_n1 hn ha hbd)
  have s2 := Lean.Grind.Field.mul_inv_cancel (ed_n2 hn ha hbd)
  have eX := al_edX a.1 a.2 b.1 b.2 d.1 d.2 ha hb hd
  have eY := al_edY a.1 a.2 b.1 b.2 d.1 d.2 ha hb hd
  obtain ⟨x1, y1⟩ := a
  obtain ⟨x2, y2⟩ := b
  obtain ⟨x3, y3⟩ := d
  simp only [ed_add] at p1 q1 p2 q2 r1 s1 r2 s2 eX eY ⊢
  generalize (1 - x1 * x2 * y1 * y2)⁻¹ = i1 at *
  generalize (1 + x1 * x2 * y1 * y2)⁻¹ = j1 at *
  generalize (1 - x2 * x3 * y2 * y3)⁻¹ = i2 at *
  generalize (1 + x2 * x3 * y2 * y3)⁻¹ = j2 at *
  clear hab hbd
  refine Prod.ext ?_ ?_
  · refine al_cross r1 r2 ?_
    rw [al_h1 p1 q1, al_h2 p2 q2, al_h3 p2 q2, al_h4 p1 q1]
    exact al_h9 eX
  · refine al_cross s1 s2 ?_
    rw [al_h5 p1 q1, al_h6 p2 q2, al_h7 p2 q2, al_h8 p1 q1]
    exact al_h9 eY
end
