section
set_option maxHeartbeats 4000000 in
theorem al_colY {F : Type} [Lean.Grind.Field F] (s m u1 u2 u3 e : F) (he : e*e = 1) (e1 : u1+u2+u3 = s*s) (e2 : u1*u2+u1*u3+u2*u3 = 1 - 2*s*m) (e3 : u1*u2*u3 = m*m) :
  (u3 - e) * ((u1*u1+1)*(u2*u2+1)*((u1+e)*(u2+e)) + 2*e*((s*u1+m)*(s*u2+m))*((u1-e)*(u2-e))) = (u3+e) * ((u1-e)*(u2-e)*((u1*u1+1)*(u2*u2+1)) - 2*e*((s*u1+m)*(s*u2+m))*((u1+e)*(u2+e))) := by grind
set_option maxHeartbeats 4000000 in
theorem al_colX {F : Type} [Lean.Grind.Field F] (s m u1 u2 u3 e : F) (he : e*e = 1) (e1 : u1+u2+u3 = s*s) (e2 : u1*u2+u1*u3+u2*u3 = 1 - 2*s*m) (e3 : u1*u2*u3 = m*m) :
  -(s*u3+m) * ((u1*u1+1)*(u2*u2+1)*((u1+e)*(u2+e)) - 2*e*((s*u1+m)*(s*u2+m))*((u1-e)*(u2-e))) = (u3*u3+1) * ((s*u1+m)*(u2*u2+1)*(u2-e)*(u1+e) + (s*u2+m)*(u1*u1+1)*(u1-e)*(u2+e)) := by grind
set_option maxHeartbeats 4000000 in
theorem al_edX {F : Type} [Lean.Grind.Field F] (x1 y1 x2 y2 x3 y3 : F) (h1 : x1*x1+y1*y1+x1*x1*y1*y1 = 1) (h2 : x2*x2+y2*y2+x2*x2*y2*y2 = 1) (h3 : x3*x3+y3*y3+x3*x3*y3*y3 = 1) :
  ((x1*y2+y1*x2)*(1+x1*x2*y1*y2)*y3 + (y1*y2-x1*x2)*(1-x1*x2*y1*y2)*x3) * ((1-x2*x3*y2*y3)*(1+x2*x3*y2*y3) - x1*y1*(x2*y3+y2*x3)*(y2*y3-x2*x3)) = (x1*(y2*y3-x2*x3)*(1-x2*x3*y2*y3) + y1*(x2*y3+y2*x3)*(1+x2*x3*y2*y3)) * ((1-x1*x2*y1*y2)*(1+x1*x2*y1*y2) - (x1*y2+y1*x2)*(y1*y2-x1*x2)*x3*y3) := by grind
set_option maxHeartbeats 4000000 in
theorem al_edY {F : Type} [Lean.Grind.Field F] (x1 y1 x2 y2 x3 y3 : F) (h1 : x1*x1+y1*y1+x1*x1*y1*y1 = 1) (h2 : x2*x2+y2*y2+x2*x2*y2*y2 = 1) (h3 : x3*x3+y3*y3+x3*x3*y3*y3 = 1) :
  ((y1*y2-x1*x2)*(1-x1*x2*y1*y2)*y3 - (x1*y2+y1*x2)*(1+x1*x2*y1*y2)*x3) * ((1-x2*x3*y2*y3)*(1+x2*x3*y2*y3) + x1*y1*(x2*y3+y2*x3)*(y2*y3-x2*x3)) = (y1*(y2*y3-x2*x3)*(1-x2*x3*y2*y3) - x1*(x2*y3+y2*x3)*(1+x2*x3*y2*y3)) * ((1-x1*x2*y1*y2)*(1+x1*x2*y1*y2) + (x1*y2+y1*x2)*(y1*y2-x1*x2)*x3*y3) := by grind
theorem al_sq {F : Type} [Lean.Grind.Field F] (hn : ∀ z : F, z*z + 1 ≠ 0) {a b : F} (h : a*a + b*b = 0) : b = 0 := by
  by_cases hb : b = 0
  · exact hb
  · have h1 : b * b⁻¹ = 1 := Lean.Grind.Field.mul_inv_cancel hb
    exact absurd (show (a * b⁻¹) * (a * b⁻¹) + 1 = 0 by grind) (hn _)
theorem al_ue {F : Type} [Lean.Grind.Field F] (h2 : (2 : F) ≠ 0) (hn : ∀ z : F, z*z + 1 ≠ 0) {e c u v : F} (he : e*e = 1) (hc : c*c = 2*e) (h : v*v = u*u*u + u) : u + e ≠ 0 := by
  intro h1
  have h3 : v*v + c*c = 0 := by grind
  have h4 : c = 0 := al_sq hn h3
  grind
theorem al_on {F : Type} [Lean.Grind.Field F] {e c u v i j : F} (he : e*e = 1) (hc : c*c = 2*e) (h : v*v = u*u*u + u) (hi : (u*u+1)*i = 1) (hj : (u+e)*j = 1) : (c*v*i)*(c*v*i) + ((u-e)*j)*((u-e)*j) + (c*v*i)*(c*v*i)*((u-e)*j)*((u-e)*j) = 1 := by grind
end
