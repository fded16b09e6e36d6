section
theorem shrN {a d : Nat} {D : Int32} (hD : ((D.toInt64 &&& 63).toBitVec.smod 64).toNat = d) (h : a < 2 ^ 63) : jshr (lN a) D = lN (a / 2 ^ d) := by
  have hd : a / 2 ^ d ≤ a := Nat.div_le_self _ _
  apply Int64.toInt_inj.mp
  have e : (lN a >>> (D.toInt64 &&& 63)).toInt = (lN a).toInt >>> d := by
    rw [← hD]
    exact BitVec.toInt_sshiftRight ..
  show (lN a >>> (D.toInt64 &&& 63)).toInt = _
  rw [e, Int.shiftRight_eq_div_pow, pf_lI (by omega), pf_lI (by omega)]
  rfl
theorem shr1 {a : Nat} (h : a < 2 ^ 63) : jshr (lN a) 1 = lN (a / 2) := shrN (d := 1) (by decide) h
theorem remN {a b : Nat} (ha : a < 2 ^ 63) (h0 : 0 < b) (hb : b < 2 ^ 63) : jrem (lN a) (lN b) = lN (a % b) := pk_lRem ha h0 hb
theorem rem2 {a : Nat} (ha : a < 2 ^ 63) : jrem (lN a) 2 = lN (a % 2) := remN ha (by decide) (by decide)
theorem l0 : (0 : Int64) = lN 0 := rfl
theorem l1 : (1 : Int64) = lN 1 := rfl
theorem l2 : (2 : Int64) = lN 2 := rfl
theorem lN_ne0 {a : Nat} (h0 : 0 < a) (ha : a < 2 ^ 63) : ¬ lN a = 0 := by rw [l0, pk_lEQ ha (by decide)]; omega
theorem lN_neg1 {a : Nat} (ha : a < 2 ^ 63) : ¬ lN a = (-1) := by
  intro q
  have := congrArg Int64.toInt q
  rw [pk_lT ha] at this
  have e : (-1 : Int64).toInt = -1 := by decide
  omega
theorem n_up {x y : Nat} (hx : x < 2 ^ 31) (hy : y < 2 ^ 31) : fX3_upper (lN (x * 2147483648 + y)) = some (lN x) := by
  unfold fX3_upper
  rw [shrN (d := 31) (by decide) (by omega), show (x * 2147483648 + y) / 2 ^ 31 = x by omega]
theorem n_lo {x y : Nat} (hx : x < 2 ^ 31) (hy : y < 2 ^ 31) : fX3_lower (lN (x * 2147483648 + y)) = some (lN y) := by
  unfold fX3_lower
  have e : (2147483647 : Int64) = lN (2 ^ 31 - 1) := rfl
  rw [e, wb_mask (by omega) (by decide), show (x * 2147483648 + y) % 2 ^ 31 = y by omega]
theorem n_jn {x y : Nat} (hx : x < 2 ^ 31) (hy : y < 2 ^ 31) : fX3_joined (lN x) (lN y) = some (lN (x * 2147483648 + y)) := by
  unfold fX3_joined jshl
  have e : ((31 : Int32).toInt64 &&& 63) = ((nI 31).toInt64 &&& 63) := rfl
  rw [e, wb_shl x (by decide), g_or (k := 31) rfl hy (by omega)]
end
section
def lv {P : Nat} (x : Fin P) : Int64 := lN x.val
def ept {P : Nat} : Option (Fin P × Fin P) → Int64
  | none => -1
  | some (x, y) => lN (x.val * 2147483648 + y.val)
def ewd {P : Nat} (w : Fin P × Fin P) : Int64 := lN (w.1.val * 2147483648 + w.2.val)
theorem mul62 {a b P : Nat} (ha : a < P) (hb : b < P) (hP : P < 2 ^ 31) : a * b < 2 ^ 62 := by
  have h1 : a * b ≤ (2 ^ 31 - 1) * (2 ^ 31 - 1) := Nat.mul_le_mul (by omega) (by omega)
  omega
theorem lv_eq {P : Nat} (hP : P < 2 ^ 31) {a b : Fin P} : lv a = lv b ↔ a = b := by
  unfold lv
  have := a.isLt
  have := b.isLt
  rw [pk_lEQ (by omega) (by omega)]
  exact Fin.ext_iff.symm
theorem lv_0 {P : Nat} [NeZero P] (hP : P < 2 ^ 31) {a : Fin P} : lv a = 0 ↔ a = 0 := by
  have : (0 : Int64) = lv (0 : Fin P) := by
    show lN 0 = lN (0 : Fin P).val
    rw [Fin.val_zero]
  rw [this, lv_eq hP]
theorem lv_neg1 {P : Nat} (hP : P < 2 ^ 31) (a : Fin P) : ¬ lv a = (-1) := lN_neg1 (by have := a.isLt; omega)
theorem c_mul {P : Nat} [NeZero P] (hP : P < 2 ^ 31) (a b : Fin P) : fX2_product (lN P) (lv a) (lv b) = some (lv (a * b)) := by
  have h0 : 0 < P := Nat.pos_of_ne_zero (NeZero.ne P)
  have := mul62 a.isLt b.isLt hP
  unfold fX2_product lv
  rw [if_neg (lN_ne0 h0 (by omega)), lN_mul, remN (by omega) h0 (by omega), Fin.val_mul]
theorem c_sub {P : Nat} [NeZero P] (hP : P < 2 ^ 31) (a b : Fin P) : fX2_difference (lN P) (lv a) (lv b) = some (lv (a - b)) := by
  have ha := a.isLt
  have hb := b.isLt
  have e : (a - b).val = (P - b.val + a.val) % P := by rw [Fin.sub_def]
  unfold fX2_difference lv
  rw [e]
  by_cases h : b.val ≤ a.val
  · rw [if_pos ((pk_lLE (by omega) (by omega)).mpr h), lN_sub h]
    congr 2
    rw [show P - b.val + a.val = (a.val - b.val) + P by omega, Nat.add_mod_right, Nat.mod_eq_of_lt (by omega)]
  · rw [if_neg (fun q => h ((pk_lLE (by omega) (by omega)).mp q))]
    have e2 : lN a.val - lN b.val + lN P = lN (P - b.val + a.val) := by
      have : lN P = lN (P - b.val) + lN b.val := by rw [lN_add]; congr 1; omega
      rw [this, ← lN_add]
      grind
    rw [e2, Nat.mod_eq_of_lt (by omega)]
theorem ept_up {P : Nat} (hP : P < 2 ^ 31) (x y : Fin P) : fX3_upper (ept (some (x, y))) = some (lv x) := n_up (by have := x.isLt; omega) (by have := y.isLt; omega)
theorem ept_lo {P : Nat} (hP : P < 2 ^ 31) (x y : Fin P) : fX3_lower (ept (some (x, y))) = some (lv y) := n_lo (by have := x.isLt; omega) (by have := y.isLt; omega)
theorem ept_jn {P : Nat} (hP : P < 2 ^ 31) (x y : Fin P) : fX3_joined (lv x) (lv y) = some (ept (some (x, y))) := n_jn (by have := x.isLt; omega) (by have := y.isLt; omega)
theorem ewd_up {P : Nat} (hP : P < 2 ^ 31) (w : Fin P × Fin P) : fX3_upper (ewd w) = some (lv w.1) := n_up (by have := w.1.isLt; omega) (by have := w.2.isLt; omega)
theorem ewd_lo {P : Nat} (hP : P < 2 ^ 31) (w : Fin P × Fin P) : fX3_lower (ewd w) = some (lv w.2) := n_lo (by have := w.1.isLt; omega) (by have := w.2.isLt; omega)
theorem ewd_jn {P : Nat} (hP : P < 2 ^ 31) (x y : Fin P) : fX3_joined (lv x) (lv y) = some (ewd (x, y)) := n_jn (by have := x.isLt; omega) (by have := y.isLt; omega)
theorem ept_n1 {P : Nat} (hP : P < 2 ^ 31) (x y : Fin P) : ¬ ept (some (x, y)) = (-1) := lN_neg1 (by have := x.isLt; have := y.isLt; omega)
theorem ept_inj {P : Nat} (hP : P < 2 ^ 31) : ∀ {a b : Option (Fin P × Fin P)}, ept a = ept b → a = b
  | none, none, _ => rfl
  | none, some (x, y), h => absurd h.symm (ept_n1 hP x y)
  | some (x, y), none, h => absurd h (ept_n1 hP x y)
  | some (x, y), some (z, w), h => by
    have := x.isLt
    have := y.isLt
    have := z.isLt
    have := w.isLt
    have k := (pk_lEQ (by omega) (by omega)).mp (show lN (x.val * 2147483648 + y.val) = lN (z.val * 2147483648 + w.val) from h)
    have k1 : x = z := Fin.ext (by omega)
    have k2 : y = w := Fin.ext (by omega)
    rw [k1, k2]
theorem ewd_inj {P : Nat} (hP : P < 2 ^ 31) {a b : Fin P × Fin P} (h : ewd a = ewd b) : a = b := by
  have := a.1.isLt
  have := a.2.isLt
  have := b.1.isLt
  have := b.2.isLt
  have k := (pk_lEQ (by omega) (by omega)).mp (show lN (a.1.val * 2147483648 + a.2.val) = lN (b.1.val * 2147483648 + b.2.val) from h)
  exact Prod.ext (Fin.ext (by omega)) (Fin.ext (by omega))
theorem ob {α β : Type} (a : α) (f : α → Option β) : (some a).bind f = f a := rfl
theorem c_addmod {P : Nat} [NeZero P] (hP : P < 2 ^ 31) (a b : Fin P) : jrem (lv a + lv b) (lN P) = lv (a + b) := by
  have ha := a.isLt
  have hb := b.isLt
  unfold lv
  rw [lN_add, remN (by omega) (by omega) (by omega), Fin.val_add]
theorem lP0 {P : Nat} [NeZero P] (hP : P < 2 ^ 31) : ¬ lN P = 0 := lN_ne0 (Nat.pos_of_ne_zero (NeZero.ne P)) (by omega)
theorem c_cub {P : Nat} [NeZero P] (hP : P < 2 ^ 31) (x : Fin P) : fX0_squareOfY (lN P) (lv x) = some (lv (x * x * x + x)) := by
  unfold fX0_squareOfY
  rw [c_mul hP, ob, c_mul hP, ob, if_neg (lP0 hP), c_addmod hP]
theorem c_passes {P : Nat} [NeZero P] (hP : P < 2 ^ 31) (x y : Fin P) : fX0_passes (lN P) (lv x) (lv y) = some (decide (y * y = x * x * x + x)) := by
  unfold fX0_passes
  rw [c_mul hP, ob, c_cub hP, ob]
  by_cases h : y * y = x * x * x + x
  · rw [if_pos ((lv_eq hP).mpr h), decide_eq_true h]
  · rw [if_neg (fun q => h ((lv_eq hP).mp q)), decide_eq_false h]
theorem c_opp {P : Nat} [NeZero P] (hP : P < 2 ^ 31) (x1 y1 x2 y2 : Fin P) : fX0_areOpposite (lN P) (ept (some (x1, y1))) (ept (some (x2, y2))) = some (decide (x1 = x2 ∧ y1 + y2 = 0)) := by
  unfold fX0_areOpposite
  rw [ept_up hP, ept_up hP, ept_lo hP, ept_lo hP, ob, ob]
  by_cases h : x1 = x2
  · rw [if_pos ((lv_eq hP).mpr h), ob, ob, if_neg (lP0 hP), c_addmod hP]
    by_cases h2 : y1 + y2 = 0
    · rw [if_pos ((lv_0 hP).mpr h2), decide_eq_true ⟨h, h2⟩]
    · rw [if_neg (fun q => h2 ((lv_0 hP).mp q)), decide_eq_false (fun q => h2 q.2)]
  · rw [if_neg (fun q => h ((lv_eq hP).mp q)), decide_eq_false (fun q => h q.1)]
end
