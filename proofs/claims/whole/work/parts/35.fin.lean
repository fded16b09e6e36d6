section
theorem fin_ex {P : Nat} [NeZero P] (hp : Pr P) (a : Fin P) (ha : a ≠ 0) : ∃ b : Fin P, a * b = 1 := by
  have h2 := hp.1
  have h0 : 0 < a.val := Nat.pos_of_ne_zero fun q => ha (Fin.ext (by rw [q]; simp))
  obtain ⟨b, hb1, hb2⟩ := pr_inv hp a.val a.val (Nat.le_refl _) h0 a.isLt
  refine ⟨⟨b, hb1⟩, Fin.ext ?_⟩
  rw [Fin.val_mul, hb2]
  show 1 = 1 % P
  exact (Nat.mod_eq_of_lt (by omega)).symm
noncomputable def fin_inv {P : Nat} [NeZero P] (hp : Pr P) (a : Fin P) : Fin P := if h : a = 0 then 0 else Classical.choose (fin_ex hp a h)
theorem fin_inv0 {P : Nat} [NeZero P] (hp : Pr P) : fin_inv hp 0 = 0 := dif_pos rfl
theorem fin_invM {P : Nat} [NeZero P] (hp : Pr P) {a : Fin P} (ha : a ≠ 0) : a * fin_inv hp a = 1 := by
  unfold fin_inv
  rw [dif_neg ha]
  exact Classical.choose_spec (fin_ex hp a ha)
theorem fin_01 {P : Nat} [NeZero P] (hp : Pr P) : (0 : Fin P) ≠ 1 := by
  intro q
  have h2 := hp.1
  have : (0 : Fin P).val = (1 : Fin P).val := by rw [q]
  have e1 : (1 : Fin P).val = 1 % P := rfl
  rw [e1, Nat.mod_eq_of_lt (by omega)] at this
  simp at this
theorem fin_inv_u {P : Nat} [NeZero P] (hp : Pr P) {a b : Fin P} (h : a * b = 1) : b = fin_inv hp a := by
  have ha : a ≠ 0 := by
    intro q
    rw [q] at h
    exact fin_01 hp (by rw [← h]; grind)
  have h1 := fin_invM hp ha
  grind
theorem fin_inv_inv {P : Nat} [NeZero P] (hp : Pr P) (a : Fin P) : fin_inv hp (fin_inv hp a) = a := by
  by_cases ha : a = 0
  · rw [ha, fin_inv0, fin_inv0]
  · have h1 := fin_invM hp ha
    exact (fin_inv_u hp (by rw [← h1]; grind)).symm
theorem fin_inv1 {P : Nat} [NeZero P] (hp : Pr P) : fin_inv hp 1 = 1 := (fin_inv_u hp (by grind)).symm
noncomputable def fin_zpow {P : Nat} [NeZero P] (hp : Pr P) (a : Fin P) : Int → Fin P
  | .ofNat n => a ^ n
  | .negSucc n => fin_inv hp (a ^ (n + 1))
noncomputable def fpF {P : Nat} [i : NeZero P] (hp : Pr P) : Lean.Grind.Field (Fin P) :=
  { (inferInstance : Lean.Grind.CommRing (Fin P)) with
    inv := fin_inv hp
    div := fun a b => a * fin_inv hp b
    zpow := ⟨fin_zpow hp⟩
    div_eq_mul_inv := fun _ _ => rfl
    zero_ne_one := fin_01 hp
    inv_zero := fin_inv0 hp
    mul_inv_cancel := fun h => fin_invM hp h
    zpow_zero := fun _ => rfl
    zpow_succ := fun _ _ => rfl
    zpow_neg := fun a n => by
      show fin_zpow hp a (-n) = fin_inv hp (fin_zpow hp a n)
      match n with
      | .ofNat 0 => exact (fin_inv1 hp).symm
      | .ofNat (k + 1) => rfl
      | .negSucc k => exact (fin_inv_inv hp _).symm }
end
