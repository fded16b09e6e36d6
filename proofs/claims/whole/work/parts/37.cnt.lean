section
noncomputable def eadd {P : Nat} [NeZero P] (hp : Pr P) (a b : Option (Fin P × Fin P)) : Option (Fin P × Fin P) := @ec_add (Fin P) (fpF hp) _ a b
def eon {P : Nat} [NeZero P] : Option (Fin P × Fin P) → Prop
  | none => True
  | some (x, y) => y * y = x * x * x + x
theorem eon_iff {P : Nat} [NeZero P] (hp : Pr P) (a : Option (Fin P × Fin P)) : eon a ↔ @ec_on (Fin P) (fpF hp) a := by
  match a with
  | none => exact Iff.rfl
  | some (x, y) => exact Iff.rfl
theorem e_ce {P : Nat} [NeZero P] (h : P3 P) : ∃ c e : Fin P, e * e = 1 ∧ c * c = 2 * e := by
  rcases rt_or h 2 with q | q
  · exact ⟨rt 2, 1, by grind, by grind⟩
  · exact ⟨rt 2, -1, by grind, by grind⟩
theorem e_cl {P : Nat} [NeZero P] (h : P3 P) {a b : Option (Fin P × Fin P)} (ha : eon a) (hb : eon b) : eon (eadd h.1 a b) :=
  (eon_iff h.1 _).mpr (@ec_cl (Fin P) (fpF h.1) _ (f_two h) a b ((eon_iff h.1 a).mp ha) ((eon_iff h.1 b).mp hb))
theorem e_assoc {P : Nat} [NeZero P] (h : P3 P) {a b d : Option (Fin P × Fin P)} (ha : eon a) (hb : eon b) (hd : eon d) : eadd h.1 (eadd h.1 a b) d = eadd h.1 a (eadd h.1 b d) := by
  obtain ⟨c, e, he, hc⟩ := e_ce h
  exact @ec_assoc (Fin P) (fpF h.1) _ (f_two h) (f_nsq h) c e he hc a b d ((eon_iff h.1 a).mp ha) ((eon_iff h.1 b).mp hb) ((eon_iff h.1 d).mp hd)
theorem e_comm {P : Nat} [NeZero P] (h : P3 P) {a b : Option (Fin P × Fin P)} (ha : eon a) (hb : eon b) : eadd h.1 a b = eadd h.1 b a := by
  obtain ⟨c, e, he, hc⟩ := e_ce h
  exact @ec_comm (Fin P) (fpF h.1) _ (f_two h) (f_nsq h) c e he hc a b ((eon_iff h.1 a).mp ha) ((eon_iff h.1 b).mp hb)
theorem eadd_none {P : Nat} [NeZero P] (hp : Pr P) (a : Option (Fin P × Fin P)) : eadd hp none a = a := rfl
theorem e_ab {P : Nat} [NeZero P] (h : P3 P) : Ab (eadd h.1) none eon :=
  ⟨trivial, fun _ _ ha hb => e_cl h ha hb, fun _ _ _ ha hb hd => e_assoc h ha hb hd, fun _ _ ha hb => e_comm h ha hb, fun a _ => eadd_none h.1 a⟩
def eneg {P : Nat} [NeZero P] : Option (Fin P × Fin P) → Option (Fin P × Fin P)
  | none => none
  | some (x, y) => some (x, -y)
theorem eneg_on {P : Nat} [NeZero P] {a : Option (Fin P × Fin P)} (ha : eon a) : eon (eneg a) := by
  match a, ha with
  | none, _ => exact trivial
  | some (x, y), ha =>
    have ha : y * y = x * x * x + x := ha
    show -y * -y = x * x * x + x
    grind
theorem eneg_add {P : Nat} [NeZero P] (hp : Pr P) (a : Option (Fin P × Fin P)) : eadd hp (eneg a) a = none := by
  match a with
  | none => rfl
  | some (x, y) =>
    show @ec_add (Fin P) (fpF hp) _ (some (x, -y)) (some (x, y)) = none
    rw [@ec_add_ss (Fin P) (fpF hp)]
    exact if_pos ⟨rfl, show -y + y = 0 by grind⟩
/-- the even root -/
def er {P : Nat} [NeZero P] (a : Fin P) : Option (Fin P) := if rt a * rt a = a then some (if (rt a).val % 2 = 0 then rt a else -rt a) else none
theorem fneg_val {P : Nat} [NeZero P] {a : Fin P} (ha : a ≠ 0) : (-a).val = P - a.val := by
  have h0 : 0 < a.val := Nat.pos_of_ne_zero fun q => ha (Fin.ext (by rw [q]; simp))
  rw [Fin.neg_def]
  show (P - a.val) % P = P - a.val
  exact Nat.mod_eq_of_lt (by have := a.isLt; omega)
theorem er_even {P : Nat} [NeZero P] (h : P3 P) {a y : Fin P} (hy : er a = some y) : y * y = a ∧ y.val % 2 = 0 := by
  unfold er at hy
  by_cases q : rt a * rt a = a
  · rw [if_pos q] at hy
    by_cases q2 : (rt a).val % 2 = 0
    · rw [if_pos q2] at hy
      cases hy
      exact ⟨q, q2⟩
    · rw [if_neg q2] at hy
      cases hy
      refine ⟨by grind, ?_⟩
      have hne : rt a ≠ 0 := by
        intro z
        rw [z] at q2
        exact q2 (by simp)
      rw [fneg_val hne]
      have := h.2
      have := (rt a).isLt
      omega
  · rw [if_neg q] at hy
    cases hy
theorem er_sq {P : Nat} [NeZero P] (h : P3 P) (y : Fin P) : ∃ z, er (y * y) = some z := by
  unfold er
  rw [if_pos (rt_sq h y)]
  exact ⟨_, rfl⟩
theorem er_u {P : Nat} [NeZero P] (h : P3 P) {a y z : Fin P} (hy : y * y = a) (he : y.val % 2 = 0) (hz : er a = some z) : z = y := by
  obtain ⟨h1, h2⟩ := er_even h hz
  have k : (z - y) * (z + y) = 0 := by grind
  rcases f_mz h.1 k with q | q
  · grind
  · have e1 : z = -y := by grind
    by_cases hy0 : y = 0
    · rw [e1, hy0]; grind
    · have := fneg_val hy0
      rw [← e1] at this
      have := h.2
      have := y.isLt
      omega
theorem er_none {P : Nat} [NeZero P] (h : P3 P) {a : Fin P} (hz : er a = none) : ∃ z, er (-a) = some z := by
  unfold er at hz
  by_cases q : rt a * rt a = a
  · rw [if_pos q] at hz; cases hz
  · have q2 := (rt_or h a).resolve_left q
    obtain ⟨z, hz⟩ := er_sq h (rt a)
    rw [q2] at hz
    exact ⟨z, hz⟩
theorem er_both {P : Nat} [NeZero P] (h : P3 P) {a y z : Fin P} (ha : a ≠ 0) (h1 : er a = some y) (h2 : er (-a) = some z) : False := by
  have k1 := (er_even h h1).1
  have k2 := (er_even h h2).1
  have hy : y ≠ 0 := by
    intro q
    apply ha
    rw [← k1, q]; grind
  have hi := fin_invM h.1 hy
  exact f_nsq h (z * fin_inv h.1 y) (by grind)
/-- a point for each number -/
def gpt {P : Nat} [NeZero P] (x : Fin P) : Option (Fin P × Fin P) :=
  match er (x * x * x + x) with
  | some y => some (x, y)
  | none => match er (-(x * x * x + x)) with
    | some y => some (-x, -y)
    | none => none
theorem cub0 {P : Nat} [NeZero P] (h : P3 P) {x : Fin P} (hx : x ≠ 0) : x * x * x + x ≠ 0 := by
  intro q
  have : x * (x * x + 1) = 0 := by grind
  rcases f_mz h.1 this with k | k
  · exact hx k
  · exact f_nsq h x k
theorem gpt_cases {P : Nat} [NeZero P] (h : P3 P) (x : Fin P) : (∃ y, er (x * x * x + x) = some y ∧ gpt x = some (x, y)) ∨ (x ≠ 0 ∧ er (x * x * x + x) = none ∧ ∃ y, er (-(x * x * x + x)) = some y ∧ y ≠ 0 ∧ gpt x = some (-x, -y)) := by
  unfold gpt
  cases hq : er (x * x * x + x) with
  | some y => exact Or.inl ⟨y, rfl, rfl⟩
  | none =>
    right
    obtain ⟨y, hy⟩ := er_none h hq
    have hx : x ≠ 0 := by
      intro z
      rw [z] at hq
      obtain ⟨w, hw⟩ := er_sq h (0 : Fin P)
      rw [show (0 : Fin P) * 0 * 0 + 0 = 0 * 0 by grind, hw] at hq
      cases hq
    refine ⟨hx, rfl, y, hy, ?_, by rw [hy]⟩
    intro z
    have := (er_even h hy).1
    exact cub0 h hx (by rw [z] at this; grind)
theorem gpt_on {P : Nat} [NeZero P] (h : P3 P) (x : Fin P) : eon (gpt x) := by
  rcases gpt_cases h x with ⟨y, h1, h2⟩ | ⟨hx, -, y, h1, -, h2⟩
  · rw [h2]
    exact (er_even h h1).1
  · rw [h2]
    have := (er_even h h1).1
    show -y * -y = -x * -x * -x + -x
    grind
theorem gpt_ne {P : Nat} [NeZero P] (h : P3 P) (x : Fin P) : gpt x ≠ none := by
  rcases gpt_cases h x with ⟨y, h1, h2⟩ | ⟨hx, -, y, h1, -, h2⟩ <;> rw [h2] <;> exact fun q => by cases q
theorem gpt_inj {P : Nat} [NeZero P] (h : P3 P) {x z : Fin P} (hq : gpt x = gpt z) : x = z := by
  have odd : ∀ {a b y w : Fin P}, er a = some y → er b = some w → w ≠ 0 → y = -w → False := by
    intro a b y w h1 h2 hw e
    have k1 := (er_even h h1).2
    have k2 := (er_even h h2).2
    have := fneg_val hw
    rw [← e] at this
    have := h.2
    have := w.isLt
    omega
  rcases gpt_cases h x with ⟨y, h1, h2⟩ | ⟨hx, -, y, h1, hy, h2⟩ <;> rcases gpt_cases h z with ⟨w, k1, k2⟩ | ⟨hz, -, w, k1, hw, k2⟩ <;> rw [h2, k2] at hq
  · cases hq; rfl
  · have e1 : x = -z := congrArg (fun q => (q.getD (0, 0)).1) hq
    have e2 : y = -w := congrArg (fun q => (q.getD (0, 0)).2) hq
    exact (odd h1 k1 hw e2).elim
  · have e2 : -y = w := congrArg (fun q => (q.getD (0, 0)).2) hq
    exact (odd k1 h1 hy e2.symm).elim
  · have e1 : -x = -z := congrArg (fun q => (q.getD (0, 0)).1) hq
    grind
theorem gpt_sur {P : Nat} [NeZero P] (h : P3 P) {x y : Fin P} (hy : y * y = x * x * x + x) : ∃ z, gpt z = some (x, y) := by
  obtain ⟨w, hw⟩ := er_sq h y
  rw [hy] at hw
  by_cases he : y.val % 2 = 0
  · refine ⟨x, ?_⟩
    have := er_u h hy he hw
    unfold gpt
    rw [hw, this]
  · have hy0 : y ≠ 0 := by
      intro q
      rw [q] at he
      exact he (by simp)
    have hne : (-y).val % 2 = 0 := by
      rw [fneg_val hy0]
      have := h.2
      have := y.isLt
      omega
    have hwy := er_u h (show -y * -y = x * x * x + x by grind) hne hw
    have hc0 : x * x * x + x ≠ 0 := by
      intro q
      rw [q] at hy
      rcases f_mz h.1 hy with k | k <;> exact hy0 k
    refine ⟨-x, ?_⟩
    have e1 : -x * -x * -x + -x = -(x * x * x + x) := by grind
    have e2 : er (-(x * x * x + x)) = none := by
      cases hq : er (-(x * x * x + x)) with
      | none => rfl
      | some v => exact (er_both h hc0 hw hq).elim
    unfold gpt
    rw [e1, e2]
    have e3 : -(-(x * x * x + x)) = x * x * x + x := by grind
    have e4 : - -x = x := by grind
    have e5 : - -y = y := by grind
    rw [e3, hw, hwy, e4]
    show some (x, - -y) = some (x, y)
    rw [e5]
/-- p + 1 times any point is nowhere -/
theorem e_lag {P : Nat} [NeZero P] (h : P3 P) {g : Option (Fin P × Fin P)} (hg : eon g) : gp (eadd h.1) none (P + 1) g = none := by
  have hA := e_ab h
  have k := lag hA.1 hA.2.1 hA.2.2.1 hA.2.2.2.1 hA.2.2.2.2 (fun a ha => ⟨eneg a, eneg_on ha, eneg_add h.1 a⟩) (none :: (List.finRange P).map gpt) ?_ ?_ hg
  · rw [List.length_cons, List.length_map, List.length_finRange] at k
    exact k
  · refine List.nodup_cons.mpr ⟨?_, ?_⟩
    · intro q
      obtain ⟨x, -, hx⟩ := List.mem_map.mp q
      exact gpt_ne h x hx
    · refine List.pairwise_map.mpr (List.Pairwise.imp ?_ (List.nodup_finRange P))
      intro a b hab hq
      exact hab (gpt_inj h hq)
  · intro x
    constructor
    · intro hx
      rcases List.mem_cons.mp hx with q | q
      · rw [q]; exact trivial
      · obtain ⟨z, -, rfl⟩ := List.mem_map.mp q
        exact gpt_on h z
    · intro hx
      match x, hx with
      | none, _ => exact List.mem_cons_self
      | some (x, y), hx =>
        obtain ⟨z, hz⟩ := gpt_sur h hx
        exact List.mem_cons_of_mem _ (List.mem_map.mpr ⟨z, List.mem_finRange z, hz⟩)
end
