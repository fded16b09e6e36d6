section
/-! arguments: slots, values, halves, numbers of the field, keys; the cells of both sides -/
theorem bit0 : (bI true = 0) = False := by decide
theorem bif0 : (bI false = 0) = True := by decide
theorem bt0 : ¬ bI true = 0 := by decide
theorem bf0 : bI false = 0 := by decide
theorem sl_ix (q : Int32) {n : Nat} (hn : n < 2 ^ 31) : (∃ i, i < n ∧ q = nI i) ∨ q < 0 ∨ nI n ≤ q := by
  rcases pk_ix q hn with h | h | h
  · exact .inr (.inl h)
  · exact .inr (.inr h)
  · exact .inl h
theorem in_d (q : Int32) (a c : Int64) : fX4_in q.toInt64 a c = some (decide (a.toInt ≤ q.toInt ∧ q.toInt ≤ c.toInt)) := by
  unfold fX4_in
  have e := Int32.toInt_toInt64 q
  by_cases h1 : q.toInt64 < a
  · rw [if_pos h1]; rw [Int64.lt_iff_toInt_lt, e] at h1
    rw [decide_eq_false (by omega)]
  · rw [if_neg h1]; rw [Int64.lt_iff_toInt_lt, e] at h1
    by_cases h2 : c < q.toInt64
    · rw [if_pos h2]; rw [Int64.lt_iff_toInt_lt, e] at h2
      rw [decide_eq_false (by omega)]
    · rw [if_neg h2]; rw [Int64.lt_iff_toInt_lt, e] at h2
      rw [decide_eq_true (by omega)]
theorem sl_c (q : Int32) : (∃ i, i < 16 ∧ q = nI i ∧ fX3_isSlot q = some true ∧ fX4_isSlot q = some true ∧ ¬ (q < 0 ∨ 16 ≤ q.toNatClampNeg) ∧ q.toNatClampNeg = i) ∨ (fX3_isSlot q = some false ∧ fX4_isSlot q = some false) := by
  unfold fX3_isSlot fX4_isSlot
  rw [in_d, ob]
  rcases sl_ix q (n := 16) (by decide) with ⟨i, hi, rfl⟩ | h | h
  · refine .inl ⟨i, hi, rfl, ?_, ?_, nI_in hi (by decide), nI_clamp (by omega)⟩
    · rw [if_neg (nI_pos (by omega)), if_neg]
      exact nI_ge (b := 16) hi (by decide)
    · have : (nI i).toInt = i := nI_toInt (by omega)
      have e0 : (0 : Int64).toInt = 0 := by decide
      have e1 : (15 : Int64).toInt = 15 := by decide
      rw [decide_eq_true (by omega)]
  · refine .inr ⟨if_pos h, ?_⟩
    rw [Int32.lt_iff_toInt_lt] at h
    have e0 : (0 : Int64).toInt = 0 := by decide
    have e2 : (0 : Int32).toInt = 0 := by decide
    rw [decide_eq_false (by omega)]
  · have h' := h
    rw [Int32.le_iff_toInt_le] at h
    have e0 : (0 : Int32).toInt = 0 := by decide
    have e1 : (15 : Int64).toInt = 15 := by decide
    have e2 : (nI 16).toInt = 16 := by decide
    refine .inr ⟨?_, by rw [decide_eq_false (by omega)]⟩
    rw [if_neg (by rw [Int32.lt_iff_toInt_lt]; omega)]; exact if_pos h'
theorem vl_c (q : Int32) : (∃ i, i < 8 ∧ q = nI i ∧ fX3_isValue q = some true ∧ fX4_isValue q = some true ∧ ¬ (q < 0 ∨ 8 ≤ q.toNatClampNeg) ∧ q.toNatClampNeg = i) ∨ (fX3_isValue q = some false ∧ fX4_isValue q = some false) := by
  unfold fX3_isValue fX4_isValue
  rw [in_d, ob]
  rcases sl_ix q (n := 8) (by decide) with ⟨i, hi, rfl⟩ | h | h
  · refine .inl ⟨i, hi, rfl, ?_, ?_, nI_in hi (by decide), nI_clamp (by omega)⟩
    · rw [if_neg (nI_pos (by omega)), if_neg]
      exact nI_ge (b := 8) hi (by decide)
    · have : (nI i).toInt = i := nI_toInt (by omega)
      have e0 : (0 : Int64).toInt = 0 := by decide
      have e1 : (7 : Int64).toInt = 7 := by decide
      rw [decide_eq_true (by omega)]
  · refine .inr ⟨if_pos h, ?_⟩
    rw [Int32.lt_iff_toInt_lt] at h
    have e0 : (0 : Int64).toInt = 0 := by decide
    have e2 : (0 : Int32).toInt = 0 := by decide
    rw [decide_eq_false (by omega)]
  · have h' := h
    rw [Int32.le_iff_toInt_le] at h
    have e0 : (0 : Int32).toInt = 0 := by decide
    have e1 : (7 : Int64).toInt = 7 := by decide
    have e2 : (nI 8).toInt = 8 := by decide
    refine .inr ⟨?_, by rw [decide_eq_false (by omega)]⟩
    rw [if_neg (by rw [Int32.lt_iff_toInt_lt]; omega)]; exact if_pos h'
theorem hf_c (q : Int32) : (fX3_isHalf q = some true ∧ fX4_in q.toInt64 0 1 = some true) ∨ (fX3_isHalf q = some false ∧ fX4_in q.toInt64 0 1 = some false) := by
  unfold fX3_isHalf
  rw [in_d]
  have e0 : (0 : Int64).toInt = 0 := by decide
  have e1 : (1 : Int64).toInt = 1 := by decide
  by_cases h0 : q = 0
  · subst h0; exact .inl ⟨if_pos (by decide), by decide⟩
  by_cases h1 : q = 1
  · subst h1; exact .inl ⟨by decide, by decide⟩
  refine .inr ⟨by rw [if_neg h0, if_neg h1], ?_⟩
  have n0 : ¬ q.toInt = 0 := fun z => h0 (Int32.toInt_inj.mp z)
  have n1 : ¬ q.toInt = 1 := fun z => h1 (Int32.toInt_inj.mp z)
  rw [decide_eq_false (by omega)]
theorem lN_m1 {P : Nat} (h0 : 0 < P) (hP : P < 2 ^ 31) : (lN P - 1).toInt = (P : Int) - 1 := by
  rw [l1, lN_sub (by omega), pk_lT (by omega)]; omega
theorem has_c {P : Nat} [NeZero P] (hP : P < 2 ^ 31) (q : Int32) : (∃ x : Fin P, q.toInt64 = lv x ∧ fX2_has (lN P) q = some true ∧ fX4_in q.toInt64 0 (lN P - 1) = some true) ∨ (fX2_has (lN P) q = some false ∧ fX4_in q.toInt64 0 (lN P - 1) = some false) := by
  have p0 : 0 < P := Nat.pos_of_ne_zero (NeZero.ne P)
  unfold fX2_has
  rw [in_d, lN_m1 p0 hP]
  have e0 : (0 : Int64).toInt = 0 := by decide
  have e2 : (0 : Int32).toInt = 0 := by decide
  by_cases h0 : q < 0
  · refine .inr ⟨if_pos h0, ?_⟩
    rw [Int32.lt_iff_toInt_lt] at h0
    rw [decide_eq_false (by omega)]
  · obtain ⟨j, hj, rfl⟩ := nI_of h0
    have ej : (nI j).toInt = j := nI_toInt hj
    rw [if_neg h0, nI_l hj, ej]
    by_cases h1 : j < P
    · refine .inl ⟨⟨j, h1⟩, rfl, ?_, by rw [decide_eq_true (by omega)]⟩
      rw [if_neg (by rw [pk_lLE (by omega) (by omega)]; omega)]
    · refine .inr ⟨?_, by rw [decide_eq_false (by omega)]⟩
      rw [if_pos (by rw [pk_lLE (by omega) (by omega)]; omega)]
theorem key_c {R : Nat} (h0 : 3 ≤ R) (hR : R < 2 ^ 31) (q : Int32) : (∃ k, k < 2 ^ 31 ∧ q.toInt64 = lN k ∧ fX0_isKey (lN R) q = some true ∧ fX4_in q.toInt64 1 (lN R - 1) = some true) ∨ (fX0_isKey (lN R) q = some false ∧ fX4_in q.toInt64 1 (lN R - 1) = some false) := by
  unfold fX0_isKey
  rw [in_d, lN_m1 (by omega) hR]
  have e0 : (1 : Int64).toInt = 1 := by decide
  have e2 : (1 : Int32).toInt = 1 := by decide
  have e3 : (0 : Int32).toInt = 0 := by decide
  by_cases h1 : q < 1
  · refine .inr ⟨if_pos h1, ?_⟩
    rw [Int32.lt_iff_toInt_lt] at h1
    rw [decide_eq_false (by omega)]
  · rw [if_neg h1]
    rw [Int32.lt_iff_toInt_lt] at h1
    obtain ⟨j, hj, rfl⟩ := nI_of (x := q) (by rw [Int32.lt_iff_toInt_lt]; omega)
    have ej : (nI j).toInt = j := nI_toInt hj
    rw [nI_l hj, ej]
    by_cases h2 : j < R
    · refine .inl ⟨j, hj, rfl, ?_, by rw [decide_eq_true (by omega)]⟩
      rw [if_neg (by rw [pk_lLE (by omega) (by omega)]; omega)]
    · refine .inr ⟨?_, by rw [decide_eq_false (by omega)]⟩
      rw [if_pos (by rw [pk_lLE (by omega) (by omega)]; omega)]
/-- a slot of both sides -/
def sr (P : Nat) [NeZero P] (s x y : Int64) (i : Bool) : Prop := ∃ a : Option (Fin P × Fin P), eon a ∧ s = ept a ∧ MR a x y i
def SR (P : Nat) [NeZero P] (zS zpx zpy : Nat → Int64) (zip : Nat → Bool) : Prop := ∀ k, k < 16 → sr P (zS k) (zpx k) (zpy k) (zip k)
def VR (P : Nat) [NeZero P] (zV zvu zvv : Nat → Int64) : Prop := ∀ k, k < 8 → ∃ w : Fin P × Fin P, zV k = ewd w ∧ zvu k = lv w.1 ∧ zvv k = lv w.2
theorem SR.upd {P : Nat} [NeZero P] {zS zpx zpy : Nat → Int64} {zip : Nat → Bool} (h : SR P zS zpx zpy zip) (k : Nat) {a : Option (Fin P × Fin P)} {x y : Int64} {i : Bool} (ha : eon a) (hm : MR a x y i) : SR P (vp_updL zS k (ept a)) (vp_updL zpx k x) (vp_updL zpy k y) (uB zip k i) := by
  intro j hj
  by_cases e : j = k
  · simp only [vp_updL, uB, if_pos e]; exact ⟨a, ha, rfl, hm⟩
  · simp only [vp_updL, uB, if_neg e]; exact h j hj
theorem SR.nil {P : Nat} [NeZero P] {zS zpx zpy : Nat → Int64} {zip : Nat → Bool} (h : SR P zS zpx zpy zip) (k : Nat) : SR P (vp_updL zS k (-1)) zpx zpy (uB zip k false) := by
  intro j hj
  by_cases e : j = k
  · simp only [vp_updL, uB, if_pos e]; exact ⟨none, trivial, rfl, rfl⟩
  · simp only [vp_updL, uB, if_neg e]; exact h j hj
theorem VR.upd {P : Nat} [NeZero P] {zV zvu zvv : Nat → Int64} (h : VR P zV zvu zvv) (k : Nat) (w : Fin P × Fin P) : VR P (vp_updL zV k (ewd w)) (vp_updL zvu k (lv w.1)) (vp_updL zvv k (lv w.2)) := by
  intro j hj
  by_cases e : j = k
  · simp only [vp_updL, if_pos e]; exact ⟨w, rfl, rfl, rfl⟩
  · simp only [vp_updL, if_neg e]; exact h j hj
theorem upd_at (f : Nat → Int64) (k : Nat) (v : Int64) : vp_updL f k v k = v := if_pos rfl
theorem em_neg {P : Nat} [NeZero P] (h : P3 P) {a : Option (Fin P × Fin P)} (ha : eon a) {z : Int} {K : Nat} (hz : z = -(K : Int)) : em h.1 (z % ((P : Int) + 1)).toNat a = em h.1 K (eneg a) := by
  have A := e_ab h
  refine A.cancel (c := em h.1 K a) (em_on h ha _) (em_on h (eneg_on ha) _) (em_on h ha _) ?_ ?_
  · have hm : ((z % ((P : Int) + 1)).toNat + K) % (P + 1) = 0 := by
      have e1 : (z % ((P : Int) + 1) + (K : Int)) % ((P : Int) + 1) = 0 := by
        rw [Int.emod_add_emod, hz]
        rw [show -(K : Int) + (K : Int) = 0 by omega]
        exact Int.zero_emod _
      have e2 := Int.emod_nonneg z (b := (P : Int) + 1) (by omega)
      have e3 : (((z % ((P : Int) + 1)).toNat + K : Nat) : Int) = z % ((P : Int) + 1) + (K : Int) := by omega
      have e4 : ((((z % ((P : Int) + 1)).toNat + K) % (P + 1) : Nat) : Int) = 0 := by
        rw [Int.natCast_emod, e3]
        exact e1
      omega
    show eadd h.1 (gp (eadd h.1) none _ a) (gp (eadd h.1) none K a) = none
    rw [← A.add ha K, ← A.modz ha (e_lag h ha), hm]
    rfl
  · show eadd h.1 (gp (eadd h.1) none K (eneg a)) (gp (eadd h.1) none K a) = none
    rw [← A.dist (eneg_on ha) ha K, eneg_add]
    exact A.zero K
end
