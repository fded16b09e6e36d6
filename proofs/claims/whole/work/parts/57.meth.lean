section
/-! open, sign, holds, holdsAll -/
theorem g_open {P : Nat} [NeZero P] (h : P3 P) (hP : P < 2 ^ 31) {N : Nat} (hN : 100000 ≤ N) {R H : Nat} (h0 : 3 ≤ R) (hR : R < 2 ^ 31) (hH : H < 2 ^ 63) {zS zpx zpy : Nat → Int64} {zip : Nat → Bool} (hS : SR P zS zpx zpy zip) (zx zy : Int64) (zi : Bool) (q0 q1 : Int32) : ∃ r tS ox oy oi px py ip, fX3_open N (lN P) (lN R) (ept (tT h H 1).1) zS q0 q1 = some (r, tS) ∧ fX4_open N (lN P) (lN R) (lN H) zx zy zi zpx zpy zip q0 q1 = some (r, ox, oy, oi, px, py, ip) ∧ SR P tS px py ip := by
  unfold fX3_open fX4_open
  rw [if_neg (lP0 hP)]
  rcases sl_c q0 with ⟨i, hi, -, a1, a2, a3, a4⟩ | ⟨a1, a2⟩
  case inr => simp only [a1, a2, ob, bif0, if_true]; exact ⟨_, _, _, _, _, _, _, _, rfl, rfl, hS⟩
  simp only [a1, a2, ob, bit0, if_false]
  rcases key_c h0 hR q1 with ⟨k, hk, b0, b1, b2⟩ | ⟨b1, b2⟩
  case inr => simp only [b1, b2, ob, bif0, if_true]; exact ⟨_, _, _, _, _, _, _, _, rfl, rfl, hS⟩
  simp only [b1, b2, ob, bit0, if_false]
  have on : eon (tT h H 1).1 := tn_on h H _ _ _
  obtain ⟨ox, oy, oi, e, m⟩ := m_turnOf h hP hN hH (K := 1) (by decide) zx zy zi
  have e' : fX4_turnOf N (lN P) (lN H) zx zy zi 1 = some (nI (tT h H 1).2, ox, oy, oi) := e
  obtain ⟨ux, uy, ui, e2, m2⟩ := m_take h hP hN (K := k) (by omega) on m
  rw [e', b0, c_multN h hP hN (k := k) (by omega) on]
  simp only [ob]
  rw [e2]
  simp only [ob]
  rw [m_store _ _ _ _ _ _ a3 a4, if_neg a3, a4]
  exact ⟨_, _, _, _, _, _, _, _, rfl, rfl, hS.upd i (em_on h on k) m2⟩
theorem g_sign {P : Nat} [NeZero P] (h : P3 P) (hP : P < 2 ^ 31) {N : Nat} (hN : 100000 ≤ N) {R H : Nat} (h0 : 3 ≤ R) (hR : R < 2 ^ 31) (hH : H < 2 ^ 63) {zS zpx zpy : Nat → Int64} {zip : Nat → Bool} (hS : SR P zS zpx zpy zip) (zt : Int32) (zx zy : Int64) (zi : Bool) (q0 q1 : Int32) (q2 : Int64) : ∃ r t tS ox oy oi px py ip, fX3_sign N (lN P) (lN R) (lN H) zt zS q0 q1 q2 = some (r, t, tS) ∧ fX4_sign N (lN P) (lN R) (lN H) zx zy zi zpx zpy zip q0 q1 q2 = some (r, ox, oy, oi, px, py, ip) ∧ SR P tS px py ip := by
  unfold fX3_sign fX4_sign
  rw [if_neg (lP0 hP)]
  rcases sl_c q0 with ⟨i, hi, -, a1, a2, a3, a4⟩ | ⟨a1, a2⟩
  case inr => simp only [a1, a2, ob, bif0, if_true]; exact ⟨_, _, _, _, _, _, _, _, _, rfl, rfl, hS⟩
  simp only [a1, a2, ob, bit0, if_false]
  rcases key_c h0 hR q1 with ⟨k, hk, b0, b1, b2⟩ | ⟨b1, b2⟩
  case inr => simp only [b1, b2, ob, bif0, if_true]; exact ⟨_, _, _, _, _, _, _, _, _, rfl, rfl, hS⟩
  simp only [b1, b2, ob, bit0, if_false]
  obtain ⟨K, hK, rfl⟩ := wb_of q2
  have on : eon (tT h H K).1 := tn_on h H _ _ _
  obtain ⟨ox, oy, oi, e, m⟩ := m_turnOf h hP hN hH hK zx zy zi
  obtain ⟨ux, uy, ui, e2, m2⟩ := m_take h hP hN (K := k) (by omega) on m
  rw [e, b0, c_turned h hP hN hH hK]
  simp only [ob]
  rw [e2, c_multN h hP hN (k := k) (by omega) on]
  simp only [ob]
  rw [m_store _ _ _ _ _ _ a3 a4, if_neg a3, a4]
  exact ⟨_, _, _, _, _, _, _, _, _, rfl, rfl, hS.upd i (em_on h on k) m2⟩
/-- the points in the slots -/
theorem SR.fn {P : Nat} [NeZero P] {zS zpx zpy : Nat → Int64} {zip : Nat → Bool} (hS : SR P zS zpx zpy zip) : ∃ S : Nat → Option (Fin P × Fin P), ∀ k, k < 16 → eon (S k) ∧ zS k = ept (S k) ∧ MR (S k) (zpx k) (zpy k) (zip k) := by
  have hS' : ∀ k, k < 16 → ∃ a : Option (Fin P × Fin P), eon a ∧ zS k = ept a ∧ MR a (zpx k) (zpy k) (zip k) := hS
  refine ⟨fun k => if h : k < 16 then Classical.choose (hS' k h) else none, fun k hk => ?_⟩
  simp only [dif_pos hk]
  exact Classical.choose_spec (hS' k hk)
def SF {P : Nat} [NeZero P] (S : Nat → Option (Fin P × Fin P)) (zS zpx zpy : Nat → Int64) (zip : Nat → Bool) : Prop := ∀ k, k < 16 → eon (S k) ∧ zS k = ept (S k) ∧ MR (S k) (zpx k) (zpy k) (zip k)
noncomputable def gd {P : Nat} [NeZero P] (h : P3 P) (R : Nat) (S : Nat → Option (Fin P × Fin P)) (i : Nat) : Bool := decide (S i ≠ none ∧ em h.1 R (S i) = none)
noncomputable def ga {P : Nat} [NeZero P] (h : P3 P) (R : Nat) (S : Nat → Option (Fin P × Fin P)) : Nat → Nat → Bool
  | 0, _ => true
  | d + 1, i => gd h R S i && ga h R S d (i + 1)
theorem ta_loop {P : Nat} [NeZero P] (h : P3 P) (hP : P < 2 ^ 31) {N : Nat} (hN : 100000 ≤ N) {R : Nat} (hR : R < 2 ^ 31) {S : Nat → Option (Fin P × Fin P)} {zS zpx zpy : Nat → Int64} {zip : Nat → Bool} (hS : SF S zS zpx zpy zip) {A B : Nat} (hE : A + B ≤ 16) : ∀ (d n i : Nat), i + d = A + B → d < n → fX1_takeAll_3 N (lN P) (lN R) zS (nI A) (nI B) n (nI i) = some (ga h R S d i)
  | 0, n + 1, i, e, _ => by
    unfold fX1_takeAll_3
    rw [nI_add, if_pos (nI_le (by omega) (by omega))]; rfl
  | d + 1, n + 1, i, e, hn => by
    unfold fX1_takeAll_3
    obtain ⟨s1, s2, s3⟩ := hS i (by omega)
    rw [nI_add, if_neg (nI_ge (by omega) (by omega)), if_neg (nI_in (by omega) (by decide)), nI_clamp (by omega), s2]
    rw [show ga h R S (d + 1) i = (gd h R S i && ga h R S d (i + 1)) from rfl, gd]
    by_cases z : S i = none
    · rw [if_pos ((ept_m1 hP _).mpr z), decide_eq_false (fun q => q.1 z)]; rfl
    · rw [if_neg (fun q => z ((ept_m1 hP _).mp q)), c_takes h hP hN hR s1, ob]
      by_cases t : em h.1 R (S i) = none
      · rw [decide_eq_true t, if_neg bt0, decide_eq_true ⟨z, t⟩, Bool.true_and]
        simp only [bnd]
        rw [nI_1, ta_loop h hP hN hR hS hE d n (i + 1) (by omega) (by omega)]
      · rw [decide_eq_false t, if_pos bf0, decide_eq_false (fun q => t q.2)]; rfl
noncomputable def pa {P : Nat} [NeZero P] (h : P3 P) (R hb H K A : Nat) (S : Nat → Option (Fin P × Fin P)) : Nat → Nat → Fin P × Fin P → Fin P × Fin P
  | 0, _, w => w
  | d + 1, i, w => pa h R hb H K A S d (i + 1) (wm w (ee h R hb (tT h H ((K + i) % 2 ^ 64)).1 (S (A + i))))
theorem txt (K i : Nat) (hi : i < 2 ^ 31) : lN K + (nI i).toInt64 = lN ((K + i) % 2 ^ 64) := by
  rw [nI_l hi, lN_add, ← wb_mod]
theorem ag_loop {P : Nat} [NeZero P] (h : P3 P) (hP : P < 2 ^ 31) {N : Nat} (hN : 100000 ≤ N) {R hb H : Nat} (hr : RB R hb) (hH : H < 2 ^ 63) {S : Nat → Option (Fin P × Fin P)} {zS zpx zpy : Nat → Int64} {zip : Nat → Bool} (hS : SF S zS zpx zpy zip) {A B : Nat} (hE : A + B ≤ 16) (u : Option (Fin P × Fin P)) (K : Nat) : ∀ (d n i : Nat) (w : Fin P × Fin P) (zt : Int32), i + d = B → d < n → ∃ t, fX1_agree_30 N (lN P) (lN R) (lN H) (ept (tT h H 1).1) zS (ept u) (nI A) (nI B) (lN K) n (ewd w) (nI i) zt = some (decide (ee h R hb u (tT h H 1).1 = pa h R hb H K A S d i w), t)
  | 0, n + 1, i, w, zt, e, _ => by
    unfold fX1_agree_30
    rw [if_pos (nI_le (by omega) (by omega)), c_of h hP hN hr, ob]
    show ∃ t, (if ewd (ee h R hb u (tT h H 1).1) = ewd w then some (true, zt) else some (false, zt)) = some (decide (ee h R hb u (tT h H 1).1 = w), t)
    by_cases z : ee h R hb u (tT h H 1).1 = w
    · rw [if_pos (by rw [z]), decide_eq_true z]; exact ⟨_, rfl⟩
    · rw [if_neg (fun q => z (ewd_inj hP q)), decide_eq_false z]; exact ⟨_, rfl⟩
  | d + 1, n + 1, i, w, zt, e, hn => by
    unfold fX1_agree_30
    obtain ⟨s1, s2, s3⟩ := hS (A + i) (by omega)
    rw [if_neg (nI_ge (by omega) (by omega)), txt K i (by omega), c_turned h hP hN hH (Nat.mod_lt _ (by decide))]
    simp only [ob]
    rw [nI_add, if_neg (nI_in (by omega) (by decide)), nI_clamp (by omega), s2, c_of h hP hN hr, ob, c_wm hP, ob]
    simp only [bnd]
    rw [nI_1]
    exact ag_loop h hP hN hr hH hS hE u K d n (i + 1) _ _ (by omega) (by omega)
theorem m_base {P : Nat} [NeZero P] (h : P3 P) (hP : P < 2 ^ 31) {N : Nat} (hN : 100000 ≤ N) {R hb H : Nat} (hr : RB R hb) (hH : H < 2 ^ 63) {zpx zpy : Nat → Int64} {zip : Nat → Bool} {k : Nat} (hk : k < 16) {u : Option (Fin P × Fin P)} (m : MR u (zpx k) (zpy k) (zip k)) (zx zy zu zv : Int64) (zi : Bool) (zl : Int32) : ∃ ox oy oi ol, fX4_pairWithBase N (lN P) (lN R) (lN H) zx zy zi zu zv zl zpx zpy zip (nI k) = some (ox, oy, oi, lv (ee h R hb u (tT h H 1).1).1, lv (ee h R hb u (tT h H 1).1).2, ol) := by
  unfold fX4_pairWithBase
  obtain ⟨ox, oy, oi, e, m1⟩ := m_turnOf h hP hN hH (K := 1) (by decide) zx zy zi
  have e' : fX4_turnOf N (lN P) (lN H) zx zy zi 1 = some (nI (tT h H 1).2, ox, oy, oi) := e
  rw [e']
  simp only [ob]
  obtain ⟨x3, y3, i3, e3⟩ := m_pairOf h hP hN hr m m1 ox oy zu zv oi zl
  rw [if_neg (nI_in hk (by decide)), nI_clamp (by omega), e3]
  exact ⟨_, _, _, _, rfl⟩
theorem m_pturn {P : Nat} [NeZero P] (h : P3 P) (hP : P < 2 ^ 31) {N : Nat} (hN : 100000 ≤ N) {R hb H : Nat} (hr : RB R hb) (hH : H < 2 ^ 63) {zpx zpy : Nat → Int64} {zip : Nat → Bool} {k : Nat} (hk : k < 16) {u : Option (Fin P × Fin P)} (m : MR u (zpx k) (zpy k) (zip k)) {K : Nat} (hK : K < 2 ^ 64) (zx zy zu zv : Int64) (zi : Bool) (zl : Int32) : ∃ ox oy oi ol, fX4_pairTurned N (lN P) (lN R) (lN H) zx zy zi zu zv zl zpx zpy zip (lN K) (nI k) = some (ox, oy, oi, lv (ee h R hb (tT h H K).1 u).1, lv (ee h R hb (tT h H K).1 u).2, ol) := by
  unfold fX4_pairTurned
  obtain ⟨ox, oy, oi, e, m1⟩ := m_turnOf h hP hN hH hK zx zy zi
  rw [e]
  simp only [ob]
  obtain ⟨x3, y3, i3, e3⟩ := m_pairOf h hP hN hr m1 m ox oy zu zv oi zl
  rw [if_neg (nI_in hk (by decide)), nI_clamp (by omega), e3]
  exact ⟨_, _, _, _, rfl⟩
theorem two_if {P : Nat} (hP : P < 2 ^ 31) {α : Type} (a b : Fin P × Fin P) (x y : α) : (if lv a.1 = lv b.1 then if lv a.2 = lv b.2 then x else y else y) = if a = b then x else y := by
  by_cases z : a = b
  · rw [if_pos z, if_pos (by rw [z]), if_pos (by rw [z])]
  · rw [if_neg z]
    by_cases z1 : lv a.1 = lv b.1
    · rw [if_pos z1]
      by_cases z2 : lv a.2 = lv b.2
      · exact absurd (Prod.ext ((lv_eq hP).mp z1) ((lv_eq hP).mp z2)) z
      · rw [if_neg z2]
    · rw [if_neg z1]
theorem ha_loop {P : Nat} [NeZero P] (h : P3 P) (hP : P < 2 ^ 31) {N : Nat} (hN : 100000 ≤ N) {R hb H : Nat} (hr : RB R hb) (hH : H < 2 ^ 63) {S : Nat → Option (Fin P × Fin P)} {zS zpx zpy : Nat → Int64} {zip : Nat → Bool} (hS : SF S zS zpx zpy zip) {A B k : Nat} (hE : A + B ≤ 16) (hk : k < 16) (K : Nat) : ∀ (d n i : Nat) (w : Fin P × Fin P) (zx zy zu zv : Int64) (zi : Bool) (zl : Int32), i + d = B → d < n → ∃ ox oy oi ou ov ol, fX4_holdsAll_124 N (lN P) (lN R) (lN H) zpx zpy zip (nI A) (nI B) (lN K) (nI k) n (lv w.1) (lv w.2) (nI i) zx zy zi zu zv zl = some (if ee h R hb (S k) (tT h H 1).1 = pa h R hb H K A S d i w then 1 else 0, ox, oy, oi, ou, ov, ol)
  | 0, n + 1, i, w, zx, zy, zu, zv, zi, zl, e, _ => by
    unfold fX4_holdsAll_124
    obtain ⟨s1, s2, s3⟩ := hS k hk
    obtain ⟨ox, oy, oi, ol, e1⟩ := m_base h hP hN hr hH hk s3 zx zy zu zv zi zl
    rw [if_pos (nI_le (by omega) (by omega)), e1]
    simp only [ob]
    rw [two_if hP]
    show ∃ ox' oy' oi' ou ov ol', (if ee h R hb (S k) (tT h H 1).1 = w then _ else _) = some (if ee h R hb (S k) (tT h H 1).1 = w then 1 else 0, ox', oy', oi', ou, ov, ol')
    by_cases z : ee h R hb (S k) (tT h H 1).1 = w
    · rw [if_pos z, if_pos z]; exact ⟨_, _, _, _, _, _, rfl⟩
    · rw [if_neg z, if_neg z]; exact ⟨_, _, _, _, _, _, rfl⟩
  | d + 1, n + 1, i, w, zx, zy, zu, zv, zi, zl, e, hn => by
    unfold fX4_holdsAll_124
    obtain ⟨s1, s2, s3⟩ := hS (A + i) (by omega)
    obtain ⟨ox, oy, oi, ol, e1⟩ := m_pturn h hP hN hr hH (show A + i < 16 by omega) s3 (K := (K + i) % 2 ^ 64) (Nat.mod_lt _ (by decide)) zx zy zu zv zi zl
    rw [if_neg (nI_ge (by omega) (by omega)), txt K i (by omega), nI_add, e1]
    simp only [ob]
    rw [m_wm hP]
    simp only [ob, bnd]
    rw [nI_1, w_ab.2.2.2.1 _ w trivial trivial]
    exact ha_loop h hP hN hr hH hS hE hk K d n (i + 1) _ _ _ _ _ _ _ (by omega) (by omega)
theorem hf_loop {P : Nat} [NeZero P] (h : P3 P) (hP : P < 2 ^ 31) {N : Nat} (hN : 100000 ≤ N) {R hb H : Nat} (hr : RB R hb) {S : Nat → Option (Fin P × Fin P)} {zS zpx zpy : Nat → Int64} {zip : Nat → Bool} (hS : SF S zS zpx zpy zip) {A B k : Nat} (hE : A + B ≤ 16) (K : Nat) (zu zv : Int64) (zl : Int32) : ∀ (d n i : Nat) (f : Bool) (zx zy : Int64) (zi : Bool), i + d = B → d < n → ∃ ox oy oi, fX4_holdsAll_61 N (lN P) (lN R) (lN H) zpx zpy zip (nI A) (nI B) (lN K) (nI k) n f (nI i) zx zy zi zu zv zl = if (f && ga h R S d (A + i)) = true then fX4_holdsAll_124 N (lN P) (lN R) (lN H) zpx zpy zip (nI A) (nI B) (lN K) (nI k) N 1 0 0 ox oy oi zu zv zl else some (0, ox, oy, oi, zu, zv, zl)
  | 0, n + 1, i, f, zx, zy, zi, e, _ => by
    unfold fX4_holdsAll_61
    rw [if_pos (nI_le (by omega) (by omega))]
    cases f
    · rw [if_pos bf0]; exact ⟨_, _, _, rfl⟩
    · rw [if_neg bt0]; exact ⟨_, _, _, rfl⟩
  | d + 1, n + 1, i, f, zx, zy, zi, e, hn => by
    unfold fX4_holdsAll_61
    rw [if_neg (nI_ge (by omega) (by omega))]
    rw [show ga h R S (d + 1) (A + i) = (gd h R S (A + i) && ga h R S d (A + (i + 1))) from rfl]
    simp only [bnd]
    cases f
    · rw [if_pos bf0, nI_1, Bool.false_and]
      exact hf_loop h hP hN hr hS hE K zu zv zl d n (i + 1) false zx zy zi (by omega) (by omega)
    · rw [if_neg bt0, nI_1, nI_add, Bool.true_and]
      obtain ⟨s1, s2, s3⟩ := hS (A + i) (by omega)
      have i3 : ¬ (nI (A + i) < 0 ∨ 16 ≤ (nI (A + i)).toNatClampNeg) := nI_in (by omega) (by decide)
      have i4 : (nI (A + i)).toNatClampNeg = A + i := nI_clamp (by omega)
      obtain ⟨x1, y1, i1, e1⟩ := g_takes (zS := zS) h hP hN hr.2.1 zx zy zi i3 i4 s1 s3
      rw [e1]
      simp only [ob]
      by_cases t : em h.1 R (S (A + i)) = none
      · rw [decide_eq_true t, if_neg bt0, if_neg i3, i4]
        by_cases z : S (A + i) = none
        · rw [if_pos ((MR_bI s3).mpr z), gd, decide_eq_false (fun q => q.1 z)]
          exact hf_loop h hP hN hr hS hE K zu zv zl d n (i + 1) false x1 y1 i1 (by omega) (by omega)
        · rw [if_neg (fun q => z ((MR_bI s3).mp q)), gd, decide_eq_true ⟨z, t⟩]
          exact hf_loop h hP hN hr hS hE K zu zv zl d n (i + 1) true x1 y1 i1 (by omega) (by omega)
      · rw [decide_eq_false t, if_pos bf0, gd, decide_eq_false (fun q => t q.2)]
        exact hf_loop h hP hN hr hS hE K zu zv zl d n (i + 1) false x1 y1 i1 (by omega) (by omega)
end
