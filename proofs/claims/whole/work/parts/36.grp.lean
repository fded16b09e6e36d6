section
/-- an abelian group on the elements with S, by its laws -/
def Ab {α : Type} (op : α → α → α) (e : α) (S : α → Prop) : Prop := S e ∧ (∀ a b, S a → S b → S (op a b)) ∧ (∀ a b c, S a → S b → S c → op (op a b) c = op a (op b c)) ∧ (∀ a b, S a → S b → op a b = op b a) ∧ (∀ a, S a → op e a = a)
theorem Ab.gS {α : Type} {op : α → α → α} {e : α} {S : α → Prop} (h : Ab op e S) {g : α} (hg : S g) (n : Nat) : S (gp op e n g) := gp_S h.1 h.2.1 hg n
theorem Ab.add {α : Type} {op : α → α → α} {e : α} {S : α → Prop} (h : Ab op e S) {g : α} (hg : S g) (n : Nat) : ∀ m, gp op e (m + n) g = op (gp op e m g) (gp op e n g)
  | 0 => by rw [Nat.zero_add]; exact (h.2.2.2.2 _ (h.gS hg n)).symm
  | m + 1 => by
    rw [Nat.succ_add]
    show op g (gp op e (m + n) g) = op (op g (gp op e m g)) (gp op e n g)
    rw [h.add hg n m, h.2.2.1 _ _ _ hg (h.gS hg m) (h.gS hg n)]
theorem Ab.zero {α : Type} {op : α → α → α} {e : α} {S : α → Prop} (h : Ab op e S) : ∀ n, gp op e n e = e
  | 0 => rfl
  | n + 1 => by show op e (gp op e n e) = e; rw [h.zero n, h.2.2.2.2 _ h.1]
theorem Ab.one {α : Type} {op : α → α → α} {e : α} {S : α → Prop} (h : Ab op e S) {g : α} (hg : S g) : gp op e 1 g = g := by
  show op g e = g
  rw [h.2.2.2.1 _ _ hg h.1, h.2.2.2.2 _ hg]
theorem Ab.swap {α : Type} {op : α → α → α} {e : α} {S : α → Prop} (h : Ab op e S) {a b c d : α} (ha : S a) (hb : S b) (hc : S c) (hd : S d) : op (op a b) (op c d) = op (op a c) (op b d) := by
  obtain ⟨-, h1, h2, h3, -⟩ := h
  rw [h2 a b _ ha hb (h1 _ _ hc hd), h2 a c _ ha hc (h1 _ _ hb hd), ← h2 b c d hb hc hd, h3 b c hb hc, h2 c b d hc hb hd]
theorem Ab.dist {α : Type} {op : α → α → α} {e : α} {S : α → Prop} (h : Ab op e S) {a b : α} (ha : S a) (hb : S b) : ∀ n, gp op e n (op a b) = op (gp op e n a) (gp op e n b)
  | 0 => (h.2.2.2.2 _ h.1).symm
  | n + 1 => by
    show op (op a b) (gp op e n (op a b)) = op (op a (gp op e n a)) (op b (gp op e n b))
    rw [h.dist ha hb n, h.swap ha hb (h.gS ha n) (h.gS hb n)]
theorem Ab.dbl {α : Type} {op : α → α → α} {e : α} {S : α → Prop} (h : Ab op e S) {g : α} (hg : S g) (n : Nat) : gp op e n (op g g) = gp op e (2 * n) g := by
  rw [h.dist hg hg n, ← h.add hg n n, Nat.two_mul]
theorem Ab.mulz {α : Type} {op : α → α → α} {e : α} {S : α → Prop} (h : Ab op e S) {g : α} (hg : S g) {n : Nat} (hn : gp op e n g = e) : ∀ t, gp op e (t * n) g = e
  | 0 => by rw [Nat.zero_mul]; rfl
  | t + 1 => by rw [Nat.succ_mul, h.add hg, hn, h.mulz hg hn t, h.2.2.2.2 _ h.1]
theorem Ab.modz {α : Type} {op : α → α → α} {e : α} {S : α → Prop} (h : Ab op e S) {g : α} (hg : S g) {n : Nat} (hn : gp op e n g = e) (k : Nat) : gp op e (k % n) g = gp op e k g := by
  have h1 := h.add hg (k % n) (k / n * n)
  rw [Nat.div_add_mod' k n, h.mulz hg hn, h.2.2.2.2 _ (h.gS hg _)] at h1
  exact h1.symm
theorem Ab.cancel {α : Type} {op : α → α → α} {e : α} {S : α → Prop} (h : Ab op e S) {a b c : α} (ha : S a) (hb : S b) (hc : S c) (h1 : op a c = e) (h2 : op b c = e) : a = b := by
  have k : op (op a c) b = op a (op b c) := by rw [h.2.2.1 a c b ha hc hb, h.2.2.2.1 c b hc hb]
  rw [h1, h2, h.2.2.2.2 _ hb, h.2.2.2.1 a e ha h.1, h.2.2.2.2 _ ha] at k
  exact k.symm
end
section
theorem fpow_val {P : Nat} [NeZero P] (hp : Pr P) (a : Fin P) : ∀ n : Nat, (a ^ n).val = a.val ^ n % P
  | 0 => rfl
  | n + 1 => by
    have h : a ^ (n + 1) = a ^ n * a := rfl
    rw [h, Fin.val_mul, fpow_val hp a n, Nat.mod_mul_mod, Nat.pow_succ]
theorem fpow_sq {P : Nat} [NeZero P] (a : Fin P) : ∀ n : Nat, a ^ (2 * n) = (a * a) ^ n
  | 0 => rfl
  | n + 1 => by
    have h : a ^ (2 * n + 1 + 1) = a ^ (2 * n) * a * a := rfl
    have h2 : (a * a) ^ (n + 1) = (a * a) ^ n * (a * a) := rfl
    rw [show 2 * (n + 1) = 2 * n + 1 + 1 by omega, h, h2, fpow_sq a n]
    grind
theorem fpow_odd {P : Nat} [NeZero P] {w : Fin P} (h : w * w = 1) : ∀ n : Nat, w ^ (2 * n + 1) = w := by
  intro n
  have h1 : w ^ (2 * n + 1) = w ^ (2 * n) * w := rfl
  rw [h1, fpow_sq, h]
  have : ∀ n : Nat, (1 : Fin P) ^ n = 1 := by
    intro n
    induction n with
    | zero => rfl
    | succ n ih =>
      have : (1 : Fin P) ^ (n + 1) = (1 : Fin P) ^ n * 1 := rfl
      rw [this, ih]; grind
  rw [this]
  grind
theorem ffermat {P : Nat} [NeZero P] (hp : Pr P) {a : Fin P} (ha : a ≠ 0) : a ^ (P - 1) = 1 := by
  have h0 : 0 < a.val := Nat.pos_of_ne_zero fun q => ha (Fin.ext (by rw [q]; simp))
  refine Fin.ext ?_
  rw [fpow_val hp, fermat hp h0 a.isLt]
  show 1 = 1 % P
  exact (Nat.mod_eq_of_lt (by have := hp.1; omega)).symm
/-- a prime with rest 3 by 4 -/
def P3 (P : Nat) : Prop := Pr P ∧ P % 4 = 3
theorem f_two {P : Nat} [NeZero P] (h : P3 P) : (2 : Fin P) ≠ 0 := by
  intro q
  have h3 := h.2
  have : (2 : Fin P).val = 0 := by rw [q]; rfl
  have e1 : (2 : Fin P).val = 2 % P := rfl
  rw [e1, Nat.mod_eq_of_lt (by omega)] at this
  omega
theorem f_mz {P : Nat} [NeZero P] (hp : Pr P) {a b : Fin P} (h : a * b = 0) : a = 0 ∨ b = 0 := by
  by_cases ha : a = 0
  · exact Or.inl ha
  · have h1 := fin_invM hp ha
    right
    grind
theorem f_nsq {P : Nat} [NeZero P] (h : P3 P) (z : Fin P) : z * z + 1 ≠ 0 := by
  intro q
  have hz : z ≠ 0 := by
    intro q2
    rw [q2] at q
    exact fin_01 h.1 (by grind)
  have h1 := ffermat h.1 hz
  obtain ⟨k, hk⟩ : ∃ k, P - 1 = 2 * (2 * k + 1) := ⟨P / 4, by have := h.2; omega⟩
  rw [hk, fpow_sq, fpow_odd (by grind)] at h1
  have : (2 : Fin P) = 0 := by grind
  exact f_two h this
/-- the power that is a root wherever there is one -/
def rt {P : Nat} [NeZero P] (a : Fin P) : Fin P := a ^ ((P + 1) / 4)
theorem rt_or {P : Nat} [NeZero P] (h : P3 P) (a : Fin P) : rt a * rt a = a ∨ rt a * rt a = -a := by
  by_cases ha : a = 0
  · left
    subst ha
    have : rt (0 : Fin P) = 0 := by
      unfold rt
      obtain ⟨k, hk⟩ : ∃ k, (P + 1) / 4 = k + 1 := ⟨P / 4, by have := h.2; omega⟩
      rw [hk]
      have : (0 : Fin P) ^ (k + 1) = (0 : Fin P) ^ k * 0 := rfl
      rw [this]; grind
    rw [this]; grind
  · have h1 := ffermat h.1 ha
    obtain ⟨k, hk⟩ : ∃ k, P = 4 * k + 3 := ⟨P / 4, by have := h.2; omega⟩
    have e1 : (P + 1) / 4 = k + 1 := by omega
    have e2 : P - 1 = 2 * (2 * k + 1) := by omega
    have e3 : rt a * rt a = a * a ^ (2 * k + 1) := by
      unfold rt
      rw [e1]
      have s1 : a ^ (k + 1) = a ^ k * a := rfl
      have s2 : a ^ (2 * k + 1) = a ^ (2 * k) * a := rfl
      have s3 : ∀ n : Nat, (a * a) ^ n = a ^ n * a ^ n := by
        intro n
        induction n with
        | zero => show (1 : Fin P) = 1 * 1; grind
        | succ n ih =>
          have t1 : (a * a) ^ (n + 1) = (a * a) ^ n * (a * a) := rfl
          have t2 : a ^ (n + 1) = a ^ n * a := rfl
          rw [t1, t2, ih]; grind
      rw [s1, s2, fpow_sq, s3]
      grind
    have e4 : a ^ (2 * k + 1) * a ^ (2 * k + 1) = 1 := by
      rw [e2, fpow_sq] at h1
      have s3 : ∀ n : Nat, (a * a) ^ n = a ^ n * a ^ n := by
        intro n
        induction n with
        | zero => show (1 : Fin P) = 1 * 1; grind
        | succ n ih =>
          have t1 : (a * a) ^ (n + 1) = (a * a) ^ n * (a * a) := rfl
          have t2 : a ^ (n + 1) = a ^ n * a := rfl
          rw [t1, t2, ih]; grind
      rw [s3] at h1
      exact h1
    generalize a ^ (2 * k + 1) = c at e3 e4
    have e5 : (c - 1) * (c + 1) = 0 := by grind
    rcases f_mz h.1 e5 with q | q
    · left; rw [e3]; grind
    · right; rw [e3]; grind
theorem rt_sq {P : Nat} [NeZero P] (h : P3 P) (b : Fin P) : rt (b * b) * rt (b * b) = b * b := by
  rcases rt_or h (b * b) with q | q
  · exact q
  · by_cases hb : b = 0
    · rw [q, hb]; grind
    · exfalso
      have hi := fin_invM h.1 hb
      exact f_nsq h (rt (b * b) * fin_inv h.1 b) (by grind)
end
