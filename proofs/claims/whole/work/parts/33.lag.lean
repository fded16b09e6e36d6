section
/-- g taken n times -/
def gp {α : Type} (op : α → α → α) (e : α) : Nat → α → α
  | 0, _ => e
  | n + 1, g => op g (gp op e n g)
theorem gp_S {α : Type} {op : α → α → α} {e : α} {S : α → Prop} (he : S e) (hc : ∀ a b, S a → S b → S (op a b)) {g : α} (hg : S g) : ∀ n, S (gp op e n g)
  | 0 => he
  | n + 1 => hc _ _ hg (gp_S he hc hg n)
theorem lag_map {α : Type} {op : α → α → α} {e : α} {S : α → Prop} (he : S e) (hc : ∀ a b, S a → S b → S (op a b)) (has : ∀ a b c, S a → S b → S c → op (op a b) c = op a (op b c)) (hcm : ∀ a b, S a → S b → op a b = op b a) (hid : ∀ a, S a → op e a = a) {g : α} (hg : S g) : ∀ l : List α, (∀ x ∈ l, S x) → S (l.foldr op e) ∧ (l.map (op g)).foldr op e = op (gp op e l.length g) (l.foldr op e)
  | [], _ => ⟨he, (hid e he).symm⟩
  | x :: l, h => by
    obtain ⟨h1, h2⟩ := lag_map he hc has hcm hid hg l (fun y hy => h y (List.mem_cons_of_mem _ hy))
    have hx := h x List.mem_cons_self
    have hn := gp_S he hc hg l.length
    refine ⟨hc _ _ hx h1, ?_⟩
    show op (op g x) ((l.map (op g)).foldr op e) = op (op g (gp op e l.length g)) (op x (l.foldr op e))
    rw [h2, has g x _ hg hx (hc _ _ hn h1), has g _ _ hg hn (hc _ _ hx h1), ← has x _ _ hx hn h1, hcm x _ hx hn, has _ x _ hn hx h1]
theorem lag_fold {α : Type} {op : α → α → α} {e : α} {S : α → Prop} (he : S e) (hc : ∀ a b, S a → S b → S (op a b)) (f : α → α → α) (hf : ∀ a z, S z → f a z = op a z) : ∀ l : List α, (∀ x ∈ l, S x) → l.foldr f e = l.foldr op e ∧ S (l.foldr op e)
  | [], _ => ⟨rfl, he⟩
  | x :: l, h => by
    obtain ⟨h1, h2⟩ := lag_fold he hc f hf l (fun y hy => h y (List.mem_cons_of_mem _ hy))
    refine ⟨?_, hc _ _ (h x List.mem_cons_self) h2⟩
    show f x (l.foldr f e) = op x (l.foldr op e)
    rw [h1, hf _ _ h2]
theorem lag {α : Type} {op : α → α → α} {e : α} {S : α → Prop} (he : S e) (hc : ∀ a b, S a → S b → S (op a b)) (has : ∀ a b c, S a → S b → S c → op (op a b) c = op a (op b c)) (hcm : ∀ a b, S a → S b → op a b = op b a) (hid : ∀ a, S a → op e a = a) (hinv : ∀ a, S a → ∃ b, S b ∧ op b a = e) (L : List α) (hnd : L.Nodup) (hm : ∀ x, x ∈ L ↔ S x) {g : α} (hg : S g) : gp op e L.length g = e := by
  obtain ⟨h1, h2⟩ := lag_map he hc has hcm hid hg L (fun x hx => (hm x).mp hx)
  obtain ⟨gi, hgi, hge⟩ := hinv g hg
  have hmap : ∀ x, x ∈ L.map (op g) → S x := by
    intro x hx
    obtain ⟨y, hy, rfl⟩ := List.mem_map.mp hx
    exact hc _ _ hg ((hm y).mp hy)
  have hperm : (L.map (op g)).Perm L := by
    refine (List.perm_ext_iff_of_nodup ?_ hnd).mpr (fun x => ?_)
    · refine List.pairwise_map.mpr (List.Pairwise.imp_of_mem ?_ hnd)
      intro a b ha hb hab hq
      have ha := (hm a).mp ha
      have hb := (hm b).mp hb
      apply hab
      rw [← hid a ha, ← hid b hb, ← hge, has gi g a hgi hg ha, has gi g b hgi hg hb, hq]
    · constructor
      · intro hx
        exact (hm _).mpr (hmap x hx)
      · intro hx
        have hx := (hm x).mp hx
        rw [List.mem_map]
        refine ⟨op gi x, (hm _).mpr (hc _ _ hgi hx), ?_⟩
        rw [← has g gi x hg hgi hx, hcm g gi hg hgi, hge, hid x hx]
  have h3 : (L.map (op g)).foldr op e = L.foldr op e := by
    obtain ⟨f, hf1, hf2⟩ : ∃ f : α → α → α, (∀ a z, S z → f a z = op a z) ∧ (∀ a z, ¬ S z → f a z = z) := by
      classical
      exact ⟨fun a z => if S z then op a z else z, fun a z h => if_pos h, fun a z h => if_neg h⟩
    rw [← (lag_fold he hc f hf1 _ hmap).1, ← (lag_fold he hc f hf1 L (fun x hx => (hm x).mp hx)).1]
    refine hperm.foldr_eq' (fun x hx y hy z => ?_) e
    have hx := hmap x hx
    have hy := hmap y hy
    by_cases hz : S z
    · rw [hf1 x z hz, hf1 y z hz, hf1 _ _ (hc _ _ hx hz), hf1 _ _ (hc _ _ hy hz), ← has y x z hy hx hz, ← has x y z hx hy hz, hcm x y hx hy]
    · rw [hf2 x z hz, hf2 y z hz, hf2 x z hz]
  rw [h2] at h3
  obtain ⟨fi, hfi, hfe⟩ := hinv _ h1
  have hn := gp_S he hc hg L.length
  have h4 : op (op (gp op e L.length g) (L.foldr op e)) fi = op (L.foldr op e) fi := by rw [h3]
  rw [has _ _ _ hn h1 hfi, hcm _ fi h1 hfi, hfe, hcm _ e hn he, hid _ hn] at h4
  exact h4
end
