/-! base: the environment's words, pure and effectful contracts, calls and branches -/
def bI (b : Bool) : Int32 := if b then 1 else 0
def uB (f : Nat → Bool) (k : Nat) (b : Bool) : Nat → Bool := fun j => if j = k then b else f j
theorem nar_bI (b : Bool) : vp_nar .boolean (bI b) = bI b := by cases b <;> rfl
theorem narv_bI (b : Bool) : narrow .boolean (.int (bI b)) = .int (bI b) := by cases b <;> rfl
theorem fits_bI (b : Bool) : fits .boolean (.int (bI b)) = true := by cases b <;> rfl
theorem upd_bI (f : Nat → Bool) (k : Nat) (b : Bool) : upd (fun i => bI (f i)) k (vp_nar .boolean (bI b)) = fun i => bI (uB f k b i) := by
  funext j
  simp only [upd, uB, nar_bI]
  split <;> rfl
abbrev tyJZ (cJ cZ : ClassId) : List (ClassId × FieldType) := [(cJ, .long), (cZ, .boolean)]
def nw (U : State) : Prop := va_Nw (.methodLinkNest RX0 67 yX3_joined RX3) U ∧ va_Nw (.methodLinkNest RX0 42 yX3_upper RX3) U ∧ va_Nw (.methodLinkNest RX0 45 yX3_lower RX3) U ∧ va_Nw (.methodLinkNest RX1 44 yX3_joined RX3) U ∧ va_Nw (.methodLinkNest RX1 32 yX3_upper RX3) U ∧ va_Nw (.methodLinkNest RX1 36 yX3_lower RX3) U
def EV (D : va_G) (cJ cZ : ClassId) (U : State) : Prop := va_K D vwCl (tyJZ cJ cZ) U ∧ nw U
theorem EV.warm {D : va_G} {cJ cZ : ClassId} {s U : State} (h : EV D cJ cZ s) (hW : s.WarmedH U.vm) : EV D cJ cZ U :=
  ⟨va_K.moved hW.alike h.1, va_Nw.warmM hW h.2.1, va_Nw.warmM hW h.2.2.1, va_Nw.warmM hW h.2.2.2.1, va_Nw.warmM hW h.2.2.2.2.1, va_Nw.warmM hW h.2.2.2.2.2.1, va_Nw.warmM hW h.2.2.2.2.2.2⟩
theorem EV.calling {D : va_G} {cJ cZ : ClassId} {U : State} (g : JFrame) (mk : MethodId) (a : Array Value) (h : EV D cJ cZ U) : EV D cJ cZ (U.calling g mk a) :=
  ⟨va_K.moved (u := U) (U := U.calling g mk a) (Vm.Alike.refl U.vm) h.1, va_Nw.same rfl rfl h.2.1, va_Nw.same rfl rfl h.2.2.1, va_Nw.same rfl rfl h.2.2.2.1, va_Nw.same rfl rfl h.2.2.2.2.1, va_Nw.same rfl rfl h.2.2.2.2.2.1, va_Nw.same rfl rfl h.2.2.2.2.2.2⟩
def PP (D : va_G) (cJ cZ : ClassId) (av : List Value) (w : va_W) : Array Value → State → Prop := va_Pc av (fun U => va_P D vwCl w U.heap ∧ EV D cJ cZ U)
theorem PP.blind {D : va_G} {cJ cZ : ClassId} {av : List Value} {w : va_W} : FrameBlind (PP D cJ cZ av w) := fun a U g mk h => ⟨h.1, h.2.1, h.2.2.calling g mk a⟩
def SL (r : Int64) : Array Value → State → Outcome → State → Prop := vp_Sl (fun r' => r' = r)
def SI (r : Int32) : Array Value → State → Outcome → State → Prop := vp_Si (fun r' => r' = r)
def PE (D : va_G) (cJ cZ : ClassId) (av : List Value) (w : va_W) (sz : Nat) : Array Value → State → Prop := va_Pc av (fun U => U.heap.size = sz ∧ va_P D vwCl w U.heap ∧ EV D cJ cZ U ∧ va_D (fun _ => True) w)
theorem PE.blind {D : va_G} {cJ cZ : ClassId} {av : List Value} {w : va_W} {sz : Nat} : FrameBlind (PE D cJ cZ av w sz) := fun a U g mk h => ⟨h.1, h.2.1, h.2.2.1, h.2.2.2.1.calling g mk a, h.2.2.2.2⟩
def QE (D : va_G) (o : Option Value) (w1 : va_W) (A : Nat → Prop) : Array Value → State → Outcome → State → Prop := fun _ st oc t => (oc = .returned o ∧ va_P D vwCl w1 t.heap ∧ va_D A w1) ∧ va_F A st t
def QX (D : va_G) {S : Type} (o : S → Option Value) (w1 : S → va_W) (A : Nat → Prop) : Array Value → State → Outcome → State → Prop := fun _ st oc t => (∃ u : S, oc = .returned (o u) ∧ va_P D vwCl (w1 u) t.heap ∧ va_D A (w1 u)) ∧ va_F A st t
theorem bind_s {α β : Type} {x : Option α} {k : α → Option β} {r : β} (h : x.bind k = some r) : ∃ a, x = some a ∧ k a = some r := by
  cases x with
  | none => cases h
  | some a => exact ⟨a, rfl, h⟩
theorem ite_t {α : Type} {c : Prop} [Decidable c] {a b r : α} (hc : c) (h : (if c then a else b) = r) : a = r := by rw [if_pos hc] at h; exact h
theorem ite_f {α : Type} {c : Prop} [Decidable c] {a b r : α} (hc : ¬ c) (h : (if c then a else b) = r) : b = r := by rw [if_neg hc] at h; exact h
theorem ite_n {α : Type} {c : Prop} [Decidable c] {a : Option α} {r : α} (h : (if c then none else a) = some r) : ¬ c ∧ a = some r := by
  by_cases hc : c
  · rw [if_pos hc] at h; cases h
  · rw [if_neg hc] at h; exact ⟨hc, h⟩
section
variable {p : Program} {l : Launch} {e : Env} {R : Room} {s : State} {m : MethodId} {args : Array Value} {below : List Frame} {meth : Method} {c : Code} {H : Heap} {locs : List Loc} {cells slots : Nat} {Q : State → Prop}
variable {y : MethodName} {bytes cc : ByteArray} {maxL nL n index pc : Nat} {ret : Option FieldType} {ws ws' : List Cond} {rm : Room} {Ts : List Cond} {own C host : String} {b : Addr} {As rest st0 : List Value} {ls : Array Slot} {D : va_G} {cJ cZ : ClassId} {wc : va_W} {lv : List (Nat × Value)}
abbrev KN (y : MethodName) (n : Nat) : Prop := y.cls ≠ "java/lang/invoke/MethodHandle" ∧ y.cls ≠ "java/lang/invoke/VarHandle" ∧ (parseMethodDescriptor y.desc).map (fun d => d.parameters.length) = some n
abbrev KR (rm R : Room) (maxL : Nat) : Prop := rm.frames + 1 ≤ R.frames ∧ 8 + (maxL + 11) + rm.locals ≤ R.locals
/-- a pure callee, by invokevirtual -/
theorem kV {Qa : Array Value → State → Outcome → State → Prop} {q : vw_C} {fs : List Value} (S : CallFix p m c cc nL s args Ts own) (hM : Met l y ws rm (PP D cJ cZ (.ref b :: As) wc) Qa 0 0 (fun _ => False)) (hG : GoodIn Ts (wsV own index y.cls y ws)) (hw : ws = Cond.code y bytes maxL ret :: ws') (hrm : rm.cells = 0 ∧ rm.slots = 0) (hd : KN y n) (hR : KR rm R maxL) (ci q0 : Nat) (hc : vwCl[ci]? = some q) (hq : q.1 = y.cls) (he : wc[q0]? = some (b, .inr (ci, fs))) (hP : va_P D vwCl wc H) (hE : EV D cJ cZ s) (hl : lv_has ls nL lv) (hn : As.length = n) (hst : st0 = As.reverse ++ .ref b :: rest) (hroom : (rest.map fun v => v.category).sum ≤ 8) (hdg : decode cc pc = .ok (.invokevirtual index, 3)) (hcl : cells ≤ R.cells) (hsl : slots ≤ R.slots) : CallRun p l e R s m args below meth c H locs cells slots 0 0 (F0 m pc ls st0) rest (Qa (Value.ref b :: As).toArray) (fun _ => False) :=
  va_Run.run (va_runV (C := y.cls) S hM (cwV n S.2.2.2.2 hG hw hrm.1 hrm.2 ⟨rfl, hd⟩ hR) ⟨PP.blind, by rw [← hq]; exact va_recv hE.1 hP hc he, fun U hU hW => ⟨rfl, by rw [hU]; exact hP, hE.warm hW⟩⟩ rfl hn hl.1 hst (lv_room hroom) hdg ⟨hcl, hsl⟩)
/-- a pure callee, by invokestatic -/
theorem kS {Qa : Array Value → State → Outcome → State → Prop} (S : CallFix p m c cc nL s args Ts own) (hM : Met l y ws rm (PP D cJ cZ As wc) Qa 0 0 (fun _ => False)) (hG : GoodIn Ts (va_wsS own index y ws)) (hw : ws = Cond.code y bytes maxL ret :: ws') (hrm : rm.cells = 0 ∧ rm.slots = 0) (hd : KN y n) (hR : KR rm R maxL) (hP : va_P D vwCl wc H) (hE : EV D cJ cZ s) (hl : lv_has ls nL lv) (hn : As.length = n) (hst : st0 = As.reverse ++ rest) (hroom : (rest.map fun v => v.category).sum ≤ 8) (hdg : decode cc pc = .ok (.invokestatic index, 3)) (hcl : cells ≤ R.cells) (hsl : slots ≤ R.slots) : CallRun p l e R s m args below meth c H locs cells slots 0 0 (F0 m pc ls st0) rest (Qa As.toArray) (fun _ => False) :=
  va_Run.run (va_runS S hM (va_cwS n S.2.2.2.2 hG hw hrm.1 hrm.2 hd hR) ⟨PP.blind, fun U hU hW => ⟨rfl, by rw [hU]; exact hP, hE.warm hW⟩⟩ rfl hn hl.1 hst (lv_room hroom) hdg ⟨hcl, hsl⟩)
/-- a pure callee that is a nest mate's private static -/
theorem kN {Qa : Array Value → State → Outcome → State → Prop} (S : CallFix p m c cc nL s args Ts own) (hM : Met l y ws rm (PP D cJ cZ As wc) Qa 0 0 (fun _ => False)) (hG : GoodIn Ts ws) (hw : ws = Cond.code y bytes maxL ret :: ws') (hrm : rm.cells = 0 ∧ rm.slots = 0) (hnw : va_Nw (.methodLinkNest own index y host) s) (hini : (Cond.initialized y.cls).before args s = true) (hstat : (Cond.static y).before args s = true) (hd : KN y n) (hR : KR rm R maxL) (hP : va_P D vwCl wc H) (hE : EV D cJ cZ s) (hl : lv_has ls nL lv) (hn : As.length = n) (hst : st0 = As.reverse ++ rest) (hroom : (rest.map fun v => v.category).sum ≤ 8) (hdg : decode cc pc = .ok (.invokestatic index, 3)) (hcl : cells ≤ R.cells) (hsl : slots ≤ R.slots) : CallRun p l e R s m args below meth c H locs cells slots 0 0 (F0 m pc ls st0) rest (Qa As.toArray) (fun _ => False) :=
  va_Run.run (va_runSN S hM ⟨va_cnB n S.2.2.2.2 hG hw hrm.1 hrm.2 hnw hini hd hR, hstat, trivial⟩ ⟨PP.blind, fun U hU hW => ⟨rfl, by rw [hU]; exact hP, hE.warm hW⟩⟩ rfl hn hl.1 hst (lv_room hroom) hdg ⟨hcl, hsl⟩)
/-- behind a pure call: the answer is the callee's -/
theorem kl {r : Int64} {a : Array Value} (hr : CallRun p l e R s m args below meth c H locs cells slots 0 0 (F0 m pc ls st0) rest (SL r a) (fun _ => False)) (kk : W p l e R s m args below meth c H locs cells slots Q (F0 m (pc + 3) ls (.long r :: rest))) : W p l e R s m args below meth c H locs cells slots Q (F0 m pc ls st0) :=
  vp_callSl hr (fun r' h => by rw [h]; exact kk)
theorem ki {r : Int32} {a : Array Value} (hr : CallRun p l e R s m args below meth c H locs cells slots 0 0 (F0 m pc ls st0) rest (SI r a) (fun _ => False)) (kk : W p l e R s m args below meth c H locs cells slots Q (F0 m (pc + 3) ls (.int r :: rest))) : W p l e R s m args below meth c H locs cells slots Q (F0 m pc ls st0) :=
  vp_callSi hr (fun r' h => by rw [h]; exact kk)
/-- lcmp and the branch behind it -/
theorem lc_lt (hx : p.tables.exec = Jvm.exec) (hb : c.code = cc) {x z : Int64} {off : Int} {tgt : Nat} (d1 : decode cc pc = .ok (.lcmp, 1)) (d2 : decode cc (pc + 1) = .ok (.ifCond .lt off, 3)) (ht : ((pc + 1 : Nat) : Int) + off = (tgt : Int)) (kt : x < z → W p l e R s m args below meth c H locs cells slots Q (F0 m tgt ls rest)) (kf : ¬ x < z → W p l e R s m args below meth c H locs cells slots Q (F0 m (pc + 4) ls rest)) : W p l e R s m args below meth c H locs cells slots Q (F0 m pc ls (.long z :: .long x :: rest)) :=
  W.lcmp hx hb d1 (lv_if_lt hx hb d2 ht (fun h => kt ((lg_cmp_lt x z).mp h)) (fun h => kf (fun q => h ((lg_cmp_lt x z).mpr q))))
theorem lc_le (hx : p.tables.exec = Jvm.exec) (hb : c.code = cc) {x z : Int64} {off : Int} {tgt : Nat} (d1 : decode cc pc = .ok (.lcmp, 1)) (d2 : decode cc (pc + 1) = .ok (.ifCond .le off, 3)) (ht : ((pc + 1 : Nat) : Int) + off = (tgt : Int)) (kt : x ≤ z → W p l e R s m args below meth c H locs cells slots Q (F0 m tgt ls rest)) (kf : ¬ x ≤ z → W p l e R s m args below meth c H locs cells slots Q (F0 m (pc + 4) ls rest)) : W p l e R s m args below meth c H locs cells slots Q (F0 m pc ls (.long z :: .long x :: rest)) :=
  W.lcmp hx hb d1 (lv_if_le hx hb d2 ht (fun h => kt ((lg_cmp_le x z).mp h)) (fun h => kf (fun q => h ((lg_cmp_le x z).mpr q))))
theorem lc_gt (hx : p.tables.exec = Jvm.exec) (hb : c.code = cc) {x z : Int64} {off : Int} {tgt : Nat} (d1 : decode cc pc = .ok (.lcmp, 1)) (d2 : decode cc (pc + 1) = .ok (.ifCond .gt off, 3)) (ht : ((pc + 1 : Nat) : Int) + off = (tgt : Int)) (kt : z < x → W p l e R s m args below meth c H locs cells slots Q (F0 m tgt ls rest)) (kf : ¬ z < x → W p l e R s m args below meth c H locs cells slots Q (F0 m (pc + 4) ls rest)) : W p l e R s m args below meth c H locs cells slots Q (F0 m pc ls (.long z :: .long x :: rest)) :=
  W.lcmp hx hb d1 (lv_if_gt hx hb d2 ht (fun h => kt ((lg_cmp_gt x z).mp h)) (fun h => kf (fun q => h ((lg_cmp_gt x z).mpr q))))
theorem lc_ge (hx : p.tables.exec = Jvm.exec) (hb : c.code = cc) {x z : Int64} {off : Int} {tgt : Nat} (d1 : decode cc pc = .ok (.lcmp, 1)) (d2 : decode cc (pc + 1) = .ok (.ifCond .ge off, 3)) (ht : ((pc + 1 : Nat) : Int) + off = (tgt : Int)) (kt : z ≤ x → W p l e R s m args below meth c H locs cells slots Q (F0 m tgt ls rest)) (kf : ¬ z ≤ x → W p l e R s m args below meth c H locs cells slots Q (F0 m (pc + 4) ls rest)) : W p l e R s m args below meth c H locs cells slots Q (F0 m pc ls (.long z :: .long x :: rest)) :=
  W.lcmp hx hb d1 (lv_if_ge hx hb d2 ht (fun h => kt ((lg_cmp_ge x z).mp h)) (fun h => kf (fun q => h ((lg_cmp_ge x z).mpr q))))
theorem lc_eq (hx : p.tables.exec = Jvm.exec) (hb : c.code = cc) {x z : Int64} {off : Int} {tgt : Nat} (d1 : decode cc pc = .ok (.lcmp, 1)) (d2 : decode cc (pc + 1) = .ok (.ifCond .eq off, 3)) (ht : ((pc + 1 : Nat) : Int) + off = (tgt : Int)) (kt : x = z → W p l e R s m args below meth c H locs cells slots Q (F0 m tgt ls rest)) (kf : ¬ x = z → W p l e R s m args below meth c H locs cells slots Q (F0 m (pc + 4) ls rest)) : W p l e R s m args below meth c H locs cells slots Q (F0 m pc ls (.long z :: .long x :: rest)) :=
  W.lcmp hx hb d1 (lv_if_eq hx hb d2 ht (fun h => kt ((lg_cmp_eq x z).mp h)) (fun h => kf (fun q => h ((lg_cmp_eq x z).mpr q))))
theorem lc_ne (hx : p.tables.exec = Jvm.exec) (hb : c.code = cc) {x z : Int64} {off : Int} {tgt : Nat} (d1 : decode cc pc = .ok (.lcmp, 1)) (d2 : decode cc (pc + 1) = .ok (.ifCond .ne off, 3)) (ht : ((pc + 1 : Nat) : Int) + off = (tgt : Int)) (kt : ¬ x = z → W p l e R s m args below meth c H locs cells slots Q (F0 m tgt ls rest)) (kf : x = z → W p l e R s m args below meth c H locs cells slots Q (F0 m (pc + 4) ls rest)) : W p l e R s m args below meth c H locs cells slots Q (F0 m pc ls (.long z :: .long x :: rest)) :=
  W.lcmp hx hb d1 (lv_if_ne hx hb d2 ht (fun h => kt (fun q => h ((lg_cmp_eq x z).mpr q))) (fun h => kf ((lg_cmp_eq x z).mp h)))
/-- an effectful callee: what it leaves -/
theorem kE {A0 A1 : Nat → Prop} {H0 : Heap} {mc ms : Nat} {o : Option Value} {ww w1 wr : va_W} {a : Array Value} (isC isR : List Nat) (hP : va_P D vwCl ww H) (hD : va_D A0 ww) (hS : va_S A0 H0 H locs) (hA : ∀ q, H0.size ≤ q → A0 q) (hC : isC.map (fun i => ww[i]?) = wc.map some) (hRr : isR.map (fun i => ww[i]?) = wr.map some) (hnd : va_nd isR = true) (hdis : ∀ i ∈ isR, i ∉ isC) (hA1 : A1 = va_A wc H.size) (hr : va_Run p l e R s m args below meth c H locs cells slots mc ms (F0 m pc ls st0) rest (QE D o w1 A1 a) A1)
    (kk : ∀ (H1 : Heap) (locs1 : List Loc), va_P D vwCl (wr ++ w1) H1 → va_D A0 (wr ++ w1) → va_S A0 H0 H1 locs1 → W p l e R s m args below meth c H1 locs1 (cells + mc) (slots + ms) Q (F0 m (pc + 3) ls (o.toList ++ rest))) : W p l e R s m args below meth c H locs cells slots Q (F0 m pc ls st0) := by
  have hf : ∀ q, A1 q → A0 q := by rw [hA1]; exact va_free hD hS hA isC hC
  intro T hT X
  obtain ⟨v, st₀, t, T', L, h0, X', hL, e1, e2, ⟨⟨hv, hp, hd⟩, hz, hk⟩, st⟩ := hr T hT X
  cases hv
  rw [h0] at hz hk
  have hz' : H.size ≤ T'.heap.size := by rw [e1]; exact hz
  have hk' : ∀ q : Nat, q < H.size → ¬ A1 q → T'.heap[q]? = H[q]? := fun q h1 h2 => by rw [e1]; exact hk q h1 h2
  obtain ⟨jP, jD⟩ := va_join (wc := wc) (wr := wr) (w1 := w1) (H1 := T'.heap) hP hD isC isR hC hRr hnd hdis (by rw [← hA1]; exact hk') (by rw [← hA1]; exact hf) (by rw [e1]; exact hp) (by rw [← hA1]; exact hd)
  obtain ⟨t2, a1, b1⟩ := kk T'.heap (locs ++ L) jP jD
    ⟨Nat.le_trans hS.1 hz', fun q h1 h2 => by rw [hk' q (Nat.lt_of_lt_of_le h1 hS.1) (fun z => h2 (hf q z))]; exact hS.2.1 q h1 h2, fun q hq => by
      rcases List.mem_append.mp hq with h | h
      · exact hS.2.2 q h
      · exact hf _ (hL q h)⟩ T' rfl X'
  exact ⟨t2, st t2 a1, b1⟩
/-- as kE, where new cells come: their addresses are u -/
theorem kX {A0 A1 : Nat → Prop} {H0 : Heap} {mc ms : Nat} {S : Type} {o : S → Option Value} {ww wr : va_W} {w1 : S → va_W} {a : Array Value} (isC isR : List Nat) (hP : va_P D vwCl ww H) (hD : va_D A0 ww) (hS : va_S A0 H0 H locs) (hA : ∀ q, H0.size ≤ q → A0 q) (hC : isC.map (fun i => ww[i]?) = wc.map some) (hRr : isR.map (fun i => ww[i]?) = wr.map some) (hnd : va_nd isR = true) (hdis : ∀ i ∈ isR, i ∉ isC) (hA1 : A1 = va_A wc H.size) (hr : va_Run p l e R s m args below meth c H locs cells slots mc ms (F0 m pc ls st0) rest (QX D o w1 A1 a) A1)
    (kk : ∀ (u : S) (H1 : Heap) (locs1 : List Loc), va_P D vwCl (wr ++ w1 u) H1 → va_D A0 (wr ++ w1 u) → va_S A0 H0 H1 locs1 → W p l e R s m args below meth c H1 locs1 (cells + mc) (slots + ms) Q (F0 m (pc + 3) ls ((o u).toList ++ rest))) : W p l e R s m args below meth c H locs cells slots Q (F0 m pc ls st0) := by
  have hf : ∀ q, A1 q → A0 q := by rw [hA1]; exact va_free hD hS hA isC hC
  intro T hT X
  obtain ⟨v, st₀, t, T', L, h0, X', hL, e1, e2, ⟨⟨u, hv, hp, hd⟩, hz, hk⟩, st⟩ := hr T hT X
  cases hv
  rw [h0] at hz hk
  have hz' : H.size ≤ T'.heap.size := by rw [e1]; exact hz
  have hk' : ∀ q : Nat, q < H.size → ¬ A1 q → T'.heap[q]? = H[q]? := fun q h1 h2 => by rw [e1]; exact hk q h1 h2
  obtain ⟨jP, jD⟩ := va_join (wc := wc) (wr := wr) (w1 := w1 u) (H1 := T'.heap) hP hD isC isR hC hRr hnd hdis (by rw [← hA1]; exact hk') (by rw [← hA1]; exact hf) (by rw [e1]; exact hp) (by rw [← hA1]; exact hd)
  obtain ⟨t2, a1, b1⟩ := kk u T'.heap (locs ++ L) jP jD
    ⟨Nat.le_trans hS.1 hz', fun q h1 h2 => by rw [hk' q (Nat.lt_of_lt_of_le h1 hS.1) (fun z => h2 (hf q z))]; exact hS.2.1 q h1 h2, fun q hq => by
      rcases List.mem_append.mp hq with h | h
      · exact hS.2.2 q h
      · exact hf _ (hL q h)⟩ T' rfl X'
  exact ⟨t2, st t2 a1, b1⟩
/-- an effectful callee, by invokevirtual, as a run -/
theorem eV {Qa : Array Value → State → Outcome → State → Prop} {mc ms : Nat} {A1 : Nat → Prop} {q : vw_C} {fs : List Value} (S : CallFix p m c cc nL s args Ts own) (hM : Met l y ws rm (PE D cJ cZ (.ref b :: As) wc H.size) Qa mc ms A1) (hG : GoodIn Ts (wsV own index y.cls y ws)) (hw : ws = Cond.code y bytes maxL ret :: ws') (hrm : rm.cells = mc ∧ rm.slots = ms) (hd : KN y n) (hR : KR rm R maxL) (ci q0 : Nat) (hc : vwCl[ci]? = some q) (hq : q.1 = y.cls) (he : wc[q0]? = some (b, .inr (ci, fs))) (hP : va_P D vwCl wc H) {A0 : Nat → Prop} (hD : va_D A0 wc) (hE : EV D cJ cZ s) (hl : lv_has ls nL lv) (hn : As.length = n) (hst : st0 = As.reverse ++ .ref b :: rest) (hroom : (rest.map fun v => v.category).sum ≤ 8) (hdg : decode cc pc = .ok (.invokevirtual index, 3)) (hcl : cells + mc ≤ R.cells ∧ slots + ms ≤ R.slots) : va_Run p l e R s m args below meth c H locs cells slots mc ms (F0 m pc ls st0) rest (Qa (Value.ref b :: As).toArray) A1 :=
  va_runV (C := y.cls) S hM (cwV n S.2.2.2.2 hG hw hrm.1 hrm.2 ⟨rfl, hd⟩ hR) ⟨PE.blind, by rw [← hq]; exact va_recv hE.1 hP hc he, fun U hU hW => ⟨rfl, by rw [hU], by rw [hU]; exact hP, hE.warm hW, hD.weaken (fun _ _ _ _ => trivial)⟩⟩ rfl hn hl.1 hst (lv_room hroom) hdg hcl
/-- a constructor, as a run -/
theorem eI {Qa : Array Value → State → Outcome → State → Prop} {mc ms : Nat} {A1 : Nat → Prop} (S : CallFix p m c cc nL s args Ts own) (hM : Met l y ws rm (PE D cJ cZ (.ref b :: As) wc H.size) Qa mc ms A1) (hG : GoodIn Ts ws) (hw : ws = Cond.code y bytes maxL none :: ws') (hrm : rm.cells = mc ∧ rm.slots = ms) (hini : (Cond.initialized y.cls).before args s = true) (hlk : (Cond.methodLink own index y).before args s = true) (hin : (Cond.instanceMethod y).before args s = true) (hy : y.name = "<init>") (hd : KN y n) (hR : KR rm R maxL) (hP : va_P D vwCl wc H) {A0 : Nat → Prop} (hD : va_D A0 wc) (hE : EV D cJ cZ s) (hl : lv_has ls nL lv) (hn : As.length = n) (hst : st0 = As.reverse ++ .ref b :: rest) (hroom : (rest.map fun v => v.category).sum ≤ 8) (hdg : decode cc pc = .ok (.invokespecial index, 3)) (hcl : cells + mc ≤ R.cells ∧ slots + ms ≤ R.slots) : va_Run p l e R s m args below meth c H locs cells slots mc ms (F0 m pc ls st0) rest (Qa (Value.ref b :: As).toArray) A1 :=
  va_runI S hM (cwI n S.2.2.2.2 hG hw hrm.1 hrm.2 hini hlk hin hy hd hR) ⟨PE.blind, fun U hU hW => ⟨rfl, by rw [hU], by rw [hU]; exact hP, hE.warm hW, hD.weaken (fun _ _ _ _ => trivial)⟩⟩ rfl hn hl.1 hst (lv_room hroom) hdg hcl
end
def bnd {α β : Type} (x : α) (k : α → Option β) : Option β := k x
theorem bnd_s {α β : Type} {x : α} {k : α → Option β} {r : β} (h : bnd x k = some r) : ∃ v, v = x ∧ k v = some r := ⟨x, rfl, h⟩
def jrem (x y : Int64) : Int64 := x - x / y * y
def jirem (x y : Int32) : Int32 := x - x / y * y
def jshl (x : Int64) (y : Int32) : Int64 := x <<< (y.toInt64 &&& 63)
def jshr (x : Int64) (y : Int32) : Int64 := x >>> (y.toInt64 &&& 63)
def jushr (x : Int64) (y : Int32) : Int64 := (x.toUInt64 >>> (y.toInt64.toUInt64 &&& Int64.toUInt64 63)).toInt64
def jiushr (x y : Int32) : Int32 := (x.toUInt32 >>> (y.toUInt32 &&& Int32.toUInt32 31)).toInt32
section
variable {p : Program} {l : Launch} {e : Env} {R : Room} {s : State} {m : MethodId} {args : Array Value} {below : List Frame} {meth : Method} {c : Code} {H : Heap} {locs : List Loc} {cells slots : Nat} {Q : State → Prop}
variable {cc : ByteArray} {pc : Nat} {rest : List Value} {ls : Array Slot} {D : va_G}
theorem tl {x y : Int64} (h : x = y) (k : W p l e R s m args below meth c H locs cells slots Q (F0 m pc ls (.long y :: rest))) : W p l e R s m args below meth c H locs cells slots Q (F0 m pc ls (.long x :: rest)) := by rw [h]; exact k
theorem ti {x y : Int32} (h : x = y) (k : W p l e R s m args below meth c H locs cells slots Q (F0 m pc ls (.int y :: rest))) : W p l e R s m args below meth c H locs cells slots Q (F0 m pc ls (.int x :: rest)) := by rw [h]; exact k
theorem lv_lremJ (hx : p.tables.exec = Jvm.exec) (hb : c.code = cc) {x y : Int64} (d : decode cc pc = .ok (.lrem, 1)) (hne : ¬ y = 0) (k : W p l e R s m args below meth c H locs cells slots Q (F0 m (pc + 1) ls (.long (jrem x y) :: rest))) : W p l e R s m args below meth c H locs cells slots Q (F0 m pc ls (.long y :: .long x :: rest)) := lv_lrem hx hb d hne k
theorem lv_iremJ (hx : p.tables.exec = Jvm.exec) (hb : c.code = cc) {x y : Int32} (d : decode cc pc = .ok (.irem, 1)) (hne : ¬ y = 0) (k : W p l e R s m args below meth c H locs cells slots Q (F0 m (pc + 1) ls (.int (jirem x y) :: rest))) : W p l e R s m args below meth c H locs cells slots Q (F0 m pc ls (.int y :: .int x :: rest)) := lv_irem hx hb d hne k
theorem reL {v r : Int64} (hx : p.tables.exec = Jvm.exec) (hb : c.code = cc) (hr : meth.sig.returnType = some .long) (hlocks : meth.locks = false) (h : some v = some r) (d : decode cc pc = .ok (.lreturn, 1)) : W p l e R s m args below meth c s.heap [] 0 0 (MQ below (SL r) args s 0 0 (fun _ => False)) (F0 m pc ls [.long v]) := W.lret hx hb hr (fun t ht _ => ⟨v, rfl, Option.some.inj h, ht⟩) (fun q hq => absurd hq List.not_mem_nil) d hlocks
theorem reI {v r : Int32} (hx : p.tables.exec = Jvm.exec) (hb : c.code = cc) (hr : meth.sig.returnType = some .int) (hlocks : meth.locks = false) (h : some v = some r) (d : decode cc pc = .ok (.ireturn, 1)) : W p l e R s m args below meth c s.heap [] 0 0 (MQ below (SI r) args s 0 0 (fun _ => False)) (F0 m pc ls [.int v]) := W.iret hx hb hr (fun t ht _ => ⟨v, rfl, Option.some.inj h, ht⟩) (fun q hq => absurd hq List.not_mem_nil) d hlocks
theorem reZ {v r : Bool} (hx : p.tables.exec = Jvm.exec) (hb : c.code = cc) (hr : meth.sig.returnType = some .boolean) (hlocks : meth.locks = false) (h : some v = some r) (d : decode cc pc = .ok (.ireturn, 1)) : W p l e R s m args below meth c s.heap [] 0 0 (MQ below (SI (bI r)) args s 0 0 (fun _ => False)) (F0 m pc ls [.int (bI v)]) := W.zret hx hb hr (narv_bI v) (fun t ht _ => ⟨bI v, rfl, by rw [Option.some.inj h], ht⟩) (fun q hq => absurd hq List.not_mem_nil) d hlocks
theorem rfL {v : Int64} {w1 : va_W} {A : Nat → Prop} (hx : p.tables.exec = Jvm.exec) (hb : c.code = cc) (hr : meth.sig.returnType = some .long) (hlocks : meth.locks = false) (hP : va_P D vwCl w1 H) (hD : va_D A w1) (hS : va_S A s.heap H locs) (d : decode cc pc = .ok (.lreturn, 1)) : W p l e R s m args below meth c H locs 0 0 (MQ below (QE D (some (.long v)) w1 A) args s 0 0 A) (F0 m pc ls [.long v]) := W.lret hx hb hr (fun t ht _ => ⟨⟨rfl, by rw [ht]; exact hP, hD⟩, hS.F ht⟩) hS.2.2 d hlocks
theorem rfI {v : Int32} {w1 : va_W} {A : Nat → Prop} (hx : p.tables.exec = Jvm.exec) (hb : c.code = cc) (hr : meth.sig.returnType = some .int) (hlocks : meth.locks = false) (hP : va_P D vwCl w1 H) (hD : va_D A w1) (hS : va_S A s.heap H locs) (d : decode cc pc = .ok (.ireturn, 1)) : W p l e R s m args below meth c H locs 0 0 (MQ below (QE D (some (.int v)) w1 A) args s 0 0 A) (F0 m pc ls [.int v]) := W.iret hx hb hr (fun t ht _ => ⟨⟨rfl, by rw [ht]; exact hP, hD⟩, hS.F ht⟩) hS.2.2 d hlocks
theorem rfZ {v : Bool} {w1 : va_W} {A : Nat → Prop} (hx : p.tables.exec = Jvm.exec) (hb : c.code = cc) (hr : meth.sig.returnType = some .boolean) (hlocks : meth.locks = false) (hP : va_P D vwCl w1 H) (hD : va_D A w1) (hS : va_S A s.heap H locs) (d : decode cc pc = .ok (.ireturn, 1)) : W p l e R s m args below meth c H locs 0 0 (MQ below (QE D (some (.int (bI v))) w1 A) args s 0 0 A) (F0 m pc ls [.int (bI v)]) := W.zret hx hb hr (narv_bI v) (fun t ht _ => ⟨⟨rfl, by rw [ht]; exact hP, hD⟩, hS.F ht⟩) hS.2.2 d hlocks
theorem rfV {w1 : va_W} {A : Nat → Prop} (hx : p.tables.exec = Jvm.exec) (hb : c.code = cc) (hr : meth.sig.returnType = none) (hlocks : meth.locks = false) (hP : va_P D vwCl w1 H) (hD : va_D A w1) (hS : va_S A s.heap H locs) (d : decode cc pc = .ok (.return_, 1)) : W p l e R s m args below meth c H locs 0 0 (MQ below (QE D none w1 A) args s 0 0 A) (F0 m pc ls []) := W.vret hx hb hr (fun t ht _ => ⟨⟨rfl, by rw [ht]; exact hP, hD⟩, hS.F ht⟩) hS.2.2 d hlocks
end
