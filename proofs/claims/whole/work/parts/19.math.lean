/-! Math.floorMod(JJ)J: a method of a class that has rows of its own for other methods: its body is walked where no row is -/
theorem fm_row0 : (NativeRow.find? natives yJ9_floorMod_f86c9.cls yJ9_floorMod_f86c9.name yJ9_floorMod_f86c9.desc).isNone = true := by decide +kernel
theorem fm_row (p : Program) : NativeRow.find? p.tables.natives yJ9_floorMod_f86c9.cls yJ9_floorMod_f86c9.name yJ9_floorMod_f86c9.desc = none := by
  cases p <;> exact Option.isNone_iff_eq_none.mp fm_row0
theorem met_ov {l : Launch} {x : MethodName} {S : Spec} {cc : ByteArray} {maxLs : Nat} {rt : Option FieldType} {Pc : Array Value → State → Prop} {Qc : Array Value → State → Outcome → State → Prop}
    (hrow : ∀ p : Program, NativeRow.find? p.tables.natives x.cls x.name x.desc = none)
    (his : ∀ args s, S.pre.before args s = true → (Cond.code x cc maxLs rt).before args s = true)
    (body : ∀ p e s m args below meth c s₁, BodyLooseOv p S cc maxLs rt e s m args below meth c s₁ → Pc args s →
      ∃ s₂ o, Steps p.tables e below (s₁.setTop (entryFrame m args maxLs)) s₂ ∧ s₂.status = .running ∧ Ended s₂ below o ∧ Qc args s o s₂) :
    MetFree l x S Pc (fun _ _ _ _ _ => True) Qc := by
  intro p e ha hc hk s m args below hf happ hPc _
  obtain ⟨hrun, hable, halone, hname, hhears, hinit, hroom, hpre⟩ := (Spec.appliesLoose_iff hf).mp happ
  obtain ⟨meth, c, hmeth, hcode, hbytes, hlocals, hret, hlocks, -⟩ := Cond.code_spec hname (his args s hpre)
  have hcur := State.cur_lt_of_frames hf
  have hf1 : (s.setFrames (.java (entryFrame m args maxLs) :: below)).frames = .java (entryFrame m args maxLs) :: below :=
    State.frames_setFrames _ hcur
  have ht1 := State.topJava?_of_frames hf1
  have hown : ∀ f : JFrame, f.method = m → overridden p.tables e ((s.setFrames (.java (entryFrame m args maxLs) :: below)).setTop f) f = none := by
    intro f hfm
    obtain ⟨k', hk', hn⟩ := className_of_methodNamed hname
    obtain ⟨hmn, hmd⟩ := name_of_methodNamed hname hmeth
    have hx' : k'.methods[m.idx]? = some meth := by simpa [Vm.method?, hk'] using hmeth
    refine overridden_noRow _ _ (k := k') (x := meth) (by rw [hfm]; exact hk') (by rw [hfm]; exact hx') ?_
    rw [hn, hmn, hmd]
    exact hrow p
  have hAt : AtOv p.tables e (s.setFrames (.java (entryFrame m args maxLs) :: below)) m c below :=
    ⟨by rw [ht1]; rfl, ⟨[], by rw [hf1]; rfl⟩, hrun, by simpa using hable, by simpa using halone,
      by rw [State.code?_eq]; simp [State.setFrames, hmeth, hcode], hown⟩
  obtain ⟨s₂, o, hs, hr, he, hp⟩ := body p e s m args below meth c _
    ⟨by cases p <;> rfl, hf, hhears, hpre, hmeth, hret, hlocks, hbytes, rfl, hAt⟩ hPc
  have hstep : (stepThread p.tables e s).1 = (s.setFrames (.java (entryFrame m args maxLs) :: below)).setTop (entryFrame m args maxLs) := by
    have hfull : e.platform.stackFull (s.setFrames below).me (s.setFrames below).frames c.maxLocals = false := by
      obtain ⟨-, h1, -, h2⟩ := State.hasRoom_stack hroom
      rw [hf, List.length_cons] at h1
      rw [State.localsInUse_invoking hf hmeth hcode] at h2
      have hw := stackUse_le_stackWeight below
      rw [State.frames_setFrames _ hcur]
      exact Platform.stackFull_eq_false (by rw [State.stackLimits_setFrames]; omega) (by rw [State.stackLimits_setFrames]; omega)
    rw [stepThread_invoking hf, (doInvoke_java (s := s.setFrames below) (e := e) (meth := meth) (code := c) hmeth hcode hlocks hfull).1, State.setTop_self ht1]
    simp only [State.pushFrame, State.frames_setFrames _ hcur, State.setFrames_setFrames, hlocals, entryFrame]
  obtain ⟨n, hn, hw⟩ := Steps.head (tb := p.tables) (e := e) ⟨hrun, hable, halone⟩ ⟨[.invoking m args], hf, by simp, by simp⟩ (hstep ▸ hs)
  exact ⟨n, o, hw, hn ▸ hr, hn ▸ he, hn ▸ hp⟩
section
variable {p : Program} {e : Env} {s : State} {m : MethodId} {below : List Frame} {c : Code} {Q : State → Prop} {cc : ByteArray} {pc : Nat} {ls : Array Slot} {rest : List Value}
def WO (p : Program) (e : Env) (s : State) (below : List Frame) (Q : State → Prop) (g : JFrame) : Prop := ∃ t, Steps p.tables e below (s.setTop g) t ∧ Q t
theorem wo_lload_n (h : AtOv p.tables e s m c below) (hexec : p.tables.exec = Jvm.exec) (hb : c.code = cc) {k : Fin 4} {i : Nat} {x : Int64} (hdg : decode cc pc = .ok (.lload_n k, 1)) (hi : (k : Nat) = i) (hl : ls[i]? = some (.val (.long x))) (k : WO p e s below Q (F0 m (pc + 1) ls (.long x :: rest))) : WO p e s below Q (F0 m pc ls rest) := by
  subst hi
  obtain ⟨t, a, b⟩ := k
  refine ⟨t, ?_, b⟩
  refine Steps.instrAtOv (c := c) (by simpa using h) ?_
  simp [jvm, wpRun, exec, h.top, hexec, hb, hdg, hl]
  exact a
theorem wo_lload (h : AtOv p.tables e s m c below) (hexec : p.tables.exec = Jvm.exec) (hb : c.code = cc) {i : Nat} {x : Int64} (hdg : decode cc pc = .ok (.lload i, 2)) (hl : ls[i]? = some (.val (.long x))) (k : WO p e s below Q (F0 m (pc + 2) ls (.long x :: rest))) : WO p e s below Q (F0 m pc ls rest) := by
  obtain ⟨t, a, b⟩ := k
  refine ⟨t, ?_, b⟩
  refine Steps.instrAtOv (c := c) (by simpa using h) ?_
  simp [jvm, wpRun, exec, h.top, hexec, hb, hdg, hl]
  exact a
theorem wo_lrem (h : AtOv p.tables e s m c below) (hexec : p.tables.exec = Jvm.exec) (hb : c.code = cc) {x y : Int64} (hdg : decode cc pc = .ok (.lrem, 1)) (hne : ¬ y = 0) (k : WO p e s below Q (F0 m (pc + 1) ls (.long (x - x / y * y) :: rest))) : WO p e s below Q (F0 m pc ls (.long y :: .long x :: rest)) := by
  obtain ⟨t, a, b⟩ := k
  refine ⟨t, ?_, b⟩
  refine Steps.instrAtOv (c := c) (by simpa using h) ?_
  simp [jvm, wpRun, exec, h.top, hexec, hb, hdg, hne]
  exact a
theorem wo_lxor (h : AtOv p.tables e s m c below) (hexec : p.tables.exec = Jvm.exec) (hb : c.code = cc) {x y : Int64} (hdg : decode cc pc = .ok (.lxor, 1)) (k : WO p e s below Q (F0 m (pc + 1) ls (.long (x ^^^ y) :: rest))) : WO p e s below Q (F0 m pc ls (.long y :: .long x :: rest)) := by
  obtain ⟨t, a, b⟩ := k
  refine ⟨t, ?_, b⟩
  refine Steps.instrAtOv (c := c) (by simpa using h) ?_
  simp [jvm, wpRun, exec, h.top, hexec, hb, hdg]
  exact a
theorem wo_ladd (h : AtOv p.tables e s m c below) (hexec : p.tables.exec = Jvm.exec) (hb : c.code = cc) {x y : Int64} (hdg : decode cc pc = .ok (.ladd, 1)) (k : WO p e s below Q (F0 m (pc + 1) ls (.long (x + y) :: rest))) : WO p e s below Q (F0 m pc ls (.long y :: .long x :: rest)) := by
  obtain ⟨t, a, b⟩ := k
  refine ⟨t, ?_, b⟩
  refine Steps.instrAtOv (c := c) (by simpa using h) ?_
  simp [jvm, wpRun, exec, h.top, hexec, hb, hdg]
  exact a
theorem wo_lconst0 (h : AtOv p.tables e s m c below) (hexec : p.tables.exec = Jvm.exec) (hb : c.code = cc) (hdg : decode cc pc = .ok (.lconst 0, 1)) (k : WO p e s below Q (F0 m (pc + 1) ls (.long 0 :: rest))) : WO p e s below Q (F0 m pc ls rest) := by
  obtain ⟨t, a, b⟩ := k
  refine ⟨t, ?_, b⟩
  refine Steps.instrAtOv (c := c) (by simpa using h) ?_
  simp [jvm, wpRun, exec, h.top, hexec, hb, hdg]
  exact a
theorem wo_lcmp (h : AtOv p.tables e s m c below) (hexec : p.tables.exec = Jvm.exec) (hb : c.code = cc) {x y : Int64} (hdg : decode cc pc = .ok (.lcmp, 1)) (k : WO p e s below Q (F0 m (pc + 1) ls (.int (lg_cmp x y) :: rest))) : WO p e s below Q (F0 m pc ls (.long y :: .long x :: rest)) := by
  obtain ⟨t, a, b⟩ := k
  refine ⟨t, ?_, b⟩
  by_cases h1 : y < x
  · have e1 : lg_cmp x y = 1 := by simp [lg_cmp, h1]
    rw [e1] at a
    refine Steps.instrAtOv (c := c) (by simpa using h) ?_
    simp [jvm, wpRun, exec, h.top, hexec, hb, hdg, h1]
    exact a
  · by_cases h2 : x = y
    · subst h2
      have e1 : lg_cmp x x = 0 := by simp [lg_cmp]
      rw [e1] at a
      refine Steps.instrAtOv (c := c) (by simpa using h) ?_
      simp [jvm, wpRun, exec, h.top, hexec, hb, hdg]
      exact a
    · have e1 : lg_cmp x y = -1 := by simp [lg_cmp, h1, h2]
      rw [e1] at a
      refine Steps.instrAtOv (c := c) (by simpa using h) ?_
      simp [jvm, wpRun, exec, h.top, hexec, hb, hdg, h1, h2]
      exact a
theorem wo_lstore (h : AtOv p.tables e s m c below) (hexec : p.tables.exec = Jvm.exec) (hb : c.code = cc) {i nL : Nat} {x : Int64} {lv lv' : List (Nat × Value)} (hdg : decode cc pc = .ok (.lstore i, 2)) (h0 : lv_has ls nL lv) (hn : i + 1 < nL) (hl : (i, Value.long x) :: lv.filter (fun q => !(q.1 == i) && (!(q.1 == i + 1) && !(q.1 + 1 == i && q.2.category == 2))) = lv')
    (kk : ∀ ls' : Array Slot, lv_has ls' nL lv' → WO p e s below Q (F0 m (pc + 2) ls' rest)) : WO p e s below Q (F0 m pc ls (.long x :: rest)) := by
  obtain ⟨ls', e', h'⟩ := lv_store2 (v := .long x) h0 hn rfl
  obtain ⟨t, a, b⟩ := kk ls' (hl ▸ h')
  refine ⟨t, ?_, b⟩
  refine Steps.instrAtOv (c := c) (by simpa using h) ?_
  simp [jvm, wpRun, exec, h.top, ↓top_set h.top, hexec, hb, hdg, e']
  exact a
theorem wo_if_ge (h : AtOv p.tables e s m c below) (hexec : p.tables.exec = Jvm.exec) (hb : c.code = cc) {x : Int32} {off : Int} {tgt : Nat} (hdg : decode cc pc = .ok (.ifCond .ge off, 3)) (ht : (pc : Int) + off = (tgt : Int)) (kt : 0 ≤ x → WO p e s below Q (F0 m tgt ls rest)) (kf : ¬ 0 ≤ x → WO p e s below Q (F0 m (pc + 3) ls rest)) : WO p e s below Q (F0 m pc ls (.int x :: rest)) := by
  by_cases hP : 0 ≤ x
  · obtain ⟨t, a, b⟩ := kt hP
    refine ⟨t, ?_, b⟩
    refine Steps.instrAtOv (c := c) (by simpa using h) ?_
    simp [jvm, wpRun, exec, h.top, hexec, hb, hdg, Op.ifCond.holds, hP, ht]
    exact a
  · obtain ⟨t, a, b⟩ := kf hP
    refine ⟨t, ?_, b⟩
    refine Steps.instrAtOv (c := c) (by simpa using h) ?_
    simp [jvm, wpRun, exec, h.top, hexec, hb, hdg, Op.ifCond.holds, hP, ht]
    exact a
theorem wo_if_eq (h : AtOv p.tables e s m c below) (hexec : p.tables.exec = Jvm.exec) (hb : c.code = cc) {x : Int32} {off : Int} {tgt : Nat} (hdg : decode cc pc = .ok (.ifCond .eq off, 3)) (ht : (pc : Int) + off = (tgt : Int)) (kt : x = 0 → WO p e s below Q (F0 m tgt ls rest)) (kf : ¬ x = 0 → WO p e s below Q (F0 m (pc + 3) ls rest)) : WO p e s below Q (F0 m pc ls (.int x :: rest)) := by
  by_cases hP : x = 0
  · obtain ⟨t, a, b⟩ := kt hP
    refine ⟨t, ?_, b⟩
    refine Steps.instrAtOv (c := c) (by simpa using h) ?_
    simp [jvm, wpRun, exec, h.top, hexec, hb, hdg, Op.ifCond.holds, hP, ht]
    exact a
  · obtain ⟨t, a, b⟩ := kf hP
    refine ⟨t, ?_, b⟩
    refine Steps.instrAtOv (c := c) (by simpa using h) ?_
    simp [jvm, wpRun, exec, h.top, hexec, hb, hdg, Op.ifCond.holds, hP, ht]
    exact a
end
def fJ9_floorMod_f86c9 (q0 : Int64) (q1 : Int64) : Option (Int64) :=
  if q1 = 0 then none else
  bnd (jrem q0 q1) fun w2 =>
  if 0 ≤ (q0 ^^^ q1) then
    some w2
  else
    if w2 = 0 then
      some w2
    else
      some (w2 + q1)
abbrev rmJ9_floorMod_f86c9 : Room := { frames := 0, cells := 0, slots := 0, locals := 0 }
theorem hdJ9_floorMod_f86c9 : KN yJ9_floorMod_f86c9 2 := by decide +kernel
set_option maxHeartbeats 4000000 in
set_option maxRecDepth 100000 in
theorem kJ9_floorMod_f86c9 (l : Launch) (D : va_G) (cJ cZ : ClassId) (q0 : Int64) (q1 : Int64) (rr : Int64) (h : fJ9_floorMod_f86c9 q0 q1 = some rr) : Met l yJ9_floorMod_f86c9 wsJ9_floorMod_f86c9 rmJ9_floorMod_f86c9 (PP D cJ cZ [.long q0, .long q1] []) (SL rr) 0 0 (fun _ => False) := by
  refine met_ov (cc := cJ9_floorMod_f86c9) (maxLs := 6) (rt := some .long) fm_row ?_ ?_
  · intro args s h'
    exact atoms_spec (ws := wsJ9_floorMod_f86c9) h' _ List.mem_cons_self
  · intro p e s m args below meth c s₁ B hv
    obtain ⟨rfl, -, -⟩ := hv
    have hx := B.exec
    have hb := B.bytes
    have hA := B.here
    have fin : ∀ {pc : Nat} {ls : Array Slot} (_ : decode cJ9_floorMod_f86c9 pc = .ok (.lreturn, 1)), WO p e s₁ below (fun s₂ => ∃ fs, s₂ = s₁.setFrames fs ∧ handOver s₁ (some (.long rr)) below = some fs) (F0 m pc ls [.long rr]) := by
      intro pc ls hd
      obtain ⟨fs, hfs⟩ := handOver_isSome (s := s₁) (some (.long rr)) B.hears₁
      refine ⟨s₁.setFrames fs, ?_, fs, rfl, hfs⟩
      refine Steps.instrAtOv (c := c) (by simpa using hA) ?_
      simp [jvm, wpRun, exec, hA.top, hx, hb, hd, B.method₁, B.returns, narrow]
      intro acts
      rw [ret_to B.frames₁ B.method₁ B.notSynchronized rfl rfl hfs]
      exact Steps.refl _
    have main : WO p e s₁ below (fun s₂ => ∃ fs, s₂ = s₁.setFrames fs ∧ handOver s₁ (some (.long rr)) below = some fs) (entryFrame m ([.long q0, .long q1] : List Value).toArray 6) := by
      have hl := lv_entry ([.long q0, .long q1]) (n := 6) (Nat.le_of_ble_eq_true rfl)
      rw [lg_entry_eq]
      generalize (lg_sl ([.long q0, .long q1]) ++ List.replicate (6 - (lg_sl ([.long q0, .long q1])).length) Slot.unset).toArray = ls at hl ⊢
      have hl : lv_has ls 6 [(0, .long q0), (2, .long q1)] := hl
      unfold fJ9_floorMod_f86c9 at h
      obtain ⟨c1, h⟩ := ite_n h
      obtain ⟨w2, ew2, h⟩ := bnd_s h
      refine wo_lload_n hA hx hb dJ9_floorMod_f86c9_0 rfl (lv_at hl 0 rfl) ?_
      refine wo_lload_n hA hx hb dJ9_floorMod_f86c9_1 rfl (lv_at hl 1 rfl) ?_
      refine wo_lrem hA hx hb dJ9_floorMod_f86c9_2 c1 ?_
      rw [show q0 - q0 / q1 * q1 = w2 from ew2.symm]
      refine wo_lstore (lv' := [(4, .long w2), (0, .long q0), (2, .long q1)]) hA hx hb dJ9_floorMod_f86c9_3 hl (by decide) rfl (fun ls hl => ?_)
      refine wo_lload_n hA hx hb dJ9_floorMod_f86c9_5 rfl (lv_at hl 1 rfl) ?_
      refine wo_lload_n hA hx hb dJ9_floorMod_f86c9_6 rfl (lv_at hl 2 rfl) ?_
      refine wo_lxor hA hx hb dJ9_floorMod_f86c9_7 ?_
      refine wo_lconst0 hA hx hb dJ9_floorMod_f86c9_8 ?_
      refine wo_lcmp hA hx hb dJ9_floorMod_f86c9_9 ?_
      refine wo_if_ge (tgt := 25) hA hx hb dJ9_floorMod_f86c9_10 (by decide) (fun c2 => ?_) (fun c2 => ?_)
      · have h := ite_t ((lg_cmp_ge _ _).mp c2) h
        cases h
        refine wo_lload hA hx hb dJ9_floorMod_f86c9_25 (lv_at hl 0 rfl) ?_
        exact fin dJ9_floorMod_f86c9_27
      · have h := ite_f (fun q => c2 ((lg_cmp_ge _ _).mpr q)) h
        refine wo_lload hA hx hb dJ9_floorMod_f86c9_13 (lv_at hl 0 rfl) ?_
        refine wo_lconst0 hA hx hb dJ9_floorMod_f86c9_15 ?_
        refine wo_lcmp hA hx hb dJ9_floorMod_f86c9_16 ?_
        refine wo_if_eq (tgt := 25) hA hx hb dJ9_floorMod_f86c9_17 (by decide) (fun c3 => ?_) (fun c3 => ?_)
        · have h := ite_t ((lg_cmp_eq _ _).mp c3) h
          cases h
          refine wo_lload hA hx hb dJ9_floorMod_f86c9_25 (lv_at hl 0 rfl) ?_
          exact fin dJ9_floorMod_f86c9_27
        · have h := ite_f (fun q => c3 ((lg_cmp_eq _ _).mpr q)) h
          cases h
          refine wo_lload hA hx hb dJ9_floorMod_f86c9_20 (lv_at hl 0 rfl) ?_
          refine wo_lload_n hA hx hb dJ9_floorMod_f86c9_22 rfl (lv_at hl 2 rfl) ?_
          refine wo_ladd hA hx hb dJ9_floorMod_f86c9_23 ?_
          exact fin dJ9_floorMod_f86c9_24
    obtain ⟨t, hst, fs, rfl, hfs⟩ := main
    refine ⟨s₁.setFrames fs, .returned (some (.long rr)), hst, hA.running, B.ended hfs (by intro h; cases h), ⟨rr, rfl, rfl, by rw [B.state]; rfl⟩, [], ⟨⟨_, rfl⟩, ?_, ?_⟩, fun q hq => absurd hq List.not_mem_nil⟩
    · rw [B.state]; exact State.WarmedH.refl s
    · refine State.sameBut.sameButNew (State.sameBut_nil.mpr ?_) 0 0
      rw [B.back]
      show s.setFrames fs = s.setFrames (s.setFrames fs).frames
      rw [State.frames_setFrames _ B.cur]
