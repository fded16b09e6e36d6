set_option maxHeartbeats 4000000 in
set_option maxRecDepth 100000 in
/-- THE LAW, from its entry -/
theorem whole_start {p : Program} {e : Env} {s : State} {m : MethodId} {below : List Frame} {meth : Method} {c : Code} (l : Launch) {b L : Nat} {xs : Nat → Int32} (hL : L ≤ 3072) (C0 : lw_At p s m meth c b L xs) : W p l e room_1 s m #[Value.ref b] below meth c s.heap [] 0 0 (lw_Z below #[Value.ref b] s) (entryFrame m ([Value.ref b] : List Value).toArray 4) := by
  obtain ⟨D, cJ, cZ, hE⟩ := ev_start C0
  obtain ⟨hx, hb, hr, hml, hown, hts, hX, hbl, hlocks, hgv⟩ := id C0
  have hwl : ∀ w ∈ wsL_law, w.before #[Value.ref b] s = true := fun w h => hts w (wsL_law_in w h)
  have FC : CallFix p m c cL_law 4 s #[Value.ref b] wsL_law RL := ⟨hx, hb, hml, hown, hwl⟩
  have hF : LF p s m c b L xs := ⟨FC, hX, hbl⟩
  have hA : ∀ q : Nat, s.heap.size ≤ q → LA s q := fun _ h => h
  obtain ⟨N, hN⟩ : ∃ N : Nat, 100000 ≤ N := ⟨100000, Nat.le_refl _⟩
  obtain ⟨oS, oV, cr, -, -⟩ := c_clear hN (fun _ => 0) (fun _ => 0)
  have hS : va_S (LA s) s.heap s.heap [] := va_S.rf
  have hP : va_P D vwCl [] s.heap := fun k q h => by simp at h
  have hD : va_D (LA s) [] := ⟨fun i j p q h => by simp at h, fun k q h => by simp at h⟩
  have hl := lv_entry ([.ref b]) (n := 4) (Nat.le_of_ble_eq_true rfl)
  rw [lg_entry_eq]
  generalize (lg_sl ([.ref b]) ++ List.replicate (4 - (lg_sl ([.ref b])).length) Slot.unset).toArray = ls at hl ⊢
  have hl : lv_has ls 4 [(0, .ref b)] := hl
  refine va_new (D := D) (ci := 3) (fs := [.null, .null, .null, .null]) (C := RX3) (T := TX3) (N := 4) hx hb hwl inlX3 tyX3 tyX3_ok hown (hwl (.classLink RL 7 RX3) (List.mem_of_getElem? (i := 0) (by decide +kernel))) (hwl (.instantiable RX3 4) (List.mem_of_getElem? (i := 1) (by decide +kernel))) (hwl (.initialized RX3) (List.mem_of_getElem? (i := 2) (by decide +kernel))) hE.1 hP hD hS hA rfl (fun j hj => by rcases (show j = 0 ∨ j = 1 ∨ j = 2 ∨ j = 3 by omega) with rfl | rfl | rfl | rfl <;> rfl) (Nat.le_of_ble_eq_true rfl) (Nat.le_of_ble_eq_true rfl) dL_law_0 (fun dk H hP hD hS => ?_)
  have hP : va_P D vwCl [(dk, .inr (3, [.null, .null, .null, .null]))] H := hP
  have hD : va_D (LA s) [(dk, .inr (3, [.null, .null, .null, .null]))] := hD
  refine W.widen (k := 1) (n := 4) (by decide) (by decide) ?_
  refine lv_dup hx hb dL_law_3 rfl ?_
  refine kX (wc := [(dk, .inr (3, [.null, .null, .null, .null]))]) (wr := []) [0] [] hP hD hS hA rfl rfl rfl (by decide) rfl (eI (As := []) (rest := [.ref dk]) FC (kX3_init l D cJ cZ dk N H.size oS oV cr) gL_law_X3_init rfl ⟨rfl, rfl⟩ (hwl (.initialized RX3) (List.mem_of_getElem? (i := 2) (by decide +kernel))) (hwl (.methodLink RL 9 yX3_init) (List.mem_of_getElem? (i := 7) (by decide +kernel))) (hwl (.instanceMethod yX3_init) (List.mem_of_getElem? (i := 8) (by decide +kernel))) rfl hdX3_init ⟨Nat.le_of_ble_eq_true rfl, Nat.le_of_ble_eq_true rfl⟩ hP hD hE hl rfl rfl (Nat.le_of_ble_eq_true rfl) dL_law_4 ⟨Nat.le_of_ble_eq_true rfl, Nat.le_of_ble_eq_true rfl⟩) (fun u H locs hP hD hS => ?_)
  obtain ⟨so, vo⟩ := u
  have hP : va_P D vwCl (wN cJ dk so vo oS oV) H := hP
  have hD : va_D (LA s) (wN cJ dk so vo oS oV) := hD
  refine W.widen (k := 3) (n := 28) (by decide) (by decide) ?_
  refine W.eq (g2 := F0 m 7 ls [.ref dk]) rfl ?_
  refine lv_astore_n (lv' := [(1, .ref dk), (0, .ref b)]) hx hb dL_law_7 rfl hl (by decide) rfl (fun ls hl => ?_)
  refine va_new (D := D) (ci := 4) (fs := [.long 0, .long 0, .long 0, .null, .null, .null, .null, .null, .long 0, .long 0, .int (bI false), .long 0, .long 0, .int 0]) (C := RX4) (T := TX4) (N := 14) hx hb hwl inlX4 tyX4 tyX4_ok hown (hwl (.classLink RL 10 RX4) (List.mem_of_getElem? (i := 3) (by decide +kernel))) (hwl (.instantiable RX4 14) (List.mem_of_getElem? (i := 4) (by decide +kernel))) (hwl (.initialized RX4) (List.mem_of_getElem? (i := 5) (by decide +kernel))) hE.1 hP hD hS hA rfl (fun j hj => by rcases (show j = 0 ∨ j = 1 ∨ j = 2 ∨ j = 3 ∨ j = 4 ∨ j = 5 ∨ j = 6 ∨ j = 7 ∨ j = 8 ∨ j = 9 ∨ j = 10 ∨ j = 11 ∨ j = 12 ∨ j = 13 by omega) with rfl | rfl | rfl | rfl | rfl | rfl | rfl | rfl | rfl | rfl | rfl | rfl | rfl | rfl <;> rfl) (Nat.le_of_ble_eq_true rfl) (Nat.le_of_ble_eq_true rfl) dL_law_8 (fun mo H hP hD hS => ?_)
  have hP : va_P D vwCl (wN cJ dk so vo oS oV ++ [(mo, .inr (4, [.long 0, .long 0, .long 0, .null, .null, .null, .null, .null, .long 0, .long 0, .int (bI false), .long 0, .long 0, .int 0]))]) H := hP
  have hD : va_D (LA s) (wN cJ dk so vo oS oV ++ [(mo, .inr (4, [.long 0, .long 0, .long 0, .null, .null, .null, .null, .null, .long 0, .long 0, .int (bI false), .long 0, .long 0, .int 0]))]) := hD
  refine W.widen (k := 4) (n := 42) (by decide) (by decide) ?_
  refine lv_dup hx hb dL_law_11 rfl ?_
  refine kX (wc := [(mo, .inr (4, [.long 0, .long 0, .long 0, .null, .null, .null, .null, .null, .long 0, .long 0, .int (bI false), .long 0, .long 0, .int 0]))]) (wr := wN cJ dk so vo oS oV) [3] [0, 1, 2] hP hD hS hA rfl rfl rfl (by decide) rfl (eI (As := []) (rest := [.ref mo]) FC (kX4_init l D cJ cZ mo H.size) gL_law_X4_init rfl ⟨rfl, rfl⟩ (hwl (.initialized RX4) (List.mem_of_getElem? (i := 5) (by decide +kernel))) (hwl (.methodLink RL 12 yX4_init) (List.mem_of_getElem? (i := 22) (by decide +kernel))) (hwl (.instanceMethod yX4_init) (List.mem_of_getElem? (i := 23) (by decide +kernel))) rfl hdX4_init ⟨Nat.le_of_ble_eq_true rfl, Nat.le_of_ble_eq_true rfl⟩ (hP.sub [3] rfl) (hD.sub [3] rfl rfl) hE hl rfl rfl (Nat.le_of_ble_eq_true rfl) dL_law_12 ⟨Nat.le_of_ble_eq_true rfl, Nat.le_of_ble_eq_true rfl⟩) (fun u H locs hP hD hS => ?_)
  obtain ⟨a1, a2, a3, a4, a5⟩ := u
  refine W.widen (k := 9 + 3 * 0) (n := 106 + 10 * 0) (by decide) (by decide) ?_
  refine W.eq (g2 := F0 m 15 ls [.ref mo]) rfl ?_
  refine lv_astore_n (lv' := [(2, .ref mo), (1, .ref dk), (0, .ref b)]) hx hb dL_law_15 rfl hl (by decide) rfl (fun ls hl => ?_)
  refine lv_iconst (v := nI (6 * 0)) hx hb dL_law_16 (by decide) ?_
  refine lv_istore_n (lv' := [(3, .int (nI (6 * 0))), (2, .ref mo), (1, .ref dk), (0, .ref b)]) hx hb dL_law_17 rfl hl (by decide) rfl (fun ls hl => ?_)
  exact law_loop hF hE hL hr hlocks 512 0 (by omega) H locs ls ⟨hS, .inl ⟨so, vo, a1, a2, a3, a4, a5, oS, oV, 0, 0, false, 0, 0, 0, fun _ => 0, fun _ => 0, fun _ => false, fun _ => 0, fun _ => 0, hP, hD⟩⟩ (lv_sub hl [3, 2, 1, 0] rfl)
