section
-- ===== PART A: goes FIRST, ahead of the names: the tables' words, and 'selects' of the private methods out of them =====
/-- a private method of a class that the tables say can be made, by its rows of tables_1 -/
def lw_okq (q : MethodName × Nat) : Prop := (q.1.cls ≠ "java/lang/invoke/MethodHandle" ∧ q.1.cls ≠ "java/lang/invoke/VarHandle") ∧ Cond.instantiable q.1.cls q.2 ∈ tables_1 ∧ Cond.privateMethod q.1 ∈ tables_1 ∧ Cond.instanceMethod q.1 ∈ tables_1
theorem lw_p0 : lw_okq (⟨"PairingDesk", "clearRows", "()V"⟩, 4) := ⟨⟨by decide +kernel, by decide +kernel⟩, List.mem_of_getElem? (i := 10) (by decide +kernel), List.mem_of_getElem? (i := 18) (by decide +kernel), List.mem_of_getElem? (i := 19) (by decide +kernel)⟩
theorem lw_p1 : lw_okq (⟨"PairingDeskModel", "rootOf", "(J)J"⟩, 14) := ⟨⟨by decide +kernel, by decide +kernel⟩, List.mem_of_getElem? (i := 374) (by decide +kernel), List.mem_of_getElem? (i := 443) (by decide +kernel), List.mem_of_getElem? (i := 444) (by decide +kernel)⟩
theorem lw_p2 : lw_okq (⟨"PairingDeskModel", "raised", "(JJ)J"⟩, 14) := ⟨⟨by decide +kernel, by decide +kernel⟩, List.mem_of_getElem? (i := 374) (by decide +kernel), List.mem_of_getElem? (i := 448) (by decide +kernel), List.mem_of_getElem? (i := 449) (by decide +kernel)⟩
theorem lw_p3 : lw_okq (⟨"PairingDeskModel", "fit", "(J)J"⟩, 14) := ⟨⟨by decide +kernel, by decide +kernel⟩, List.mem_of_getElem? (i := 374) (by decide +kernel), List.mem_of_getElem? (i := 452) (by decide +kernel), List.mem_of_getElem? (i := 453) (by decide +kernel)⟩
theorem lw_p4 : lw_okq (⟨"PairingDeskModel", "curve", "(J)J"⟩, 14) := ⟨⟨by decide +kernel, by decide +kernel⟩, List.mem_of_getElem? (i := 374) (by decide +kernel), List.mem_of_getElem? (i := 465) (by decide +kernel), List.mem_of_getElem? (i := 466) (by decide +kernel)⟩
theorem lw_p5 : lw_okq (⟨"PairingDeskModel", "store", "(I)V"⟩, 14) := ⟨⟨by decide +kernel, by decide +kernel⟩, List.mem_of_getElem? (i := 374) (by decide +kernel), List.mem_of_getElem? (i := 469) (by decide +kernel), List.mem_of_getElem? (i := 470) (by decide +kernel)⟩
theorem lw_p6 : lw_okq (⟨"PairingDeskModel", "turnOf", "(J)I"⟩, 14) := ⟨⟨by decide +kernel, by decide +kernel⟩, List.mem_of_getElem? (i := 374) (by decide +kernel), List.mem_of_getElem? (i := 481) (by decide +kernel), List.mem_of_getElem? (i := 482) (by decide +kernel)⟩
theorem lw_p7 : lw_okq (⟨"PairingDeskModel", "take", "(J)V"⟩, 14) := ⟨⟨by decide +kernel, by decide +kernel⟩, List.mem_of_getElem? (i := 374) (by decide +kernel), List.mem_of_getElem? (i := 485) (by decide +kernel), List.mem_of_getElem? (i := 486) (by decide +kernel)⟩
theorem lw_p8 : lw_okq (⟨"PairingDeskModel", "plus", "(JJZ)V"⟩, 14) := ⟨⟨by decide +kernel, by decide +kernel⟩, List.mem_of_getElem? (i := 374) (by decide +kernel), List.mem_of_getElem? (i := 489) (by decide +kernel), List.mem_of_getElem? (i := 490) (by decide +kernel)⟩
theorem lw_p9 : lw_okq (⟨"PairingDeskModel", "slope", "(JJJJ)J"⟩, 14) := ⟨⟨by decide +kernel, by decide +kernel⟩, List.mem_of_getElem? (i := 374) (by decide +kernel), List.mem_of_getElem? (i := 493) (by decide +kernel), List.mem_of_getElem? (i := 494) (by decide +kernel)⟩
theorem lw_p10 : lw_okq (⟨"PairingDeskModel", "turned", "(J)J"⟩, 14) := ⟨⟨by decide +kernel, by decide +kernel⟩, List.mem_of_getElem? (i := 374) (by decide +kernel), List.mem_of_getElem? (i := 498) (by decide +kernel), List.mem_of_getElem? (i := 499) (by decide +kernel)⟩
theorem lw_p11 : lw_okq (⟨"PairingDeskModel", "load", "(I)V"⟩, 14) := ⟨⟨by decide +kernel, by decide +kernel⟩, List.mem_of_getElem? (i := 374) (by decide +kernel), List.mem_of_getElem? (i := 506) (by decide +kernel), List.mem_of_getElem? (i := 507) (by decide +kernel)⟩
theorem lw_p12 : lw_okq (⟨"PairingDeskModel", "written", "(I)J"⟩, 14) := ⟨⟨by decide +kernel, by decide +kernel⟩, List.mem_of_getElem? (i := 374) (by decide +kernel), List.mem_of_getElem? (i := 527) (by decide +kernel), List.mem_of_getElem? (i := 528) (by decide +kernel)⟩
theorem lw_p13 : lw_okq (⟨"PairingDeskModel", "isOfR", "(I)Z"⟩, 14) := ⟨⟨by decide +kernel, by decide +kernel⟩, List.mem_of_getElem? (i := 374) (by decide +kernel), List.mem_of_getElem? (i := 544) (by decide +kernel), List.mem_of_getElem? (i := 545) (by decide +kernel)⟩
theorem lw_p14 : lw_okq (⟨"PairingDeskModel", "pairOf", "(JJZJJZ)V"⟩, 14) := ⟨⟨by decide +kernel, by decide +kernel⟩, List.mem_of_getElem? (i := 374) (by decide +kernel), List.mem_of_getElem? (i := 548) (by decide +kernel), List.mem_of_getElem? (i := 549) (by decide +kernel)⟩
theorem lw_p15 : lw_okq (⟨"PairingDeskModel", "multiply2", "(JJ)V"⟩, 14) := ⟨⟨by decide +kernel, by decide +kernel⟩, List.mem_of_getElem? (i := 374) (by decide +kernel), List.mem_of_getElem? (i := 552) (by decide +kernel), List.mem_of_getElem? (i := 553) (by decide +kernel)⟩
def lw_privs_1 : List (MethodName × Nat) := [(⟨"PairingDesk", "clearRows", "()V"⟩, 4), (⟨"PairingDeskModel", "rootOf", "(J)J"⟩, 14), (⟨"PairingDeskModel", "raised", "(JJ)J"⟩, 14), (⟨"PairingDeskModel", "fit", "(J)J"⟩, 14), (⟨"PairingDeskModel", "curve", "(J)J"⟩, 14), (⟨"PairingDeskModel", "store", "(I)V"⟩, 14), (⟨"PairingDeskModel", "turnOf", "(J)I"⟩, 14), (⟨"PairingDeskModel", "take", "(J)V"⟩, 14), (⟨"PairingDeskModel", "plus", "(JJZ)V"⟩, 14), (⟨"PairingDeskModel", "slope", "(JJJJ)J"⟩, 14), (⟨"PairingDeskModel", "turned", "(J)J"⟩, 14), (⟨"PairingDeskModel", "load", "(I)V"⟩, 14), (⟨"PairingDeskModel", "written", "(I)J"⟩, 14), (⟨"PairingDeskModel", "isOfR", "(I)Z"⟩, 14), (⟨"PairingDeskModel", "pairOf", "(JJZJJZ)V"⟩, 14), (⟨"PairingDeskModel", "multiply2", "(JJ)V"⟩, 14)]
theorem lw_r1 : ∀ q ∈ lw_privs_1, lw_okq q := List.forall_mem_cons.mpr ⟨lw_p0, List.forall_mem_cons.mpr ⟨lw_p1, List.forall_mem_cons.mpr ⟨lw_p2, List.forall_mem_cons.mpr ⟨lw_p3, List.forall_mem_cons.mpr ⟨lw_p4, List.forall_mem_cons.mpr ⟨lw_p5, List.forall_mem_cons.mpr ⟨lw_p6, List.forall_mem_cons.mpr ⟨lw_p7, List.forall_mem_cons.mpr ⟨lw_p8, List.forall_mem_cons.mpr ⟨lw_p9, List.forall_mem_cons.mpr ⟨lw_p10, List.forall_mem_cons.mpr ⟨lw_p11, List.forall_mem_cons.mpr ⟨lw_p12, List.forall_mem_cons.mpr ⟨lw_p13, List.forall_mem_cons.mpr ⟨lw_p14, List.forall_mem_cons.mpr ⟨lw_p15, fun _ h => absurd h List.not_mem_nil⟩⟩⟩⟩⟩⟩⟩⟩⟩⟩⟩⟩⟩⟩⟩⟩
theorem lw_p16 : lw_okq (⟨"PairingDeskModel", "line", "(JJZJJ)V"⟩, 14) := ⟨⟨by decide +kernel, by decide +kernel⟩, List.mem_of_getElem? (i := 374) (by decide +kernel), List.mem_of_getElem? (i := 556) (by decide +kernel), List.mem_of_getElem? (i := 557) (by decide +kernel)⟩
theorem lw_p17 : lw_okq (⟨"PairingDeskModel", "power2", "(J)V"⟩, 14) := ⟨⟨by decide +kernel, by decide +kernel⟩, List.mem_of_getElem? (i := 374) (by decide +kernel), List.mem_of_getElem? (i := 560) (by decide +kernel), List.mem_of_getElem? (i := 561) (by decide +kernel)⟩
theorem lw_p18 : lw_okq (⟨"PairingDeskModel", "keepValue", "(I)I"⟩, 14) := ⟨⟨by decide +kernel, by decide +kernel⟩, List.mem_of_getElem? (i := 374) (by decide +kernel), List.mem_of_getElem? (i := 568) (by decide +kernel), List.mem_of_getElem? (i := 569) (by decide +kernel)⟩
theorem lw_p19 : lw_okq (⟨"PairingDeskModel", "pairWithBase", "(I)V"⟩, 14) := ⟨⟨by decide +kernel, by decide +kernel⟩, List.mem_of_getElem? (i := 374) (by decide +kernel), List.mem_of_getElem? (i := 592) (by decide +kernel), List.mem_of_getElem? (i := 593) (by decide +kernel)⟩
theorem lw_p20 : lw_okq (⟨"PairingDeskModel", "pairTurned", "(JI)V"⟩, 14) := ⟨⟨by decide +kernel, by decide +kernel⟩, List.mem_of_getElem? (i := 374) (by decide +kernel), List.mem_of_getElem? (i := 596) (by decide +kernel), List.mem_of_getElem? (i := 597) (by decide +kernel)⟩
def lw_privs_2 : List (MethodName × Nat) := [(⟨"PairingDeskModel", "line", "(JJZJJ)V"⟩, 14), (⟨"PairingDeskModel", "power2", "(J)V"⟩, 14), (⟨"PairingDeskModel", "keepValue", "(I)I"⟩, 14), (⟨"PairingDeskModel", "pairWithBase", "(I)V"⟩, 14), (⟨"PairingDeskModel", "pairTurned", "(JI)V"⟩, 14)]
theorem lw_r2 : ∀ q ∈ lw_privs_2, lw_okq q := List.forall_mem_cons.mpr ⟨lw_p16, List.forall_mem_cons.mpr ⟨lw_p17, List.forall_mem_cons.mpr ⟨lw_p18, List.forall_mem_cons.mpr ⟨lw_p19, List.forall_mem_cons.mpr ⟨lw_p20, fun _ h => absurd h List.not_mem_nil⟩⟩⟩⟩⟩
def lw_privs : List (MethodName × Nat) := lw_privs_1 ++ (lw_privs_2)
def lw_tbl : List Cond := k2_sels lw_privs ++ tables_1
theorem lw_privs_ok : ∀ q ∈ lw_privs, lw_okq q := by
  show ∀ q ∈ lw_privs_1 ++ (lw_privs_2), lw_okq q
  exact List.forall_mem_append.mpr ⟨lw_r1, lw_r2⟩
end
section
/-! ===== BEGIN words of one list among another's, by their places ===== -/
theorem goodIn_r {big : List Cond} (ws : List Cond) (ps : List Nat) (hp : ws = ps.filterMap (fun i => big[i]?)) (h : ws.all goodWord = true) : GoodIn big ws := by
  intro w hw
  have h1 := List.all_eq_true.mp h w hw
  rw [hp] at hw
  obtain ⟨i, -, hi⟩ := List.mem_filterMap.mp hw
  have hm : w ∈ big := by first | exact List.mem_of_getElem? hi | exact List.getElem?_mem hi
  exact ⟨hm, good_of_word h1⟩
theorem goodIn_app {big a b : List Cond} (ha : GoodIn big a) (hb : GoodIn big b) : GoodIn big (a ++ b) := fun w h => (List.mem_append.mp h).elim (ha w) (hb w)
theorem goodIn_ca {big a b : List Cond} {c : Cond} (ha : GoodIn big (c :: a)) (hb : GoodIn big b) : GoodIn big (c :: (a ++ b)) := fun w h => (List.mem_cons.mp h).elim (fun e => ha w (List.mem_cons.mpr (Or.inl e))) (fun h => (List.mem_append.mp h).elim (fun h => ha w (List.mem_cons.mpr (Or.inr h))) (hb w))
theorem goodIn_sub {big ws : List Cond} (hm : ∀ w ∈ ws, w ∈ big) (h : ws.all goodWord = true) : GoodIn big ws := fun w hw => ⟨hm w hw, good_of_word (List.all_eq_true.mp h w hw)⟩
/-! ===== END ===== -/

/-! ===== BEGIN printed: names, fields, word lists, decode rows ===== -/
def RX0 : String := "PairingDesk$Curve"
def TX0 : u_T := fun k => match k with
  | 0 => ("PairingDesk$Curve", "field", "LPairingDesk$PrimeField;", true)
  | 1 => ("PairingDesk$Curve", "p", "J", true)
  | 2 => ("PairingDesk$Curve", "\x72", "J", true)
  | 3 => ("PairingDesk$Curve", "h", "J", true)
  | 4 => ("PairingDesk$Curve", "base", "J", true)
  | _ => ("PairingDesk$Curve", "tried", "I", false)
def tyX0 : Nat → FieldType := fun k => match k with
  | 0 => .object "PairingDesk$PrimeField"
  | 1 => .long
  | 2 => .long
  | 3 => .long
  | 4 => .long
  | _ => .int
abbrev wsX00 : List Cond := u_ws RX0 TX0 6
theorem nmX0 : ∀ a, a < 6 → ∀ b, b < 6 → a ≠ b → (TX0 a).2.1 ≠ (TX0 b).2.1 := by decide +kernel
theorem tyX0_ok : ∀ k, k < 6 → parseFieldDescriptor (TX0 k).2.2.1 = some (tyX0 k) := by decide +kernel
abbrev cX0_init : ByteArray := prog_2_method_1_code
def yX0_init : MethodName := ⟨RX0, "<init>", "(LPairingDesk$PrimeField;J)V"⟩
abbrev cX0_isKey : ByteArray := prog_2_method_2_code
def yX0_isKey : MethodName := ⟨RX0, "isKey", "(I)Z"⟩
abbrev cX0_squareOfY : ByteArray := prog_2_method_3_code
def yX0_squareOfY : MethodName := ⟨RX0, "squareOfY", "(J)J"⟩
abbrev cX0_passes : ByteArray := prog_2_method_4_code
def yX0_passes : MethodName := ⟨RX0, "passes", "(JJ)Z"⟩
abbrev cX0_areOpposite : ByteArray := prog_2_method_5_code
def yX0_areOpposite : MethodName := ⟨RX0, "areOpposite", "(JJ)Z"⟩
abbrev cX0_slope : ByteArray := prog_2_method_6_code
def yX0_slope : MethodName := ⟨RX0, "slope", "(JJ)J"⟩
abbrev cX0_sum : ByteArray := prog_2_method_7_code
def yX0_sum : MethodName := ⟨RX0, "sum", "(JJ)J"⟩
abbrev cX0_multiple : ByteArray := prog_2_method_8_code
def yX0_multiple : MethodName := ⟨RX0, "multiple", "(JJ)J"⟩
abbrev cX0_orderOf : ByteArray := prog_2_method_9_code
def yX0_orderOf : MethodName := ⟨RX0, "orderOf", "(J)J"⟩
abbrev cX0_orderWithout : ByteArray := prog_2_method_10_code
def yX0_orderWithout : MethodName := ⟨RX0, "orderWithout", "(JJJ)J"⟩
abbrev cX0_firstTried : ByteArray := prog_2_method_11_code
def yX0_firstTried : MethodName := ⟨RX0, "firstTried", "(J)J"⟩
abbrev cX0_turned : ByteArray := prog_2_method_12_code
def yX0_turned : MethodName := ⟨RX0, "turned", "(J)J"⟩
abbrev cX0_pointWritten : ByteArray := prog_2_method_13_code
def yX0_pointWritten : MethodName := ⟨RX0, "pointWritten", "(J)J"⟩
def RX1 : String := "PairingDesk$Pairing"
def TX1 : u_T := fun k => match k with
  | 0 => ("PairingDesk$Pairing", "curve", "LPairingDesk$Curve;", true)
  | 1 => ("PairingDesk$Pairing", "p", "J", true)
  | _ => ("PairingDesk$Pairing", "\x72", "J", true)
def tyX1 : Nat → FieldType := fun k => match k with
  | 0 => .object "PairingDesk$Curve"
  | 1 => .long
  | _ => .long
abbrev wsX10 : List Cond := u_ws RX1 TX1 3
theorem nmX1 : ∀ a, a < 3 → ∀ b, b < 3 → a ≠ b → (TX1 a).2.1 ≠ (TX1 b).2.1 := by decide +kernel
theorem tyX1_ok : ∀ k, k < 3 → parseFieldDescriptor (TX1 k).2.2.1 = some (tyX1 k) := by decide +kernel
abbrev cX1_init : ByteArray := prog_3_method_1_code
def yX1_init : MethodName := ⟨RX1, "<init>", "(LPairingDesk$Curve;)V"⟩
abbrev cX1_takes : ByteArray := prog_3_method_2_code
def yX1_takes : MethodName := ⟨RX1, "takes", "(J)Z"⟩
abbrev cX1_product : ByteArray := prog_3_method_3_code
def yX1_product : MethodName := ⟨RX1, "product", "(JJ)J"⟩
abbrev cX1_raised : ByteArray := prog_3_method_4_code
def yX1_raised : MethodName := ⟨RX1, "raised", "(JJ)J"⟩
abbrev cX1_bitsBehindHighest : ByteArray := prog_3_method_5_code
def yX1_bitsBehindHighest : MethodName := ⟨RX1, "bitsBehindHighest", "()I"⟩
abbrev cX1_linesOf : ByteArray := prog_3_method_6_code
def yX1_linesOf : MethodName := ⟨RX1, "linesOf", "(JJ)I"⟩
abbrev cX1_of : ByteArray := prog_3_method_7_code
def yX1_of : MethodName := ⟨RX1, "of", "(JJ)J"⟩
abbrev cX1_line : ByteArray := prog_3_method_8_code
def yX1_line : MethodName := ⟨RX1, "line", "(JJJ)J"⟩
abbrev cX1_agree : ByteArray := prog_3_method_9_code
def yX1_agree : MethodName := ⟨RX1, "agree", "(J[JIIJ)Z"⟩
abbrev cX1_takeAll : ByteArray := prog_3_method_10_code
def yX1_takeAll : MethodName := ⟨RX1, "takeAll", "([JII)Z"⟩
def RX2 : String := "PairingDesk$PrimeField"
def TX2 : u_T := fun k => match k with
  | _ => ("PairingDesk$PrimeField", "p", "J", true)
def tyX2 : Nat → FieldType := fun k => match k with
  | _ => .long
abbrev wsX20 : List Cond := u_ws RX2 TX2 1
theorem nmX2 : ∀ a, a < 1 → ∀ b, b < 1 → a ≠ b → (TX2 a).2.1 ≠ (TX2 b).2.1 := by decide +kernel
theorem tyX2_ok : ∀ k, k < 1 → parseFieldDescriptor (TX2 k).2.2.1 = some (tyX2 k) := by decide +kernel
abbrev cX2_init : ByteArray := prog_4_method_1_code
def yX2_init : MethodName := ⟨RX2, "<init>", "(J)V"⟩
abbrev cX2_has : ByteArray := prog_4_method_2_code
def yX2_has : MethodName := ⟨RX2, "has", "(I)Z"⟩
abbrev cX2_product : ByteArray := prog_4_method_3_code
def yX2_product : MethodName := ⟨RX2, "product", "(JJ)J"⟩
abbrev cX2_difference : ByteArray := prog_4_method_4_code
def yX2_difference : MethodName := ⟨RX2, "difference", "(JJ)J"⟩
abbrev cX2_inverse : ByteArray := prog_4_method_5_code
def yX2_inverse : MethodName := ⟨RX2, "inverse", "(J)J"⟩
abbrev cX2_evenRoot : ByteArray := prog_4_method_6_code
def yX2_evenRoot : MethodName := ⟨RX2, "evenRoot", "(J)J"⟩
def RX3 : String := "PairingDesk"
def TX3 : u_T := fun k => match k with
  | 0 => ("PairingDesk", "slots", "[J", true)
  | 1 => ("PairingDesk", "values", "[J", true)
  | 2 => ("PairingDesk", "curve", "LPairingDesk$Curve;", false)
  | _ => ("PairingDesk", "pairing", "LPairingDesk$Pairing;", false)
def tyX3 : Nat → FieldType := fun k => match k with
  | 0 => .array .long
  | 1 => .array .long
  | 2 => .object "PairingDesk$Curve"
  | _ => .object "PairingDesk$Pairing"
abbrev wsX30 : List Cond := u_ws RX3 TX3 4
theorem nmX3 : ∀ a, a < 4 → ∀ b, b < 4 → a ≠ b → (TX3 a).2.1 ≠ (TX3 b).2.1 := by decide +kernel
theorem tyX3_ok : ∀ k, k < 4 → parseFieldDescriptor (TX3 k).2.2.1 = some (tyX3 k) := by decide +kernel
abbrev cX3_init : ByteArray := prog_1_method_1_code
def yX3_init : MethodName := ⟨RX3, "<init>", "()V"⟩
abbrev cX3_field : ByteArray := prog_1_method_2_code
def yX3_field : MethodName := ⟨RX3, "field", "(II)I"⟩
abbrev cX3_told : ByteArray := prog_1_method_3_code
def yX3_told : MethodName := ⟨RX3, "told", "(I)I"⟩
abbrev cX3_root : ByteArray := prog_1_method_4_code
def yX3_root : MethodName := ⟨RX3, "root", "(I)I"⟩
abbrev cX3_point : ByteArray := prog_1_method_5_code
def yX3_point : MethodName := ⟨RX3, "point", "(III)I"⟩
abbrev cX3_nowhere : ByteArray := prog_1_method_6_code
def yX3_nowhere : MethodName := ⟨RX3, "nowhere", "(I)I"⟩
abbrev cX3_turn : ByteArray := prog_1_method_7_code
def yX3_turn : MethodName := ⟨RX3, "turn", "(IJ)I"⟩
abbrev cX3_add : ByteArray := prog_1_method_8_code
def yX3_add : MethodName := ⟨RX3, "add", "(III)I"⟩
abbrev cX3_times : ByteArray := prog_1_method_9_code
def yX3_times : MethodName := ⟨RX3, "times", "(IIJ)I"⟩
abbrev cX3_at : ByteArray := prog_1_method_10_code
def yX3_at : MethodName := ⟨RX3, "at", "(II)I"⟩
abbrev cX3_order : ByteArray := prog_1_method_11_code
def yX3_order : MethodName := ⟨RX3, "order", "(I)I"⟩
abbrev cX3_write : ByteArray := prog_1_method_12_code
def yX3_write : MethodName := ⟨RX3, "write", "(I)J"⟩
abbrev cX3_read : ByteArray := prog_1_method_13_code
def yX3_read : MethodName := ⟨RX3, "read", "(IJ)I"⟩
abbrev cX3_pair : ByteArray := prog_1_method_14_code
def yX3_pair : MethodName := ⟨RX3, "pair", "(III)I"⟩
abbrev cX3_multiply : ByteArray := prog_1_method_15_code
def yX3_multiply : MethodName := ⟨RX3, "multiply", "(III)I"⟩
abbrev cX3_power : ByteArray := prog_1_method_16_code
def yX3_power : MethodName := ⟨RX3, "power", "(IIJ)I"⟩
abbrev cX3_value : ByteArray := prog_1_method_17_code
def yX3_value : MethodName := ⟨RX3, "value", "(II)I"⟩
abbrev cX3_open : ByteArray := prog_1_method_18_code
def yX3_open : MethodName := ⟨RX3, "open", "(II)I"⟩
abbrev cX3_sign : ByteArray := prog_1_method_19_code
def yX3_sign : MethodName := ⟨RX3, "sign", "(IIJ)I"⟩
abbrev cX3_holds : ByteArray := prog_1_method_20_code
def yX3_holds : MethodName := ⟨RX3, "holds", "(IJI)I"⟩
abbrev cX3_holdsAll : ByteArray := prog_1_method_21_code
def yX3_holdsAll : MethodName := ⟨RX3, "holdsAll", "(IIJI)I"⟩
abbrev cX3_digest : ByteArray := prog_1_method_22_code
def yX3_digest : MethodName := ⟨RX3, "digest", "()J"⟩
abbrev cX3_clearRows : ByteArray := prog_1_method_23_code
def yX3_clearRows : MethodName := ⟨RX3, "clearRows", "()V"⟩
abbrev cX3_isSlot : ByteArray := prog_1_method_24_code
def yX3_isSlot : MethodName := ⟨RX3, "isSlot", "(I)Z"⟩
abbrev cX3_isValue : ByteArray := prog_1_method_25_code
def yX3_isValue : MethodName := ⟨RX3, "isValue", "(I)Z"⟩
abbrev cX3_isHalf : ByteArray := prog_1_method_26_code
def yX3_isHalf : MethodName := ⟨RX3, "isHalf", "(I)Z"⟩
abbrev cX3_fitTogether : ByteArray := prog_1_method_27_code
def yX3_fitTogether : MethodName := ⟨RX3, "fitTogether", "(II)Z"⟩
abbrev cX3_isOddPrime : ByteArray := prog_1_method_28_code
def yX3_isOddPrime : MethodName := ⟨RX3, "isOddPrime", "(J)Z"⟩
abbrev cX3_joined : ByteArray := prog_1_method_29_code
def yX3_joined : MethodName := ⟨RX3, "joined", "(JJ)J"⟩
abbrev cX3_upper : ByteArray := prog_1_method_30_code
def yX3_upper : MethodName := ⟨RX3, "upper", "(J)J"⟩
abbrev cX3_lower : ByteArray := prog_1_method_31_code
def yX3_lower : MethodName := ⟨RX3, "lower", "(J)J"⟩
abbrev cX3_half : ByteArray := prog_1_method_32_code
def yX3_half : MethodName := ⟨RX3, "half", "(JI)I"⟩
abbrev cX3_written : ByteArray := prog_1_method_33_code
def yX3_written : MethodName := ⟨RX3, "written", "(J)J"⟩
def RX4 : String := "PairingDeskModel"
def TX4 : u_T := fun k => match k with
  | 0 => ("PairingDeskModel", "p", "J", false)
  | 1 => ("PairingDeskModel", "\x72", "J", false)
  | 2 => ("PairingDeskModel", "h", "J", false)
  | 3 => ("PairingDeskModel", "px", "[J", true)
  | 4 => ("PairingDeskModel", "py", "[J", true)
  | 5 => ("PairingDeskModel", "isPoint", "[Z", true)
  | 6 => ("PairingDeskModel", "vu", "[J", true)
  | 7 => ("PairingDeskModel", "vv", "[J", true)
  | 8 => ("PairingDeskModel", "x", "J", false)
  | 9 => ("PairingDeskModel", "y", "J", false)
  | 10 => ("PairingDeskModel", "is", "Z", false)
  | 11 => ("PairingDeskModel", "u", "J", false)
  | 12 => ("PairingDeskModel", "v", "J", false)
  | _ => ("PairingDeskModel", "lines", "I", false)
def tyX4 : Nat → FieldType := fun k => match k with
  | 0 => .long
  | 1 => .long
  | 2 => .long
  | 3 => .array .long
  | 4 => .array .long
  | 5 => .array .boolean
  | 6 => .array .long
  | 7 => .array .long
  | 8 => .long
  | 9 => .long
  | 10 => .boolean
  | 11 => .long
  | 12 => .long
  | _ => .int
abbrev wsX40 : List Cond := u_ws RX4 TX4 14
theorem nmX4 : ∀ a, a < 14 → ∀ b, b < 14 → a ≠ b → (TX4 a).2.1 ≠ (TX4 b).2.1 := by decide +kernel
theorem tyX4_ok : ∀ k, k < 14 → parseFieldDescriptor (TX4 k).2.2.1 = some (tyX4 k) := by decide +kernel
abbrev cX4_init : ByteArray := prog_6_method_1_code
def yX4_init : MethodName := ⟨RX4, "<init>", "()V"⟩
abbrev cX4_in : ByteArray := prog_6_method_2_code
def yX4_in : MethodName := ⟨RX4, "in", "(JJJ)Z"⟩
abbrev cX4_isPrime : ByteArray := prog_6_method_3_code
def yX4_isPrime : MethodName := ⟨RX4, "isPrime", "(J)Z"⟩
abbrev cX4_fit : ByteArray := prog_6_method_4_code
def yX4_fit : MethodName := ⟨RX4, "fit", "(J)J"⟩
abbrev cX4_raised : ByteArray := prog_6_method_5_code
def yX4_raised : MethodName := ⟨RX4, "raised", "(JJ)J"⟩
abbrev cX4_turned : ByteArray := prog_6_method_6_code
def yX4_turned : MethodName := ⟨RX4, "turned", "(J)J"⟩
abbrev cX4_rootOf : ByteArray := prog_6_method_7_code
def yX4_rootOf : MethodName := ⟨RX4, "rootOf", "(J)J"⟩
abbrev cX4_curve : ByteArray := prog_6_method_8_code
def yX4_curve : MethodName := ⟨RX4, "curve", "(J)J"⟩
abbrev cX4_field : ByteArray := prog_6_method_9_code
def yX4_field : MethodName := ⟨RX4, "field", "(II)I"⟩
abbrev cX4_told : ByteArray := prog_6_method_10_code
def yX4_told : MethodName := ⟨RX4, "told", "(I)I"⟩
abbrev cX4_root : ByteArray := prog_6_method_11_code
def yX4_root : MethodName := ⟨RX4, "root", "(I)I"⟩
abbrev cX4_load : ByteArray := prog_6_method_12_code
def yX4_load : MethodName := ⟨RX4, "load", "(I)V"⟩
abbrev cX4_store : ByteArray := prog_6_method_13_code
def yX4_store : MethodName := ⟨RX4, "store", "(I)V"⟩
abbrev cX4_slope : ByteArray := prog_6_method_14_code
def yX4_slope : MethodName := ⟨RX4, "slope", "(JJJJ)J"⟩
abbrev cX4_plus : ByteArray := prog_6_method_15_code
def yX4_plus : MethodName := ⟨RX4, "plus", "(JJZ)V"⟩
abbrev cX4_take : ByteArray := prog_6_method_16_code
def yX4_take : MethodName := ⟨RX4, "take", "(J)V"⟩
abbrev cX4_isSlot : ByteArray := prog_6_method_17_code
def yX4_isSlot : MethodName := ⟨RX4, "isSlot", "(I)Z"⟩
abbrev cX4_point : ByteArray := prog_6_method_18_code
def yX4_point : MethodName := ⟨RX4, "point", "(III)I"⟩
abbrev cX4_nowhere : ByteArray := prog_6_method_19_code
def yX4_nowhere : MethodName := ⟨RX4, "nowhere", "(I)I"⟩
abbrev cX4_turnOf : ByteArray := prog_6_method_20_code
def yX4_turnOf : MethodName := ⟨RX4, "turnOf", "(J)I"⟩
abbrev cX4_turn : ByteArray := prog_6_method_21_code
def yX4_turn : MethodName := ⟨RX4, "turn", "(IJ)I"⟩
abbrev cX4_add : ByteArray := prog_6_method_22_code
def yX4_add : MethodName := ⟨RX4, "add", "(III)I"⟩
abbrev cX4_times : ByteArray := prog_6_method_23_code
def yX4_times : MethodName := ⟨RX4, "times", "(IIJ)I"⟩
abbrev cX4_at : ByteArray := prog_6_method_24_code
def yX4_at : MethodName := ⟨RX4, "at", "(II)I"⟩
abbrev cX4_order : ByteArray := prog_6_method_25_code
def yX4_order : MethodName := ⟨RX4, "order", "(I)I"⟩
abbrev cX4_written : ByteArray := prog_6_method_26_code
def yX4_written : MethodName := ⟨RX4, "written", "(I)J"⟩
abbrev cX4_write : ByteArray := prog_6_method_27_code
def yX4_write : MethodName := ⟨RX4, "write", "(I)J"⟩
abbrev cX4_read : ByteArray := prog_6_method_28_code
def yX4_read : MethodName := ⟨RX4, "read", "(IJ)I"⟩
abbrev cX4_multiply2 : ByteArray := prog_6_method_29_code
def yX4_multiply2 : MethodName := ⟨RX4, "multiply2", "(JJ)V"⟩
abbrev cX4_power2 : ByteArray := prog_6_method_30_code
def yX4_power2 : MethodName := ⟨RX4, "power2", "(J)V"⟩
abbrev cX4_line : ByteArray := prog_6_method_31_code
def yX4_line : MethodName := ⟨RX4, "line", "(JJZJJ)V"⟩
abbrev cX4_pairOf : ByteArray := prog_6_method_32_code
def yX4_pairOf : MethodName := ⟨RX4, "pairOf", "(JJZJJZ)V"⟩
abbrev cX4_isOfR : ByteArray := prog_6_method_33_code
def yX4_isOfR : MethodName := ⟨RX4, "isOfR", "(I)Z"⟩
abbrev cX4_isValue : ByteArray := prog_6_method_34_code
def yX4_isValue : MethodName := ⟨RX4, "isValue", "(I)Z"⟩
abbrev cX4_pair : ByteArray := prog_6_method_35_code
def yX4_pair : MethodName := ⟨RX4, "pair", "(III)I"⟩
abbrev cX4_keepValue : ByteArray := prog_6_method_36_code
def yX4_keepValue : MethodName := ⟨RX4, "keepValue", "(I)I"⟩
abbrev cX4_multiply : ByteArray := prog_6_method_37_code
def yX4_multiply : MethodName := ⟨RX4, "multiply", "(III)I"⟩
abbrev cX4_power : ByteArray := prog_6_method_38_code
def yX4_power : MethodName := ⟨RX4, "power", "(IIJ)I"⟩
abbrev cX4_value : ByteArray := prog_6_method_39_code
def yX4_value : MethodName := ⟨RX4, "value", "(II)I"⟩
abbrev cX4_open : ByteArray := prog_6_method_40_code
def yX4_open : MethodName := ⟨RX4, "open", "(II)I"⟩
abbrev cX4_sign : ByteArray := prog_6_method_41_code
def yX4_sign : MethodName := ⟨RX4, "sign", "(IIJ)I"⟩
abbrev cX4_pairWithBase : ByteArray := prog_6_method_42_code
def yX4_pairWithBase : MethodName := ⟨RX4, "pairWithBase", "(I)V"⟩
abbrev cX4_pairTurned : ByteArray := prog_6_method_43_code
def yX4_pairTurned : MethodName := ⟨RX4, "pairTurned", "(JI)V"⟩
abbrev cX4_holds : ByteArray := prog_6_method_44_code
def yX4_holds : MethodName := ⟨RX4, "holds", "(IJI)I"⟩
abbrev cX4_holdsAll : ByteArray := prog_6_method_45_code
def yX4_holdsAll : MethodName := ⟨RX4, "holdsAll", "(IIJI)I"⟩
abbrev cX4_digest : ByteArray := prog_6_method_46_code
def yX4_digest : MethodName := ⟨RX4, "digest", "()J"⟩
def RJ6 : String := "java/lang/Integer"
def TJ6 : u_T := fun k => match k with
  | _ => ("", "", "", false)
def tyJ6 : Nat → FieldType := fun k => match k with
  | _ => .int
abbrev wsJ60 : List Cond := u_ws RJ6 TJ6 0
theorem nmJ6 : ∀ a, a < 0 → ∀ b, b < 0 → a ≠ b → (TJ6 a).2.1 ≠ (TJ6 b).2.1 := by decide +kernel
theorem tyJ6_ok : ∀ k, k < 0 → parseFieldDescriptor (TJ6 k).2.2.1 = some (tyJ6 k) := by decide +kernel
abbrev cJ6_numberOfLeadingZeros_0f7a4 : ByteArray := prog_7_method_47_code
def yJ6_numberOfLeadingZeros_0f7a4 : MethodName := ⟨RJ6, "numberOfLeadingZeros", "(I)I"⟩
def RJ13 : String := "java/lang/Long"
def TJ13 : u_T := fun k => match k with
  | _ => ("", "", "", false)
def tyJ13 : Nat → FieldType := fun k => match k with
  | _ => .int
abbrev wsJ130 : List Cond := u_ws RJ13 TJ13 0
theorem nmJ13 : ∀ a, a < 0 → ∀ b, b < 0 → a ≠ b → (TJ13 a).2.1 ≠ (TJ13 b).2.1 := by decide +kernel
theorem tyJ13_ok : ∀ k, k < 0 → parseFieldDescriptor (TJ13 k).2.2.1 = some (tyJ13 k) := by decide +kernel
abbrev cJ13_numberOfLeadingZeros_95d88 : ByteArray := prog_8_method_48_code
def yJ13_numberOfLeadingZeros_95d88 : MethodName := ⟨RJ13, "numberOfLeadingZeros", "(J)I"⟩
abbrev cJ13_bitCount_95d88 : ByteArray := prog_8_method_50_code
def yJ13_bitCount_95d88 : MethodName := ⟨RJ13, "bitCount", "(J)I"⟩
def RJ9 : String := "java/lang/Math"
def TJ9 : u_T := fun k => match k with
  | _ => ("", "", "", false)
def tyJ9 : Nat → FieldType := fun k => match k with
  | _ => .int
abbrev wsJ90 : List Cond := u_ws RJ9 TJ9 0
theorem nmJ9 : ∀ a, a < 0 → ∀ b, b < 0 → a ≠ b → (TJ9 a).2.1 ≠ (TJ9 b).2.1 := by decide +kernel
theorem tyJ9_ok : ∀ k, k < 0 → parseFieldDescriptor (TJ9 k).2.2.1 = some (tyJ9 k) := by decide +kernel
abbrev cJ9_floorMod_f86c9 : ByteArray := prog_9_method_52_code
def yJ9_floorMod_f86c9 : MethodName := ⟨RJ9, "floorMod", "(JJ)J"⟩
def RL : String := "PairingDeskLaw"
abbrev cL_law : ByteArray := code
def yL_law : MethodName := ⟨RL, "law", "([I)Z"⟩
def wsX0_firstTried : List Cond := .code yX0_firstTried cX0_firstTried 3 (some .long) :: ([.fieldLink RX0 21 "PairingDesk$Curve" "p" "J", .constantLong RX0 50 (2)] ++ wsX00)
def wsX2_product : List Cond := .code yX2_product cX2_product 5 (some .long) :: ([.fieldLink RX2 9 "PairingDesk$PrimeField" "p" "J"] ++ wsX20)
def wsX0_squareOfY : List Cond := .code yX0_squareOfY cX0_squareOfY 3 (some .long) :: ([.fieldLink RX0 9 "PairingDesk$Curve" "field" "LPairingDesk$PrimeField;", .fieldLink RX0 21 "PairingDesk$Curve" "p" "J", .methodLink RX0 35 yX2_product, .instanceMethod yX2_product, .selects RX2 yX2_product yX2_product, .initialized RX2, .code yX2_product cX2_product 5 (some .long), .fieldLink RX2 9 "PairingDesk$PrimeField" "p" "J"] ++ wsX00 ++ wsX20)
def wsX2_evenRoot : List Cond := .code yX2_evenRoot cX2_evenRoot 9 (some .long) :: ([.fieldLink RX2 9 "PairingDesk$PrimeField" "p" "J", .constantLong RX2 15 (4), .constantLong RX2 17 (2), .constantLong RX2 23 (-1), .methodLink RX2 19 yX2_product, .instanceMethod yX2_product, .selects RX2 yX2_product yX2_product, .initialized RX2, .code yX2_product cX2_product 5 (some .long)] ++ wsX20)
def wsX3_joined : List Cond := .code yX3_joined cX3_joined 4 (some .long) :: ([])
def wsJ9_floorMod_f86c9 : List Cond := .code yJ9_floorMod_f86c9 cJ9_floorMod_f86c9 6 (some .long) :: ([])
def wsX3_upper : List Cond := .code yX3_upper cX3_upper 2 (some .long) :: ([])
def wsX3_lower : List Cond := .code yX3_lower cX3_lower 2 (some .long) :: ([.constantLong RX3 163 (2147483647)])
def wsX0_areOpposite : List Cond := .code yX0_areOpposite cX0_areOpposite 5 (some .boolean) :: ([.fieldLink RX0 21 "PairingDesk$Curve" "p" "J", .static yX3_upper, .initialized RX3, .code yX3_upper cX3_upper 2 (some .long), .static yX3_lower, .code yX3_lower cX3_lower 2 (some .long), .constantLong RX3 163 (2147483647)] ++ wsX00)
def wsX2_inverse : List Cond := .code yX2_inverse cX2_inverse 18 (some .long) :: ([.fieldLink RX2 9 "PairingDesk$PrimeField" "p" "J"] ++ wsX20)
def wsX2_difference : List Cond := .code yX2_difference cX2_difference 5 (some .long) :: ([.fieldLink RX2 9 "PairingDesk$PrimeField" "p" "J"] ++ wsX20)
def wsX0_slope : List Cond := .code yX0_slope cX0_slope 11 (some .long) :: ([.constantLong RX0 48 (3), .fieldLink RX0 9 "PairingDesk$Curve" "field" "LPairingDesk$PrimeField;", .fieldLink RX0 21 "PairingDesk$Curve" "p" "J", .constantLong RX0 50 (2), .static yX3_upper, .initialized RX3, .code yX3_upper cX3_upper 2 (some .long), .static yX3_lower, .code yX3_lower cX3_lower 2 (some .long), .constantLong RX3 163 (2147483647), .methodLink RX0 35 yX2_product, .instanceMethod yX2_product, .selects RX2 yX2_product yX2_product, .initialized RX2, .code yX2_product cX2_product 5 (some .long), .fieldLink RX2 9 "PairingDesk$PrimeField" "p" "J", .methodLink RX0 52 yX2_inverse, .instanceMethod yX2_inverse, .selects RX2 yX2_inverse yX2_inverse, .code yX2_inverse cX2_inverse 18 (some .long), .methodLink RX0 55 yX2_difference, .instanceMethod yX2_difference, .selects RX2 yX2_difference yX2_difference, .code yX2_difference cX2_difference 5 (some .long)] ++ wsX00 ++ wsX20)
def wsX0_sum_r1 : List Cond := [Cond.constantLong RX0 58 (-1), Cond.fieldLink RX0 9 "PairingDesk$Curve" "field" "LPairingDesk$PrimeField;", Cond.methodLink RX0 60 yX0_areOpposite, Cond.instanceMethod yX0_areOpposite, Cond.selects RX0 yX0_areOpposite yX0_areOpposite, Cond.initialized RX0, Cond.code yX0_areOpposite cX0_areOpposite 5 (some .boolean), Cond.fieldLink RX0 21 "PairingDesk$Curve" "p" "J", Cond.static yX3_upper, Cond.initialized RX3, Cond.code yX3_upper cX3_upper 2 (some .long), Cond.static yX3_lower, Cond.code yX3_lower cX3_lower 2 (some .long), Cond.constantLong RX3 163 (2147483647), Cond.methodLink RX0 64 yX0_slope, Cond.instanceMethod yX0_slope, Cond.selects RX0 yX0_slope yX0_slope, Cond.code yX0_slope cX0_slope 11 (some .long), Cond.constantLong RX0 48 (3), Cond.constantLong RX0 50 (2), Cond.methodLink RX0 35 yX2_product, Cond.instanceMethod yX2_product, Cond.selects RX2 yX2_product yX2_product, Cond.initialized RX2]
def wsX0_sum_r2 : List Cond := [Cond.code yX2_product cX2_product 5 (some .long), Cond.fieldLink RX2 9 "PairingDesk$PrimeField" "p" "J", Cond.methodLink RX0 52 yX2_inverse, Cond.instanceMethod yX2_inverse, Cond.selects RX2 yX2_inverse yX2_inverse, Cond.code yX2_inverse cX2_inverse 18 (some .long), Cond.methodLink RX0 55 yX2_difference, Cond.instanceMethod yX2_difference, Cond.selects RX2 yX2_difference yX2_difference, Cond.code yX2_difference cX2_difference 5 (some .long), Cond.static yX3_joined, Cond.code yX3_joined cX3_joined 4 (some .long)]
def wsX0_sum : List Cond := .code yX0_sum cX0_sum 11 (some .long) :: ((wsX0_sum_r1 ++ wsX0_sum_r2) ++ wsX00 ++ wsX20)
def wsX0_multiple_r1 : List Cond := [Cond.constantLong RX0 58 (-1), Cond.fieldLink RX0 21 "PairingDesk$Curve" "p" "J", Cond.constantLong RX0 50 (2), Cond.methodLink RX0 70 yJ9_floorMod_f86c9, Cond.static yJ9_floorMod_f86c9, Cond.initialized RJ9, Cond.code yJ9_floorMod_f86c9 cJ9_floorMod_f86c9 6 (some .long), Cond.methodLink RX0 75 yX0_sum, Cond.instanceMethod yX0_sum, Cond.selects RX0 yX0_sum yX0_sum, Cond.initialized RX0, Cond.code yX0_sum cX0_sum 11 (some .long), Cond.fieldLink RX0 9 "PairingDesk$Curve" "field" "LPairingDesk$PrimeField;", Cond.methodLink RX0 60 yX0_areOpposite, Cond.instanceMethod yX0_areOpposite, Cond.selects RX0 yX0_areOpposite yX0_areOpposite, Cond.code yX0_areOpposite cX0_areOpposite 5 (some .boolean), Cond.static yX3_upper, Cond.initialized RX3, Cond.code yX3_upper cX3_upper 2 (some .long), Cond.static yX3_lower, Cond.code yX3_lower cX3_lower 2 (some .long), Cond.constantLong RX3 163 (2147483647), Cond.methodLink RX0 64 yX0_slope]
def wsX0_multiple_r2 : List Cond := [Cond.instanceMethod yX0_slope, Cond.selects RX0 yX0_slope yX0_slope, Cond.code yX0_slope cX0_slope 11 (some .long), Cond.constantLong RX0 48 (3), Cond.methodLink RX0 35 yX2_product, Cond.instanceMethod yX2_product, Cond.selects RX2 yX2_product yX2_product, Cond.initialized RX2, Cond.code yX2_product cX2_product 5 (some .long), Cond.fieldLink RX2 9 "PairingDesk$PrimeField" "p" "J", Cond.methodLink RX0 52 yX2_inverse, Cond.instanceMethod yX2_inverse, Cond.selects RX2 yX2_inverse yX2_inverse, Cond.code yX2_inverse cX2_inverse 18 (some .long), Cond.methodLink RX0 55 yX2_difference, Cond.instanceMethod yX2_difference, Cond.selects RX2 yX2_difference yX2_difference, Cond.code yX2_difference cX2_difference 5 (some .long), Cond.static yX3_joined, Cond.code yX3_joined cX3_joined 4 (some .long)]
def wsX0_multiple : List Cond := .code yX0_multiple cX0_multiple 11 (some .long) :: ((wsX0_multiple_r1 ++ wsX0_multiple_r2) ++ wsX00 ++ wsX20)
def wsX0_turned_r1 : List Cond := [Cond.fieldLink RX0 88 "PairingDesk$Curve" "tried" "I", Cond.fieldLink RX0 9 "PairingDesk$Curve" "field" "LPairingDesk$PrimeField;", Cond.fieldLink RX0 25 "PairingDesk$Curve" "h" "J", Cond.constantLong RX0 58 (-1), Cond.fieldLink RX0 21 "PairingDesk$Curve" "p" "J", Cond.methodLink RX0 85 yX0_firstTried, Cond.instanceMethod yX0_firstTried, Cond.selects RX0 yX0_firstTried yX0_firstTried, Cond.initialized RX0, Cond.code yX0_firstTried cX0_firstTried 3 (some .long), Cond.constantLong RX0 50 (2), Cond.methodLink RX0 39 yX0_squareOfY, Cond.instanceMethod yX0_squareOfY, Cond.selects RX0 yX0_squareOfY yX0_squareOfY, Cond.code yX0_squareOfY cX0_squareOfY 3 (some .long), Cond.methodLink RX0 35 yX2_product, Cond.instanceMethod yX2_product, Cond.selects RX2 yX2_product yX2_product, Cond.initialized RX2, Cond.code yX2_product cX2_product 5 (some .long), Cond.fieldLink RX2 9 "PairingDesk$PrimeField" "p" "J", Cond.methodLink RX0 92 yX2_evenRoot, Cond.instanceMethod yX2_evenRoot, Cond.selects RX2 yX2_evenRoot yX2_evenRoot]
def wsX0_turned_r2 : List Cond := [Cond.code yX2_evenRoot cX2_evenRoot 9 (some .long), Cond.constantLong RX2 15 (4), Cond.constantLong RX2 17 (2), Cond.constantLong RX2 23 (-1), Cond.methodLink RX2 19 yX2_product, Cond.static yX3_joined, Cond.initialized RX3, Cond.code yX3_joined cX3_joined 4 (some .long), Cond.methodLink RX0 82 yX0_multiple, Cond.instanceMethod yX0_multiple, Cond.selects RX0 yX0_multiple yX0_multiple, Cond.code yX0_multiple cX0_multiple 11 (some .long), Cond.methodLink RX0 70 yJ9_floorMod_f86c9, Cond.static yJ9_floorMod_f86c9, Cond.initialized RJ9, Cond.code yJ9_floorMod_f86c9 cJ9_floorMod_f86c9 6 (some .long), Cond.methodLink RX0 75 yX0_sum, Cond.instanceMethod yX0_sum, Cond.selects RX0 yX0_sum yX0_sum, Cond.code yX0_sum cX0_sum 11 (some .long), Cond.methodLink RX0 60 yX0_areOpposite, Cond.instanceMethod yX0_areOpposite, Cond.selects RX0 yX0_areOpposite yX0_areOpposite, Cond.code yX0_areOpposite cX0_areOpposite 5 (some .boolean)]
def wsX0_turned_r3 : List Cond := [Cond.static yX3_upper, Cond.code yX3_upper cX3_upper 2 (some .long), Cond.static yX3_lower, Cond.code yX3_lower cX3_lower 2 (some .long), Cond.constantLong RX3 163 (2147483647), Cond.methodLink RX0 64 yX0_slope, Cond.instanceMethod yX0_slope, Cond.selects RX0 yX0_slope yX0_slope, Cond.code yX0_slope cX0_slope 11 (some .long), Cond.constantLong RX0 48 (3), Cond.methodLink RX0 52 yX2_inverse, Cond.instanceMethod yX2_inverse, Cond.selects RX2 yX2_inverse yX2_inverse, Cond.code yX2_inverse cX2_inverse 18 (some .long), Cond.methodLink RX0 55 yX2_difference, Cond.instanceMethod yX2_difference, Cond.selects RX2 yX2_difference yX2_difference, Cond.code yX2_difference cX2_difference 5 (some .long)]
def wsX0_turned : List Cond := .code yX0_turned cX0_turned 10 (some .long) :: ((wsX0_turned_r1 ++ (wsX0_turned_r2 ++ wsX0_turned_r3)) ++ wsX00 ++ wsX20)
def wsX0_init_r1 : List Cond := [Cond.methodLink RX0 3 objectInit, Cond.instanceMethod objectInit, Cond.code objectInit ⟨#[0xb1]⟩ 1 none, Cond.fieldLink RX0 9 "PairingDesk$Curve" "field" "LPairingDesk$PrimeField;", Cond.fieldLink RX0 15 "PairingDesk$PrimeField" "p" "J", Cond.fieldLink RX0 21 "PairingDesk$Curve" "p" "J", Cond.fieldLink RX0 22 "PairingDesk$Curve" "\x72" "J", Cond.fieldLink RX0 25 "PairingDesk$Curve" "h" "J", Cond.fieldLink RX0 32 "PairingDesk$Curve" "base" "J", Cond.methodLink RX0 28 yX0_turned, Cond.instanceMethod yX0_turned, Cond.selects RX0 yX0_turned yX0_turned, Cond.initialized RX0, Cond.code yX0_turned cX0_turned 10 (some .long), Cond.fieldLink RX0 88 "PairingDesk$Curve" "tried" "I", Cond.constantLong RX0 58 (-1), Cond.methodLink RX0 85 yX0_firstTried, Cond.instanceMethod yX0_firstTried, Cond.selects RX0 yX0_firstTried yX0_firstTried, Cond.code yX0_firstTried cX0_firstTried 3 (some .long), Cond.constantLong RX0 50 (2), Cond.methodLink RX0 39 yX0_squareOfY, Cond.instanceMethod yX0_squareOfY, Cond.selects RX0 yX0_squareOfY yX0_squareOfY]
def wsX0_init_r2 : List Cond := [Cond.code yX0_squareOfY cX0_squareOfY 3 (some .long), Cond.methodLink RX0 35 yX2_product, Cond.instanceMethod yX2_product, Cond.selects RX2 yX2_product yX2_product, Cond.initialized RX2, Cond.code yX2_product cX2_product 5 (some .long), Cond.fieldLink RX2 9 "PairingDesk$PrimeField" "p" "J", Cond.methodLink RX0 92 yX2_evenRoot, Cond.instanceMethod yX2_evenRoot, Cond.selects RX2 yX2_evenRoot yX2_evenRoot, Cond.code yX2_evenRoot cX2_evenRoot 9 (some .long), Cond.constantLong RX2 15 (4), Cond.constantLong RX2 17 (2), Cond.constantLong RX2 23 (-1), Cond.methodLink RX2 19 yX2_product, Cond.static yX3_joined, Cond.initialized RX3, Cond.code yX3_joined cX3_joined 4 (some .long), Cond.methodLink RX0 82 yX0_multiple, Cond.instanceMethod yX0_multiple, Cond.selects RX0 yX0_multiple yX0_multiple, Cond.code yX0_multiple cX0_multiple 11 (some .long), Cond.methodLink RX0 70 yJ9_floorMod_f86c9, Cond.static yJ9_floorMod_f86c9]
def wsX0_init_r3 : List Cond := [Cond.initialized RJ9, Cond.code yJ9_floorMod_f86c9 cJ9_floorMod_f86c9 6 (some .long), Cond.methodLink RX0 75 yX0_sum, Cond.instanceMethod yX0_sum, Cond.selects RX0 yX0_sum yX0_sum, Cond.code yX0_sum cX0_sum 11 (some .long), Cond.methodLink RX0 60 yX0_areOpposite, Cond.instanceMethod yX0_areOpposite, Cond.selects RX0 yX0_areOpposite yX0_areOpposite, Cond.code yX0_areOpposite cX0_areOpposite 5 (some .boolean), Cond.static yX3_upper, Cond.code yX3_upper cX3_upper 2 (some .long), Cond.static yX3_lower, Cond.code yX3_lower cX3_lower 2 (some .long), Cond.constantLong RX3 163 (2147483647), Cond.methodLink RX0 64 yX0_slope, Cond.instanceMethod yX0_slope, Cond.selects RX0 yX0_slope yX0_slope, Cond.code yX0_slope cX0_slope 11 (some .long), Cond.constantLong RX0 48 (3), Cond.methodLink RX0 52 yX2_inverse, Cond.instanceMethod yX2_inverse, Cond.selects RX2 yX2_inverse yX2_inverse, Cond.code yX2_inverse cX2_inverse 18 (some .long)]
def wsX0_init_r4 : List Cond := [Cond.methodLink RX0 55 yX2_difference, Cond.instanceMethod yX2_difference, Cond.selects RX2 yX2_difference yX2_difference, Cond.code yX2_difference cX2_difference 5 (some .long)]
def wsX0_init : List Cond := .code yX0_init cX0_init 4 none :: ((wsX0_init_r1 ++ (wsX0_init_r2 ++ (wsX0_init_r3 ++ wsX0_init_r4))) ++ wsX00 ++ wsX20)
def wsX0_isKey : List Cond := .code yX0_isKey cX0_isKey 2 (some .boolean) :: ([.fieldLink RX0 22 "PairingDesk$Curve" "\x72" "J"] ++ wsX00)
def wsX0_passes : List Cond := .code yX0_passes cX0_passes 5 (some .boolean) :: ([.fieldLink RX0 9 "PairingDesk$Curve" "field" "LPairingDesk$PrimeField;", .methodLink RX0 35 yX2_product, .instanceMethod yX2_product, .selects RX2 yX2_product yX2_product, .initialized RX2, .code yX2_product cX2_product 5 (some .long), .fieldLink RX2 9 "PairingDesk$PrimeField" "p" "J", .methodLink RX0 39 yX0_squareOfY, .instanceMethod yX0_squareOfY, .selects RX0 yX0_squareOfY yX0_squareOfY, .initialized RX0, .code yX0_squareOfY cX0_squareOfY 3 (some .long), .fieldLink RX0 21 "PairingDesk$Curve" "p" "J"] ++ wsX00 ++ wsX20)
def wsX0_orderWithout_r1 : List Cond := [Cond.constantLong RX0 58 (-1), Cond.methodLink RX0 82 yX0_multiple, Cond.instanceMethod yX0_multiple, Cond.selects RX0 yX0_multiple yX0_multiple, Cond.initialized RX0, Cond.code yX0_multiple cX0_multiple 11 (some .long), Cond.fieldLink RX0 21 "PairingDesk$Curve" "p" "J", Cond.constantLong RX0 50 (2), Cond.methodLink RX0 70 yJ9_floorMod_f86c9, Cond.static yJ9_floorMod_f86c9, Cond.initialized RJ9, Cond.code yJ9_floorMod_f86c9 cJ9_floorMod_f86c9 6 (some .long), Cond.methodLink RX0 75 yX0_sum, Cond.instanceMethod yX0_sum, Cond.selects RX0 yX0_sum yX0_sum, Cond.code yX0_sum cX0_sum 11 (some .long), Cond.fieldLink RX0 9 "PairingDesk$Curve" "field" "LPairingDesk$PrimeField;", Cond.methodLink RX0 60 yX0_areOpposite, Cond.instanceMethod yX0_areOpposite, Cond.selects RX0 yX0_areOpposite yX0_areOpposite, Cond.code yX0_areOpposite cX0_areOpposite 5 (some .boolean), Cond.static yX3_upper, Cond.initialized RX3, Cond.code yX3_upper cX3_upper 2 (some .long)]
def wsX0_orderWithout_r2 : List Cond := [Cond.static yX3_lower, Cond.code yX3_lower cX3_lower 2 (some .long), Cond.constantLong RX3 163 (2147483647), Cond.methodLink RX0 64 yX0_slope, Cond.instanceMethod yX0_slope, Cond.selects RX0 yX0_slope yX0_slope, Cond.code yX0_slope cX0_slope 11 (some .long), Cond.constantLong RX0 48 (3), Cond.methodLink RX0 35 yX2_product, Cond.instanceMethod yX2_product, Cond.selects RX2 yX2_product yX2_product, Cond.initialized RX2, Cond.code yX2_product cX2_product 5 (some .long), Cond.fieldLink RX2 9 "PairingDesk$PrimeField" "p" "J", Cond.methodLink RX0 52 yX2_inverse, Cond.instanceMethod yX2_inverse, Cond.selects RX2 yX2_inverse yX2_inverse, Cond.code yX2_inverse cX2_inverse 18 (some .long), Cond.methodLink RX0 55 yX2_difference, Cond.instanceMethod yX2_difference, Cond.selects RX2 yX2_difference yX2_difference, Cond.code yX2_difference cX2_difference 5 (some .long), Cond.static yX3_joined, Cond.code yX3_joined cX3_joined 4 (some .long)]
def wsX0_orderWithout : List Cond := .code yX0_orderWithout cX0_orderWithout 7 (some .long) :: ((wsX0_orderWithout_r1 ++ wsX0_orderWithout_r2) ++ wsX00 ++ wsX20)
def wsX0_orderOf_r1 : List Cond := [Cond.fieldLink RX0 21 "PairingDesk$Curve" "p" "J", Cond.constantLong RX0 50 (2), Cond.methodLink RX0 78 yX0_orderWithout, Cond.instanceMethod yX0_orderWithout, Cond.selects RX0 yX0_orderWithout yX0_orderWithout, Cond.initialized RX0, Cond.code yX0_orderWithout cX0_orderWithout 7 (some .long), Cond.constantLong RX0 58 (-1), Cond.methodLink RX0 82 yX0_multiple, Cond.instanceMethod yX0_multiple, Cond.selects RX0 yX0_multiple yX0_multiple, Cond.code yX0_multiple cX0_multiple 11 (some .long), Cond.methodLink RX0 70 yJ9_floorMod_f86c9, Cond.static yJ9_floorMod_f86c9, Cond.initialized RJ9, Cond.code yJ9_floorMod_f86c9 cJ9_floorMod_f86c9 6 (some .long), Cond.methodLink RX0 75 yX0_sum, Cond.instanceMethod yX0_sum, Cond.selects RX0 yX0_sum yX0_sum, Cond.code yX0_sum cX0_sum 11 (some .long), Cond.fieldLink RX0 9 "PairingDesk$Curve" "field" "LPairingDesk$PrimeField;", Cond.methodLink RX0 60 yX0_areOpposite, Cond.instanceMethod yX0_areOpposite, Cond.selects RX0 yX0_areOpposite yX0_areOpposite]
def wsX0_orderOf_r2 : List Cond := [Cond.code yX0_areOpposite cX0_areOpposite 5 (some .boolean), Cond.static yX3_upper, Cond.initialized RX3, Cond.code yX3_upper cX3_upper 2 (some .long), Cond.static yX3_lower, Cond.code yX3_lower cX3_lower 2 (some .long), Cond.constantLong RX3 163 (2147483647), Cond.methodLink RX0 64 yX0_slope, Cond.instanceMethod yX0_slope, Cond.selects RX0 yX0_slope yX0_slope, Cond.code yX0_slope cX0_slope 11 (some .long), Cond.constantLong RX0 48 (3), Cond.methodLink RX0 35 yX2_product, Cond.instanceMethod yX2_product, Cond.selects RX2 yX2_product yX2_product, Cond.initialized RX2, Cond.code yX2_product cX2_product 5 (some .long), Cond.fieldLink RX2 9 "PairingDesk$PrimeField" "p" "J", Cond.methodLink RX0 52 yX2_inverse, Cond.instanceMethod yX2_inverse, Cond.selects RX2 yX2_inverse yX2_inverse, Cond.code yX2_inverse cX2_inverse 18 (some .long), Cond.methodLink RX0 55 yX2_difference, Cond.instanceMethod yX2_difference]
def wsX0_orderOf_r3 : List Cond := [Cond.selects RX2 yX2_difference yX2_difference, Cond.code yX2_difference cX2_difference 5 (some .long), Cond.static yX3_joined, Cond.code yX3_joined cX3_joined 4 (some .long)]
def wsX0_orderOf : List Cond := .code yX0_orderOf cX0_orderOf 10 (some .long) :: ((wsX0_orderOf_r1 ++ (wsX0_orderOf_r2 ++ wsX0_orderOf_r3)) ++ wsX00 ++ wsX20)
def wsX0_pointWritten_r1 : List Cond := [Cond.constantLong RX0 58 (-1), Cond.constantLong RX0 50 (2), Cond.fieldLink RX0 21 "PairingDesk$Curve" "p" "J", Cond.constantLong RX0 95 (-2), Cond.fieldLink RX0 9 "PairingDesk$Curve" "field" "LPairingDesk$PrimeField;", Cond.methodLink RX0 39 yX0_squareOfY, Cond.instanceMethod yX0_squareOfY, Cond.selects RX0 yX0_squareOfY yX0_squareOfY, Cond.initialized RX0, Cond.code yX0_squareOfY cX0_squareOfY 3 (some .long), Cond.methodLink RX0 35 yX2_product, Cond.instanceMethod yX2_product, Cond.selects RX2 yX2_product yX2_product, Cond.initialized RX2, Cond.code yX2_product cX2_product 5 (some .long), Cond.fieldLink RX2 9 "PairingDesk$PrimeField" "p" "J", Cond.methodLink RX0 92 yX2_evenRoot, Cond.instanceMethod yX2_evenRoot, Cond.selects RX2 yX2_evenRoot yX2_evenRoot, Cond.code yX2_evenRoot cX2_evenRoot 9 (some .long), Cond.constantLong RX2 15 (4), Cond.constantLong RX2 17 (2), Cond.constantLong RX2 23 (-1), Cond.methodLink RX2 19 yX2_product]
def wsX0_pointWritten_r2 : List Cond := [Cond.static yX3_joined, Cond.initialized RX3, Cond.code yX3_joined cX3_joined 4 (some .long)]
def wsX0_pointWritten : List Cond := .code yX0_pointWritten cX0_pointWritten 7 (some .long) :: ((wsX0_pointWritten_r1 ++ wsX0_pointWritten_r2) ++ wsX00 ++ wsX20)
def wsX1_init : List Cond := .code yX1_init cX1_init 2 none :: ([.methodLink RX1 3 objectInit, .instanceMethod objectInit, .code objectInit ⟨#[0xb1]⟩ 1 none, .fieldLink RX1 9 "PairingDesk$Pairing" "curve" "LPairingDesk$Curve;", .fieldLink RX1 15 "PairingDesk$Curve" "p" "J", .fieldLink RX1 21 "PairingDesk$Pairing" "p" "J", .fieldLink RX1 22 "PairingDesk$Curve" "\x72" "J", .fieldLink RX1 25 "PairingDesk$Pairing" "\x72" "J"] ++ wsX10 ++ wsX00)
def wsX1_takes_r1 : List Cond := [Cond.fieldLink RX1 9 "PairingDesk$Pairing" "curve" "LPairingDesk$Curve;", Cond.fieldLink RX1 25 "PairingDesk$Pairing" "\x72" "J", Cond.constantLong RX1 30 (-1), Cond.methodLink RX1 26 yX0_multiple, Cond.instanceMethod yX0_multiple, Cond.selects RX0 yX0_multiple yX0_multiple, Cond.initialized RX0, Cond.code yX0_multiple cX0_multiple 11 (some .long), Cond.constantLong RX0 58 (-1), Cond.fieldLink RX0 21 "PairingDesk$Curve" "p" "J", Cond.constantLong RX0 50 (2), Cond.methodLink RX0 70 yJ9_floorMod_f86c9, Cond.static yJ9_floorMod_f86c9, Cond.initialized RJ9, Cond.code yJ9_floorMod_f86c9 cJ9_floorMod_f86c9 6 (some .long), Cond.methodLink RX0 75 yX0_sum, Cond.instanceMethod yX0_sum, Cond.selects RX0 yX0_sum yX0_sum, Cond.code yX0_sum cX0_sum 11 (some .long), Cond.fieldLink RX0 9 "PairingDesk$Curve" "field" "LPairingDesk$PrimeField;", Cond.methodLink RX0 60 yX0_areOpposite, Cond.instanceMethod yX0_areOpposite, Cond.selects RX0 yX0_areOpposite yX0_areOpposite, Cond.code yX0_areOpposite cX0_areOpposite 5 (some .boolean)]
def wsX1_takes_r2 : List Cond := [Cond.static yX3_upper, Cond.initialized RX3, Cond.code yX3_upper cX3_upper 2 (some .long), Cond.static yX3_lower, Cond.code yX3_lower cX3_lower 2 (some .long), Cond.constantLong RX3 163 (2147483647), Cond.methodLink RX0 64 yX0_slope, Cond.instanceMethod yX0_slope, Cond.selects RX0 yX0_slope yX0_slope, Cond.code yX0_slope cX0_slope 11 (some .long), Cond.constantLong RX0 48 (3), Cond.methodLink RX0 35 yX2_product, Cond.instanceMethod yX2_product, Cond.selects RX2 yX2_product yX2_product, Cond.initialized RX2, Cond.code yX2_product cX2_product 5 (some .long), Cond.fieldLink RX2 9 "PairingDesk$PrimeField" "p" "J", Cond.methodLink RX0 52 yX2_inverse, Cond.instanceMethod yX2_inverse, Cond.selects RX2 yX2_inverse yX2_inverse, Cond.code yX2_inverse cX2_inverse 18 (some .long), Cond.methodLink RX0 55 yX2_difference, Cond.instanceMethod yX2_difference, Cond.selects RX2 yX2_difference yX2_difference]
def wsX1_takes_r3 : List Cond := [Cond.code yX2_difference cX2_difference 5 (some .long), Cond.static yX3_joined, Cond.code yX3_joined cX3_joined 4 (some .long)]
def wsX1_takes : List Cond := .code yX1_takes cX1_takes 3 (some .boolean) :: ((wsX1_takes_r1 ++ (wsX1_takes_r2 ++ wsX1_takes_r3)) ++ wsX10 ++ wsX00 ++ wsX20)
def wsX1_product : List Cond := .code yX1_product cX1_product 9 (some .long) :: ([.fieldLink RX1 21 "PairingDesk$Pairing" "p" "J", .static yX3_upper, .initialized RX3, .code yX3_upper cX3_upper 2 (some .long), .static yX3_lower, .code yX3_lower cX3_lower 2 (some .long), .constantLong RX3 163 (2147483647), .methodLink RX1 39 yJ9_floorMod_f86c9, .static yJ9_floorMod_f86c9, .initialized RJ9, .code yJ9_floorMod_f86c9 cJ9_floorMod_f86c9 6 (some .long), .static yX3_joined, .code yX3_joined cX3_joined 4 (some .long)] ++ wsX10)
def wsX1_raised : List Cond := .code yX1_raised cX1_raised 11 (some .long) :: ([.constantLong RX1 47 (2147483648), .constantLong RX1 49 (2), .methodLink RX1 51 yX1_product, .instanceMethod yX1_product, .selects RX1 yX1_product yX1_product, .initialized RX1, .code yX1_product cX1_product 9 (some .long), .fieldLink RX1 21 "PairingDesk$Pairing" "p" "J", .static yX3_upper, .initialized RX3, .code yX3_upper cX3_upper 2 (some .long), .static yX3_lower, .code yX3_lower cX3_lower 2 (some .long), .constantLong RX3 163 (2147483647), .methodLink RX1 39 yJ9_floorMod_f86c9, .static yJ9_floorMod_f86c9, .initialized RJ9, .code yJ9_floorMod_f86c9 cJ9_floorMod_f86c9 6 (some .long), .static yX3_joined, .code yX3_joined cX3_joined 4 (some .long)] ++ wsX10)
def wsJ6_numberOfLeadingZeros_0f7a4 : List Cond := .code yJ6_numberOfLeadingZeros_0f7a4 cJ6_numberOfLeadingZeros_0f7a4 2 (some .int) :: ([.constant RJ6 264 (65536)])
def wsJ13_numberOfLeadingZeros_95d88 : List Cond := .code yJ13_numberOfLeadingZeros_95d88 cJ13_numberOfLeadingZeros_95d88 3 (some .int) :: ([.methodLink RJ13 308 yJ6_numberOfLeadingZeros_0f7a4, .static yJ6_numberOfLeadingZeros_0f7a4, .initialized RJ6, .code yJ6_numberOfLeadingZeros_0f7a4 cJ6_numberOfLeadingZeros_0f7a4 2 (some .int), .constant RJ6 264 (65536)])
def wsX1_bitsBehindHighest : List Cond := .code yX1_bitsBehindHighest cX1_bitsBehindHighest 1 (some .int) :: ([.fieldLink RX1 25 "PairingDesk$Pairing" "\x72" "J", .methodLink RX1 54 yJ13_numberOfLeadingZeros_95d88, .static yJ13_numberOfLeadingZeros_95d88, .initialized RJ13, .code yJ13_numberOfLeadingZeros_95d88 cJ13_numberOfLeadingZeros_95d88 3 (some .int), .methodLink RJ13 308 yJ6_numberOfLeadingZeros_0f7a4, .static yJ6_numberOfLeadingZeros_0f7a4, .initialized RJ6, .code yJ6_numberOfLeadingZeros_0f7a4 cJ6_numberOfLeadingZeros_0f7a4 2 (some .int), .constant RJ6 264 (65536)] ++ wsX10)
def wsJ13_bitCount_95d88 : List Cond := .code yJ13_bitCount_95d88 cJ13_bitCount_95d88 2 (some .int) :: ([.constantLong RJ13 314 (6148914691236517205), .constantLong RJ13 316 (3689348814741910323), .constantLong RJ13 318 (1085102592571150095)])
def wsX1_linesOf : List Cond := .code yX1_linesOf cX1_linesOf 5 (some .int) :: ([.constantLong RX1 30 (-1), .fieldLink RX1 25 "PairingDesk$Pairing" "\x72" "J", .methodLink RX1 60 yX1_bitsBehindHighest, .instanceMethod yX1_bitsBehindHighest, .selects RX1 yX1_bitsBehindHighest yX1_bitsBehindHighest, .initialized RX1, .code yX1_bitsBehindHighest cX1_bitsBehindHighest 1 (some .int), .methodLink RX1 54 yJ13_numberOfLeadingZeros_95d88, .static yJ13_numberOfLeadingZeros_95d88, .initialized RJ13, .code yJ13_numberOfLeadingZeros_95d88 cJ13_numberOfLeadingZeros_95d88 3 (some .int), .methodLink RJ13 308 yJ6_numberOfLeadingZeros_0f7a4, .static yJ6_numberOfLeadingZeros_0f7a4, .initialized RJ6, .code yJ6_numberOfLeadingZeros_0f7a4 cJ6_numberOfLeadingZeros_0f7a4 2 (some .int), .constant RJ6 264 (65536), .methodLink RX1 64 yJ13_bitCount_95d88, .static yJ13_bitCount_95d88, .code yJ13_bitCount_95d88 cJ13_bitCount_95d88 2 (some .int), .constantLong RJ13 314 (6148914691236517205), .constantLong RJ13 316 (3689348814741910323), .constantLong RJ13 318 (1085102592571150095)] ++ wsX10)
def wsX1_line_r1 : List Cond := [Cond.constantLong RX1 30 (-1), Cond.constantLong RX1 47 (2147483648), Cond.fieldLink RX1 9 "PairingDesk$Pairing" "curve" "LPairingDesk$Curve;", Cond.fieldLink RX1 77 "PairingDesk$Curve" "field" "LPairingDesk$PrimeField;", Cond.fieldLink RX1 21 "PairingDesk$Pairing" "p" "J", Cond.static yX3_upper, Cond.initialized RX3, Cond.code yX3_upper cX3_upper 2 (some .long), Cond.methodLink RX1 81 yX2_difference, Cond.instanceMethod yX2_difference, Cond.selects RX2 yX2_difference yX2_difference, Cond.initialized RX2, Cond.code yX2_difference cX2_difference 5 (some .long), Cond.fieldLink RX2 9 "PairingDesk$PrimeField" "p" "J", Cond.methodLink RX1 86 yX0_areOpposite, Cond.instanceMethod yX0_areOpposite, Cond.selects RX0 yX0_areOpposite yX0_areOpposite, Cond.initialized RX0, Cond.code yX0_areOpposite cX0_areOpposite 5 (some .boolean), Cond.fieldLink RX0 21 "PairingDesk$Curve" "p" "J", Cond.static yX3_lower, Cond.code yX3_lower cX3_lower 2 (some .long), Cond.constantLong RX3 163 (2147483647), Cond.static yX3_joined]
def wsX1_line_r2 : List Cond := [Cond.code yX3_joined cX3_joined 4 (some .long), Cond.methodLink RX1 90 yX0_slope, Cond.instanceMethod yX0_slope, Cond.selects RX0 yX0_slope yX0_slope, Cond.code yX0_slope cX0_slope 11 (some .long), Cond.constantLong RX0 48 (3), Cond.fieldLink RX0 9 "PairingDesk$Curve" "field" "LPairingDesk$PrimeField;", Cond.constantLong RX0 50 (2), Cond.methodLink RX0 35 yX2_product, Cond.instanceMethod yX2_product, Cond.selects RX2 yX2_product yX2_product, Cond.code yX2_product cX2_product 5 (some .long), Cond.methodLink RX0 52 yX2_inverse, Cond.instanceMethod yX2_inverse, Cond.selects RX2 yX2_inverse yX2_inverse, Cond.code yX2_inverse cX2_inverse 18 (some .long), Cond.methodLink RX0 55 yX2_difference, Cond.methodLink RX1 93 yX2_product]
def wsX1_line : List Cond := .code yX1_line cX1_line 11 (some .long) :: ((wsX1_line_r1 ++ wsX1_line_r2) ++ wsX10 ++ wsX00 ++ wsX20)
def wsX1_of_r1 : List Cond := [Cond.constantLong RX1 30 (-1), Cond.constantLong RX1 47 (2147483648), Cond.fieldLink RX1 9 "PairingDesk$Pairing" "curve" "LPairingDesk$Curve;", Cond.fieldLink RX1 25 "PairingDesk$Pairing" "\x72" "J", Cond.fieldLink RX1 21 "PairingDesk$Pairing" "p" "J", Cond.methodLink RX1 60 yX1_bitsBehindHighest, Cond.instanceMethod yX1_bitsBehindHighest, Cond.selects RX1 yX1_bitsBehindHighest yX1_bitsBehindHighest, Cond.initialized RX1, Cond.code yX1_bitsBehindHighest cX1_bitsBehindHighest 1 (some .int), Cond.methodLink RX1 54 yJ13_numberOfLeadingZeros_95d88, Cond.static yJ13_numberOfLeadingZeros_95d88, Cond.initialized RJ13, Cond.code yJ13_numberOfLeadingZeros_95d88 cJ13_numberOfLeadingZeros_95d88 3 (some .int), Cond.methodLink RJ13 308 yJ6_numberOfLeadingZeros_0f7a4, Cond.static yJ6_numberOfLeadingZeros_0f7a4, Cond.initialized RJ6, Cond.code yJ6_numberOfLeadingZeros_0f7a4 cJ6_numberOfLeadingZeros_0f7a4 2 (some .int), Cond.constant RJ6 264 (65536), Cond.methodLink RX1 51 yX1_product, Cond.instanceMethod yX1_product, Cond.selects RX1 yX1_product yX1_product, Cond.code yX1_product cX1_product 9 (some .long), Cond.static yX3_upper]
def wsX1_of_r2 : List Cond := [Cond.initialized RX3, Cond.code yX3_upper cX3_upper 2 (some .long), Cond.static yX3_lower, Cond.code yX3_lower cX3_lower 2 (some .long), Cond.constantLong RX3 163 (2147483647), Cond.methodLink RX1 39 yJ9_floorMod_f86c9, Cond.static yJ9_floorMod_f86c9, Cond.initialized RJ9, Cond.code yJ9_floorMod_f86c9 cJ9_floorMod_f86c9 6 (some .long), Cond.static yX3_joined, Cond.code yX3_joined cX3_joined 4 (some .long), Cond.methodLink RX1 67 yX1_line, Cond.instanceMethod yX1_line, Cond.selects RX1 yX1_line yX1_line, Cond.code yX1_line cX1_line 11 (some .long), Cond.fieldLink RX1 77 "PairingDesk$Curve" "field" "LPairingDesk$PrimeField;", Cond.methodLink RX1 81 yX2_difference, Cond.instanceMethod yX2_difference, Cond.selects RX2 yX2_difference yX2_difference, Cond.initialized RX2, Cond.code yX2_difference cX2_difference 5 (some .long), Cond.fieldLink RX2 9 "PairingDesk$PrimeField" "p" "J", Cond.methodLink RX1 86 yX0_areOpposite, Cond.instanceMethod yX0_areOpposite]
def wsX1_of_r3 : List Cond := [Cond.selects RX0 yX0_areOpposite yX0_areOpposite, Cond.initialized RX0, Cond.code yX0_areOpposite cX0_areOpposite 5 (some .boolean), Cond.fieldLink RX0 21 "PairingDesk$Curve" "p" "J", Cond.methodLink RX1 90 yX0_slope, Cond.instanceMethod yX0_slope, Cond.selects RX0 yX0_slope yX0_slope, Cond.code yX0_slope cX0_slope 11 (some .long), Cond.constantLong RX0 48 (3), Cond.fieldLink RX0 9 "PairingDesk$Curve" "field" "LPairingDesk$PrimeField;", Cond.constantLong RX0 50 (2), Cond.methodLink RX0 35 yX2_product, Cond.instanceMethod yX2_product, Cond.selects RX2 yX2_product yX2_product, Cond.code yX2_product cX2_product 5 (some .long), Cond.methodLink RX0 52 yX2_inverse, Cond.instanceMethod yX2_inverse, Cond.selects RX2 yX2_inverse yX2_inverse, Cond.code yX2_inverse cX2_inverse 18 (some .long), Cond.methodLink RX0 55 yX2_difference, Cond.methodLink RX1 93 yX2_product, Cond.methodLink RX1 71 yX0_sum, Cond.instanceMethod yX0_sum, Cond.selects RX0 yX0_sum yX0_sum]
def wsX1_of_r4 : List Cond := [Cond.code yX0_sum cX0_sum 11 (some .long), Cond.constantLong RX0 58 (-1), Cond.methodLink RX0 60 yX0_areOpposite, Cond.methodLink RX0 64 yX0_slope, Cond.methodLink RX1 74 yX1_raised, Cond.instanceMethod yX1_raised, Cond.selects RX1 yX1_raised yX1_raised, Cond.code yX1_raised cX1_raised 11 (some .long), Cond.constantLong RX1 49 (2)]
def wsX1_of : List Cond := .code yX1_of cX1_of 10 (some .long) :: ((wsX1_of_r1 ++ (wsX1_of_r2 ++ (wsX1_of_r3 ++ wsX1_of_r4))) ++ wsX10 ++ wsX00 ++ wsX20)
def wsX1_takeAll_r1 : List Cond := [Cond.constantLong RX1 30 (-1), Cond.methodLink RX1 94 yX1_takes, Cond.instanceMethod yX1_takes, Cond.selects RX1 yX1_takes yX1_takes, Cond.initialized RX1, Cond.code yX1_takes cX1_takes 3 (some .boolean), Cond.fieldLink RX1 9 "PairingDesk$Pairing" "curve" "LPairingDesk$Curve;", Cond.fieldLink RX1 25 "PairingDesk$Pairing" "\x72" "J", Cond.methodLink RX1 26 yX0_multiple, Cond.instanceMethod yX0_multiple, Cond.selects RX0 yX0_multiple yX0_multiple, Cond.initialized RX0, Cond.code yX0_multiple cX0_multiple 11 (some .long), Cond.constantLong RX0 58 (-1), Cond.fieldLink RX0 21 "PairingDesk$Curve" "p" "J", Cond.constantLong RX0 50 (2), Cond.methodLink RX0 70 yJ9_floorMod_f86c9, Cond.static yJ9_floorMod_f86c9, Cond.initialized RJ9, Cond.code yJ9_floorMod_f86c9 cJ9_floorMod_f86c9 6 (some .long), Cond.methodLink RX0 75 yX0_sum, Cond.instanceMethod yX0_sum, Cond.selects RX0 yX0_sum yX0_sum, Cond.code yX0_sum cX0_sum 11 (some .long)]
def wsX1_takeAll_r2 : List Cond := [Cond.fieldLink RX0 9 "PairingDesk$Curve" "field" "LPairingDesk$PrimeField;", Cond.methodLink RX0 60 yX0_areOpposite, Cond.instanceMethod yX0_areOpposite, Cond.selects RX0 yX0_areOpposite yX0_areOpposite, Cond.code yX0_areOpposite cX0_areOpposite 5 (some .boolean), Cond.static yX3_upper, Cond.initialized RX3, Cond.code yX3_upper cX3_upper 2 (some .long), Cond.static yX3_lower, Cond.code yX3_lower cX3_lower 2 (some .long), Cond.constantLong RX3 163 (2147483647), Cond.methodLink RX0 64 yX0_slope, Cond.instanceMethod yX0_slope, Cond.selects RX0 yX0_slope yX0_slope, Cond.code yX0_slope cX0_slope 11 (some .long), Cond.constantLong RX0 48 (3), Cond.methodLink RX0 35 yX2_product, Cond.instanceMethod yX2_product, Cond.selects RX2 yX2_product yX2_product, Cond.initialized RX2, Cond.code yX2_product cX2_product 5 (some .long), Cond.fieldLink RX2 9 "PairingDesk$PrimeField" "p" "J", Cond.methodLink RX0 52 yX2_inverse, Cond.instanceMethod yX2_inverse]
def wsX1_takeAll_r3 : List Cond := [Cond.selects RX2 yX2_inverse yX2_inverse, Cond.code yX2_inverse cX2_inverse 18 (some .long), Cond.methodLink RX0 55 yX2_difference, Cond.instanceMethod yX2_difference, Cond.selects RX2 yX2_difference yX2_difference, Cond.code yX2_difference cX2_difference 5 (some .long), Cond.static yX3_joined, Cond.code yX3_joined cX3_joined 4 (some .long)]
def wsX1_takeAll : List Cond := .code yX1_takeAll cX1_takeAll 5 (some .boolean) :: ((wsX1_takeAll_r1 ++ (wsX1_takeAll_r2 ++ wsX1_takeAll_r3)) ++ wsX10 ++ wsX00 ++ wsX20)
def wsX1_agree_r1 : List Cond := [Cond.constantLong RX1 47 (2147483648), Cond.fieldLink RX1 9 "PairingDesk$Pairing" "curve" "LPairingDesk$Curve;", Cond.fieldLink RX1 108 "PairingDesk$Curve" "base" "J", Cond.methodLink RX1 94 yX1_takes, Cond.instanceMethod yX1_takes, Cond.selects RX1 yX1_takes yX1_takes, Cond.initialized RX1, Cond.code yX1_takes cX1_takes 3 (some .boolean), Cond.fieldLink RX1 25 "PairingDesk$Pairing" "\x72" "J", Cond.constantLong RX1 30 (-1), Cond.methodLink RX1 26 yX0_multiple, Cond.instanceMethod yX0_multiple, Cond.selects RX0 yX0_multiple yX0_multiple, Cond.initialized RX0, Cond.code yX0_multiple cX0_multiple 11 (some .long), Cond.constantLong RX0 58 (-1), Cond.fieldLink RX0 21 "PairingDesk$Curve" "p" "J", Cond.constantLong RX0 50 (2), Cond.methodLink RX0 70 yJ9_floorMod_f86c9, Cond.static yJ9_floorMod_f86c9, Cond.initialized RJ9, Cond.code yJ9_floorMod_f86c9 cJ9_floorMod_f86c9 6 (some .long), Cond.methodLink RX0 75 yX0_sum, Cond.instanceMethod yX0_sum]
def wsX1_agree_r2 : List Cond := [Cond.selects RX0 yX0_sum yX0_sum, Cond.code yX0_sum cX0_sum 11 (some .long), Cond.fieldLink RX0 9 "PairingDesk$Curve" "field" "LPairingDesk$PrimeField;", Cond.methodLink RX0 60 yX0_areOpposite, Cond.instanceMethod yX0_areOpposite, Cond.selects RX0 yX0_areOpposite yX0_areOpposite, Cond.code yX0_areOpposite cX0_areOpposite 5 (some .boolean), Cond.static yX3_upper, Cond.initialized RX3, Cond.code yX3_upper cX3_upper 2 (some .long), Cond.static yX3_lower, Cond.code yX3_lower cX3_lower 2 (some .long), Cond.constantLong RX3 163 (2147483647), Cond.methodLink RX0 64 yX0_slope, Cond.instanceMethod yX0_slope, Cond.selects RX0 yX0_slope yX0_slope, Cond.code yX0_slope cX0_slope 11 (some .long), Cond.constantLong RX0 48 (3), Cond.methodLink RX0 35 yX2_product, Cond.instanceMethod yX2_product, Cond.selects RX2 yX2_product yX2_product, Cond.initialized RX2, Cond.code yX2_product cX2_product 5 (some .long), Cond.fieldLink RX2 9 "PairingDesk$PrimeField" "p" "J"]
def wsX1_agree_r3 : List Cond := [Cond.methodLink RX0 52 yX2_inverse, Cond.instanceMethod yX2_inverse, Cond.selects RX2 yX2_inverse yX2_inverse, Cond.code yX2_inverse cX2_inverse 18 (some .long), Cond.methodLink RX0 55 yX2_difference, Cond.instanceMethod yX2_difference, Cond.selects RX2 yX2_difference yX2_difference, Cond.code yX2_difference cX2_difference 5 (some .long), Cond.static yX3_joined, Cond.code yX3_joined cX3_joined 4 (some .long), Cond.methodLink RX1 98 yX1_takeAll, Cond.instanceMethod yX1_takeAll, Cond.selects RX1 yX1_takeAll yX1_takeAll, Cond.code yX1_takeAll cX1_takeAll 5 (some .boolean), Cond.methodLink RX1 102 yX0_turned, Cond.instanceMethod yX0_turned, Cond.selects RX0 yX0_turned yX0_turned, Cond.code yX0_turned cX0_turned 10 (some .long), Cond.fieldLink RX0 88 "PairingDesk$Curve" "tried" "I", Cond.fieldLink RX0 25 "PairingDesk$Curve" "h" "J", Cond.methodLink RX0 85 yX0_firstTried, Cond.instanceMethod yX0_firstTried, Cond.selects RX0 yX0_firstTried yX0_firstTried, Cond.code yX0_firstTried cX0_firstTried 3 (some .long)]
def wsX1_agree_r4 : List Cond := [Cond.methodLink RX0 39 yX0_squareOfY, Cond.instanceMethod yX0_squareOfY, Cond.selects RX0 yX0_squareOfY yX0_squareOfY, Cond.code yX0_squareOfY cX0_squareOfY 3 (some .long), Cond.methodLink RX0 92 yX2_evenRoot, Cond.instanceMethod yX2_evenRoot, Cond.selects RX2 yX2_evenRoot yX2_evenRoot, Cond.code yX2_evenRoot cX2_evenRoot 9 (some .long), Cond.constantLong RX2 15 (4), Cond.constantLong RX2 17 (2), Cond.constantLong RX2 23 (-1), Cond.methodLink RX2 19 yX2_product, Cond.methodLink RX0 82 yX0_multiple, Cond.methodLink RX1 105 yX1_of, Cond.instanceMethod yX1_of, Cond.selects RX1 yX1_of yX1_of, Cond.code yX1_of cX1_of 10 (some .long), Cond.fieldLink RX1 21 "PairingDesk$Pairing" "p" "J", Cond.methodLink RX1 60 yX1_bitsBehindHighest, Cond.instanceMethod yX1_bitsBehindHighest, Cond.selects RX1 yX1_bitsBehindHighest yX1_bitsBehindHighest, Cond.code yX1_bitsBehindHighest cX1_bitsBehindHighest 1 (some .int), Cond.methodLink RX1 54 yJ13_numberOfLeadingZeros_95d88, Cond.static yJ13_numberOfLeadingZeros_95d88]
def wsX1_agree_r5 : List Cond := [Cond.initialized RJ13, Cond.code yJ13_numberOfLeadingZeros_95d88 cJ13_numberOfLeadingZeros_95d88 3 (some .int), Cond.methodLink RJ13 308 yJ6_numberOfLeadingZeros_0f7a4, Cond.static yJ6_numberOfLeadingZeros_0f7a4, Cond.initialized RJ6, Cond.code yJ6_numberOfLeadingZeros_0f7a4 cJ6_numberOfLeadingZeros_0f7a4 2 (some .int), Cond.constant RJ6 264 (65536), Cond.methodLink RX1 51 yX1_product, Cond.instanceMethod yX1_product, Cond.selects RX1 yX1_product yX1_product, Cond.code yX1_product cX1_product 9 (some .long), Cond.methodLink RX1 39 yJ9_floorMod_f86c9, Cond.methodLink RX1 67 yX1_line, Cond.instanceMethod yX1_line, Cond.selects RX1 yX1_line yX1_line, Cond.code yX1_line cX1_line 11 (some .long), Cond.fieldLink RX1 77 "PairingDesk$Curve" "field" "LPairingDesk$PrimeField;", Cond.methodLink RX1 81 yX2_difference, Cond.methodLink RX1 86 yX0_areOpposite, Cond.methodLink RX1 90 yX0_slope, Cond.methodLink RX1 93 yX2_product, Cond.methodLink RX1 71 yX0_sum, Cond.methodLink RX1 74 yX1_raised, Cond.instanceMethod yX1_raised]
def wsX1_agree_r6 : List Cond := [Cond.selects RX1 yX1_raised yX1_raised, Cond.code yX1_raised cX1_raised 11 (some .long), Cond.constantLong RX1 49 (2)]
def wsX1_agree : List Cond := .code yX1_agree cX1_agree 11 (some .boolean) :: ((wsX1_agree_r1 ++ (wsX1_agree_r2 ++ (wsX1_agree_r3 ++ (wsX1_agree_r4 ++ (wsX1_agree_r5 ++ wsX1_agree_r6))))) ++ wsX10 ++ wsX00 ++ wsX20)
def wsX2_init : List Cond := .code yX2_init cX2_init 3 none :: ([.methodLink RX2 3 objectInit, .instanceMethod objectInit, .code objectInit ⟨#[0xb1]⟩ 1 none, .fieldLink RX2 9 "PairingDesk$PrimeField" "p" "J"] ++ wsX20)
def wsX2_has : List Cond := .code yX2_has cX2_has 2 (some .boolean) :: ([.fieldLink RX2 9 "PairingDesk$PrimeField" "p" "J"] ++ wsX20)
def wsX3_clearRows : List Cond := .code yX3_clearRows cX3_clearRows 2 none :: ([.fieldLink RX3 9 "PairingDesk" "slots" "[J", .constantLong RX3 79 (-1), .fieldLink RX3 13 "PairingDesk" "values" "[J", .constantLong RX3 131 (2147483648)] ++ wsX30)
def wsX3_init : List Cond := .code yX3_init cX3_init 1 none :: ([.methodLink RX3 3 objectInit, .instanceMethod objectInit, .code objectInit ⟨#[0xb1]⟩ 1 none, .arrayClass .long, .fieldLink RX3 9 "PairingDesk" "slots" "[J", .fieldLink RX3 13 "PairingDesk" "values" "[J", .methodLink RX3 16 yX3_clearRows, .instanceMethod yX3_clearRows, .selects RX3 yX3_clearRows yX3_clearRows, .initialized RX3, .code yX3_clearRows cX3_clearRows 2 none, .constantLong RX3 79 (-1), .constantLong RX3 131 (2147483648)] ++ wsX30)
def wsX3_isOddPrime : List Cond := .code yX3_isOddPrime cX3_isOddPrime 4 (some .boolean) :: ([.constantLong RX3 159 (2), .constantLong RX3 161 (3)])
def wsX3_fitTogether : List Cond := .code yX3_fitTogether cX3_fitTogether 4 (some .boolean) :: ([.methodLink RX3 156 yX3_isOddPrime, .static yX3_isOddPrime, .initialized RX3, .code yX3_isOddPrime cX3_isOddPrime 4 (some .boolean), .constantLong RX3 159 (2), .constantLong RX3 161 (3)])
def wsX3_field_r1 : List Cond := [Cond.classLink RX3 23 RX0, Cond.instantiable RX0 6, Cond.initialized RX0, Cond.classLink RX3 25 RX2, Cond.instantiable RX2 1, Cond.initialized RX2, Cond.fieldLink RX3 33 "PairingDesk" "curve" "LPairingDesk$Curve;", Cond.classLink RX3 37 RX1, Cond.instantiable RX1 3, Cond.initialized RX1, Cond.fieldLink RX3 42 "PairingDesk" "pairing" "LPairingDesk$Pairing;", Cond.fieldLink RX3 46 "PairingDesk$Curve" "h" "J", Cond.methodLink RX3 19 yX3_fitTogether, Cond.static yX3_fitTogether, Cond.initialized RX3, Cond.code yX3_fitTogether cX3_fitTogether 4 (some .boolean), Cond.methodLink RX3 156 yX3_isOddPrime, Cond.static yX3_isOddPrime, Cond.code yX3_isOddPrime cX3_isOddPrime 4 (some .boolean), Cond.constantLong RX3 159 (2), Cond.constantLong RX3 161 (3), Cond.methodLink RX3 27 yX2_init, Cond.instanceMethod yX2_init, Cond.code yX2_init cX2_init 3 none]
def wsX3_field_r2 : List Cond := [Cond.methodLink RX2 3 objectInit, Cond.instanceMethod objectInit, Cond.code objectInit ⟨#[0xb1]⟩ 1 none, Cond.fieldLink RX2 9 "PairingDesk$PrimeField" "p" "J", Cond.methodLink RX3 30 yX0_init, Cond.instanceMethod yX0_init, Cond.code yX0_init cX0_init 4 none, Cond.methodLink RX0 3 objectInit, Cond.fieldLink RX0 9 "PairingDesk$Curve" "field" "LPairingDesk$PrimeField;", Cond.fieldLink RX0 15 "PairingDesk$PrimeField" "p" "J", Cond.fieldLink RX0 21 "PairingDesk$Curve" "p" "J", Cond.fieldLink RX0 22 "PairingDesk$Curve" "\x72" "J", Cond.fieldLink RX0 25 "PairingDesk$Curve" "h" "J", Cond.fieldLink RX0 32 "PairingDesk$Curve" "base" "J", Cond.methodLink RX0 28 yX0_turned, Cond.instanceMethod yX0_turned, Cond.selects RX0 yX0_turned yX0_turned, Cond.code yX0_turned cX0_turned 10 (some .long), Cond.fieldLink RX0 88 "PairingDesk$Curve" "tried" "I", Cond.constantLong RX0 58 (-1), Cond.methodLink RX0 85 yX0_firstTried, Cond.instanceMethod yX0_firstTried, Cond.selects RX0 yX0_firstTried yX0_firstTried, Cond.code yX0_firstTried cX0_firstTried 3 (some .long)]
def wsX3_field_r3 : List Cond := [Cond.constantLong RX0 50 (2), Cond.methodLink RX0 39 yX0_squareOfY, Cond.instanceMethod yX0_squareOfY, Cond.selects RX0 yX0_squareOfY yX0_squareOfY, Cond.code yX0_squareOfY cX0_squareOfY 3 (some .long), Cond.methodLink RX0 35 yX2_product, Cond.instanceMethod yX2_product, Cond.selects RX2 yX2_product yX2_product, Cond.code yX2_product cX2_product 5 (some .long), Cond.methodLink RX0 92 yX2_evenRoot, Cond.instanceMethod yX2_evenRoot, Cond.selects RX2 yX2_evenRoot yX2_evenRoot, Cond.code yX2_evenRoot cX2_evenRoot 9 (some .long), Cond.constantLong RX2 15 (4), Cond.constantLong RX2 17 (2), Cond.constantLong RX2 23 (-1), Cond.methodLink RX2 19 yX2_product, Cond.static yX3_joined, Cond.code yX3_joined cX3_joined 4 (some .long), Cond.methodLink RX0 82 yX0_multiple, Cond.instanceMethod yX0_multiple, Cond.selects RX0 yX0_multiple yX0_multiple, Cond.code yX0_multiple cX0_multiple 11 (some .long), Cond.methodLink RX0 70 yJ9_floorMod_f86c9]
def wsX3_field_r4 : List Cond := [Cond.static yJ9_floorMod_f86c9, Cond.initialized RJ9, Cond.code yJ9_floorMod_f86c9 cJ9_floorMod_f86c9 6 (some .long), Cond.methodLink RX0 75 yX0_sum, Cond.instanceMethod yX0_sum, Cond.selects RX0 yX0_sum yX0_sum, Cond.code yX0_sum cX0_sum 11 (some .long), Cond.methodLink RX0 60 yX0_areOpposite, Cond.instanceMethod yX0_areOpposite, Cond.selects RX0 yX0_areOpposite yX0_areOpposite, Cond.code yX0_areOpposite cX0_areOpposite 5 (some .boolean), Cond.static yX3_upper, Cond.code yX3_upper cX3_upper 2 (some .long), Cond.static yX3_lower, Cond.code yX3_lower cX3_lower 2 (some .long), Cond.constantLong RX3 163 (2147483647), Cond.methodLink RX0 64 yX0_slope, Cond.instanceMethod yX0_slope, Cond.selects RX0 yX0_slope yX0_slope, Cond.code yX0_slope cX0_slope 11 (some .long), Cond.constantLong RX0 48 (3), Cond.methodLink RX0 52 yX2_inverse, Cond.instanceMethod yX2_inverse, Cond.selects RX2 yX2_inverse yX2_inverse]
def wsX3_field_r5 : List Cond := [Cond.code yX2_inverse cX2_inverse 18 (some .long), Cond.methodLink RX0 55 yX2_difference, Cond.instanceMethod yX2_difference, Cond.selects RX2 yX2_difference yX2_difference, Cond.code yX2_difference cX2_difference 5 (some .long), Cond.methodLink RX3 39 yX1_init, Cond.instanceMethod yX1_init, Cond.code yX1_init cX1_init 2 none, Cond.methodLink RX1 3 objectInit, Cond.fieldLink RX1 9 "PairingDesk$Pairing" "curve" "LPairingDesk$Curve;", Cond.fieldLink RX1 15 "PairingDesk$Curve" "p" "J", Cond.fieldLink RX1 21 "PairingDesk$Pairing" "p" "J", Cond.fieldLink RX1 22 "PairingDesk$Curve" "\x72" "J", Cond.fieldLink RX1 25 "PairingDesk$Pairing" "\x72" "J", Cond.methodLink RX3 16 yX3_clearRows, Cond.instanceMethod yX3_clearRows, Cond.selects RX3 yX3_clearRows yX3_clearRows, Cond.code yX3_clearRows cX3_clearRows 2 none, Cond.fieldLink RX3 9 "PairingDesk" "slots" "[J", Cond.constantLong RX3 79 (-1), Cond.fieldLink RX3 13 "PairingDesk" "values" "[J", Cond.constantLong RX3 131 (2147483648)]
def wsX3_field : List Cond := .code yX3_field cX3_field 3 (some .int) :: ((wsX3_field_r1 ++ (wsX3_field_r2 ++ (wsX3_field_r3 ++ (wsX3_field_r4 ++ wsX3_field_r5)))) ++ wsX00 ++ wsX20 ++ wsX30 ++ wsX10)
def wsX3_told : List Cond := .code yX3_told cX3_told 2 (some .int) :: ([.fieldLink RX3 33 "PairingDesk" "curve" "LPairingDesk$Curve;", .fieldLink RX3 50 "PairingDesk$Curve" "p" "J", .fieldLink RX3 53 "PairingDesk$Curve" "\x72" "J", .fieldLink RX3 46 "PairingDesk$Curve" "h" "J"] ++ wsX30 ++ wsX00)
def wsX3_root : List Cond := .code yX3_root cX3_root 2 (some .int) :: ([.fieldLink RX3 33 "PairingDesk" "curve" "LPairingDesk$Curve;", .fieldLink RX3 56 "PairingDesk$Curve" "field" "LPairingDesk$PrimeField;", .methodLink RX3 60 yX2_has, .instanceMethod yX2_has, .selects RX2 yX2_has yX2_has, .initialized RX2, .code yX2_has cX2_has 2 (some .boolean), .fieldLink RX2 9 "PairingDesk$PrimeField" "p" "J", .methodLink RX3 64 yX2_evenRoot, .instanceMethod yX2_evenRoot, .selects RX2 yX2_evenRoot yX2_evenRoot, .code yX2_evenRoot cX2_evenRoot 9 (some .long), .constantLong RX2 15 (4), .constantLong RX2 17 (2), .constantLong RX2 23 (-1), .methodLink RX2 19 yX2_product, .instanceMethod yX2_product, .selects RX2 yX2_product yX2_product, .code yX2_product cX2_product 5 (some .long)] ++ wsX30 ++ wsX00 ++ wsX20)
def wsX3_isSlot : List Cond := .code yX3_isSlot cX3_isSlot 1 (some .boolean) :: ([])
def wsX3_point_r1 : List Cond := [Cond.fieldLink RX3 33 "PairingDesk" "curve" "LPairingDesk$Curve;", Cond.fieldLink RX3 56 "PairingDesk$Curve" "field" "LPairingDesk$PrimeField;", Cond.fieldLink RX3 9 "PairingDesk" "slots" "[J", Cond.methodLink RX3 68 yX3_isSlot, Cond.static yX3_isSlot, Cond.initialized RX3, Cond.code yX3_isSlot cX3_isSlot 1 (some .boolean), Cond.methodLink RX3 60 yX2_has, Cond.instanceMethod yX2_has, Cond.selects RX2 yX2_has yX2_has, Cond.initialized RX2, Cond.code yX2_has cX2_has 2 (some .boolean), Cond.fieldLink RX2 9 "PairingDesk$PrimeField" "p" "J", Cond.methodLink RX3 71 yX0_passes, Cond.instanceMethod yX0_passes, Cond.selects RX0 yX0_passes yX0_passes, Cond.initialized RX0, Cond.code yX0_passes cX0_passes 5 (some .boolean), Cond.fieldLink RX0 9 "PairingDesk$Curve" "field" "LPairingDesk$PrimeField;", Cond.methodLink RX0 35 yX2_product, Cond.instanceMethod yX2_product, Cond.selects RX2 yX2_product yX2_product, Cond.code yX2_product cX2_product 5 (some .long), Cond.methodLink RX0 39 yX0_squareOfY]
def wsX3_point_r2 : List Cond := [Cond.instanceMethod yX0_squareOfY, Cond.selects RX0 yX0_squareOfY yX0_squareOfY, Cond.code yX0_squareOfY cX0_squareOfY 3 (some .long), Cond.fieldLink RX0 21 "PairingDesk$Curve" "p" "J", Cond.methodLink RX3 75 yX3_joined, Cond.static yX3_joined, Cond.code yX3_joined cX3_joined 4 (some .long)]
def wsX3_point : List Cond := .code yX3_point cX3_point 4 (some .int) :: ((wsX3_point_r1 ++ wsX3_point_r2) ++ wsX30 ++ wsX00 ++ wsX20)
def wsX3_nowhere : List Cond := .code yX3_nowhere cX3_nowhere 2 (some .int) :: ([.fieldLink RX3 33 "PairingDesk" "curve" "LPairingDesk$Curve;", .fieldLink RX3 9 "PairingDesk" "slots" "[J", .constantLong RX3 79 (-1), .methodLink RX3 68 yX3_isSlot, .static yX3_isSlot, .initialized RX3, .code yX3_isSlot cX3_isSlot 1 (some .boolean)] ++ wsX30)
def wsX3_turn_r1 : List Cond := [Cond.fieldLink RX3 33 "PairingDesk" "curve" "LPairingDesk$Curve;", Cond.fieldLink RX3 9 "PairingDesk" "slots" "[J", Cond.fieldLink RX3 84 "PairingDesk$Curve" "tried" "I", Cond.methodLink RX3 68 yX3_isSlot, Cond.static yX3_isSlot, Cond.initialized RX3, Cond.code yX3_isSlot cX3_isSlot 1 (some .boolean), Cond.methodLink RX3 81 yX0_turned, Cond.instanceMethod yX0_turned, Cond.selects RX0 yX0_turned yX0_turned, Cond.initialized RX0, Cond.code yX0_turned cX0_turned 10 (some .long), Cond.fieldLink RX0 88 "PairingDesk$Curve" "tried" "I", Cond.fieldLink RX0 9 "PairingDesk$Curve" "field" "LPairingDesk$PrimeField;", Cond.fieldLink RX0 25 "PairingDesk$Curve" "h" "J", Cond.constantLong RX0 58 (-1), Cond.fieldLink RX0 21 "PairingDesk$Curve" "p" "J", Cond.methodLink RX0 85 yX0_firstTried, Cond.instanceMethod yX0_firstTried, Cond.selects RX0 yX0_firstTried yX0_firstTried, Cond.code yX0_firstTried cX0_firstTried 3 (some .long), Cond.constantLong RX0 50 (2), Cond.methodLink RX0 39 yX0_squareOfY, Cond.instanceMethod yX0_squareOfY]
def wsX3_turn_r2 : List Cond := [Cond.selects RX0 yX0_squareOfY yX0_squareOfY, Cond.code yX0_squareOfY cX0_squareOfY 3 (some .long), Cond.methodLink RX0 35 yX2_product, Cond.instanceMethod yX2_product, Cond.selects RX2 yX2_product yX2_product, Cond.initialized RX2, Cond.code yX2_product cX2_product 5 (some .long), Cond.fieldLink RX2 9 "PairingDesk$PrimeField" "p" "J", Cond.methodLink RX0 92 yX2_evenRoot, Cond.instanceMethod yX2_evenRoot, Cond.selects RX2 yX2_evenRoot yX2_evenRoot, Cond.code yX2_evenRoot cX2_evenRoot 9 (some .long), Cond.constantLong RX2 15 (4), Cond.constantLong RX2 17 (2), Cond.constantLong RX2 23 (-1), Cond.methodLink RX2 19 yX2_product, Cond.static yX3_joined, Cond.code yX3_joined cX3_joined 4 (some .long), Cond.methodLink RX0 82 yX0_multiple, Cond.instanceMethod yX0_multiple, Cond.selects RX0 yX0_multiple yX0_multiple, Cond.code yX0_multiple cX0_multiple 11 (some .long), Cond.methodLink RX0 70 yJ9_floorMod_f86c9, Cond.static yJ9_floorMod_f86c9]
def wsX3_turn_r3 : List Cond := [Cond.initialized RJ9, Cond.code yJ9_floorMod_f86c9 cJ9_floorMod_f86c9 6 (some .long), Cond.methodLink RX0 75 yX0_sum, Cond.instanceMethod yX0_sum, Cond.selects RX0 yX0_sum yX0_sum, Cond.code yX0_sum cX0_sum 11 (some .long), Cond.methodLink RX0 60 yX0_areOpposite, Cond.instanceMethod yX0_areOpposite, Cond.selects RX0 yX0_areOpposite yX0_areOpposite, Cond.code yX0_areOpposite cX0_areOpposite 5 (some .boolean), Cond.static yX3_upper, Cond.code yX3_upper cX3_upper 2 (some .long), Cond.static yX3_lower, Cond.code yX3_lower cX3_lower 2 (some .long), Cond.constantLong RX3 163 (2147483647), Cond.methodLink RX0 64 yX0_slope, Cond.instanceMethod yX0_slope, Cond.selects RX0 yX0_slope yX0_slope, Cond.code yX0_slope cX0_slope 11 (some .long), Cond.constantLong RX0 48 (3), Cond.methodLink RX0 52 yX2_inverse, Cond.instanceMethod yX2_inverse, Cond.selects RX2 yX2_inverse yX2_inverse, Cond.code yX2_inverse cX2_inverse 18 (some .long)]
def wsX3_turn_r4 : List Cond := [Cond.methodLink RX0 55 yX2_difference, Cond.instanceMethod yX2_difference, Cond.selects RX2 yX2_difference yX2_difference, Cond.code yX2_difference cX2_difference 5 (some .long)]
def wsX3_turn : List Cond := .code yX3_turn cX3_turn 4 (some .int) :: ((wsX3_turn_r1 ++ (wsX3_turn_r2 ++ (wsX3_turn_r3 ++ wsX3_turn_r4))) ++ wsX30 ++ wsX00 ++ wsX20)
def wsX3_add_r1 : List Cond := [Cond.fieldLink RX3 33 "PairingDesk" "curve" "LPairingDesk$Curve;", Cond.fieldLink RX3 9 "PairingDesk" "slots" "[J", Cond.constantLong RX3 79 (-1), Cond.methodLink RX3 68 yX3_isSlot, Cond.static yX3_isSlot, Cond.initialized RX3, Cond.code yX3_isSlot cX3_isSlot 1 (some .boolean), Cond.methodLink RX3 88 yX0_sum, Cond.instanceMethod yX0_sum, Cond.selects RX0 yX0_sum yX0_sum, Cond.initialized RX0, Cond.code yX0_sum cX0_sum 11 (some .long), Cond.constantLong RX0 58 (-1), Cond.fieldLink RX0 9 "PairingDesk$Curve" "field" "LPairingDesk$PrimeField;", Cond.methodLink RX0 60 yX0_areOpposite, Cond.instanceMethod yX0_areOpposite, Cond.selects RX0 yX0_areOpposite yX0_areOpposite, Cond.code yX0_areOpposite cX0_areOpposite 5 (some .boolean), Cond.fieldLink RX0 21 "PairingDesk$Curve" "p" "J", Cond.static yX3_upper, Cond.code yX3_upper cX3_upper 2 (some .long), Cond.static yX3_lower, Cond.code yX3_lower cX3_lower 2 (some .long), Cond.constantLong RX3 163 (2147483647)]
def wsX3_add_r2 : List Cond := [Cond.methodLink RX0 64 yX0_slope, Cond.instanceMethod yX0_slope, Cond.selects RX0 yX0_slope yX0_slope, Cond.code yX0_slope cX0_slope 11 (some .long), Cond.constantLong RX0 48 (3), Cond.constantLong RX0 50 (2), Cond.methodLink RX0 35 yX2_product, Cond.instanceMethod yX2_product, Cond.selects RX2 yX2_product yX2_product, Cond.initialized RX2, Cond.code yX2_product cX2_product 5 (some .long), Cond.fieldLink RX2 9 "PairingDesk$PrimeField" "p" "J", Cond.methodLink RX0 52 yX2_inverse, Cond.instanceMethod yX2_inverse, Cond.selects RX2 yX2_inverse yX2_inverse, Cond.code yX2_inverse cX2_inverse 18 (some .long), Cond.methodLink RX0 55 yX2_difference, Cond.instanceMethod yX2_difference, Cond.selects RX2 yX2_difference yX2_difference, Cond.code yX2_difference cX2_difference 5 (some .long), Cond.static yX3_joined, Cond.code yX3_joined cX3_joined 4 (some .long)]
def wsX3_add : List Cond := .code yX3_add cX3_add 4 (some .int) :: ((wsX3_add_r1 ++ wsX3_add_r2) ++ wsX30 ++ wsX00 ++ wsX20)
def wsX3_times_r1 : List Cond := [Cond.fieldLink RX3 33 "PairingDesk" "curve" "LPairingDesk$Curve;", Cond.fieldLink RX3 9 "PairingDesk" "slots" "[J", Cond.constantLong RX3 79 (-1), Cond.methodLink RX3 68 yX3_isSlot, Cond.static yX3_isSlot, Cond.initialized RX3, Cond.code yX3_isSlot cX3_isSlot 1 (some .boolean), Cond.methodLink RX3 91 yX0_multiple, Cond.instanceMethod yX0_multiple, Cond.selects RX0 yX0_multiple yX0_multiple, Cond.initialized RX0, Cond.code yX0_multiple cX0_multiple 11 (some .long), Cond.constantLong RX0 58 (-1), Cond.fieldLink RX0 21 "PairingDesk$Curve" "p" "J", Cond.constantLong RX0 50 (2), Cond.methodLink RX0 70 yJ9_floorMod_f86c9, Cond.static yJ9_floorMod_f86c9, Cond.initialized RJ9, Cond.code yJ9_floorMod_f86c9 cJ9_floorMod_f86c9 6 (some .long), Cond.methodLink RX0 75 yX0_sum, Cond.instanceMethod yX0_sum, Cond.selects RX0 yX0_sum yX0_sum, Cond.code yX0_sum cX0_sum 11 (some .long), Cond.fieldLink RX0 9 "PairingDesk$Curve" "field" "LPairingDesk$PrimeField;"]
def wsX3_times_r2 : List Cond := [Cond.methodLink RX0 60 yX0_areOpposite, Cond.instanceMethod yX0_areOpposite, Cond.selects RX0 yX0_areOpposite yX0_areOpposite, Cond.code yX0_areOpposite cX0_areOpposite 5 (some .boolean), Cond.static yX3_upper, Cond.code yX3_upper cX3_upper 2 (some .long), Cond.static yX3_lower, Cond.code yX3_lower cX3_lower 2 (some .long), Cond.constantLong RX3 163 (2147483647), Cond.methodLink RX0 64 yX0_slope, Cond.instanceMethod yX0_slope, Cond.selects RX0 yX0_slope yX0_slope, Cond.code yX0_slope cX0_slope 11 (some .long), Cond.constantLong RX0 48 (3), Cond.methodLink RX0 35 yX2_product, Cond.instanceMethod yX2_product, Cond.selects RX2 yX2_product yX2_product, Cond.initialized RX2, Cond.code yX2_product cX2_product 5 (some .long), Cond.fieldLink RX2 9 "PairingDesk$PrimeField" "p" "J", Cond.methodLink RX0 52 yX2_inverse, Cond.instanceMethod yX2_inverse, Cond.selects RX2 yX2_inverse yX2_inverse, Cond.code yX2_inverse cX2_inverse 18 (some .long)]
def wsX3_times_r3 : List Cond := [Cond.methodLink RX0 55 yX2_difference, Cond.instanceMethod yX2_difference, Cond.selects RX2 yX2_difference yX2_difference, Cond.code yX2_difference cX2_difference 5 (some .long), Cond.static yX3_joined, Cond.code yX3_joined cX3_joined 4 (some .long)]
def wsX3_times : List Cond := .code yX3_times cX3_times 5 (some .int) :: ((wsX3_times_r1 ++ (wsX3_times_r2 ++ wsX3_times_r3)) ++ wsX30 ++ wsX00 ++ wsX20)
def wsX3_isHalf : List Cond := .code yX3_isHalf cX3_isHalf 1 (some .boolean) :: ([])
def wsX3_half : List Cond := .code yX3_half cX3_half 3 (some .int) :: ([.methodLink RX3 150 yX3_upper, .static yX3_upper, .initialized RX3, .code yX3_upper cX3_upper 2 (some .long), .methodLink RX3 153 yX3_lower, .static yX3_lower, .code yX3_lower cX3_lower 2 (some .long), .constantLong RX3 163 (2147483647)])
def wsX3_at : List Cond := .code yX3_at cX3_at 3 (some .int) :: ([.fieldLink RX3 33 "PairingDesk" "curve" "LPairingDesk$Curve;", .fieldLink RX3 9 "PairingDesk" "slots" "[J", .constantLong RX3 79 (-1), .methodLink RX3 68 yX3_isSlot, .static yX3_isSlot, .initialized RX3, .code yX3_isSlot cX3_isSlot 1 (some .boolean), .methodLink RX3 94 yX3_isHalf, .static yX3_isHalf, .code yX3_isHalf cX3_isHalf 1 (some .boolean), .methodLink RX3 97 yX3_half, .static yX3_half, .code yX3_half cX3_half 3 (some .int), .methodLink RX3 150 yX3_upper, .static yX3_upper, .code yX3_upper cX3_upper 2 (some .long), .methodLink RX3 153 yX3_lower, .static yX3_lower, .code yX3_lower cX3_lower 2 (some .long), .constantLong RX3 163 (2147483647)] ++ wsX30)
def wsX3_order_r1 : List Cond := [Cond.fieldLink RX3 33 "PairingDesk" "curve" "LPairingDesk$Curve;", Cond.fieldLink RX3 9 "PairingDesk" "slots" "[J", Cond.methodLink RX3 68 yX3_isSlot, Cond.static yX3_isSlot, Cond.initialized RX3, Cond.code yX3_isSlot cX3_isSlot 1 (some .boolean), Cond.methodLink RX3 101 yX0_orderOf, Cond.instanceMethod yX0_orderOf, Cond.selects RX0 yX0_orderOf yX0_orderOf, Cond.initialized RX0, Cond.code yX0_orderOf cX0_orderOf 10 (some .long), Cond.fieldLink RX0 21 "PairingDesk$Curve" "p" "J", Cond.constantLong RX0 50 (2), Cond.methodLink RX0 78 yX0_orderWithout, Cond.instanceMethod yX0_orderWithout, Cond.selects RX0 yX0_orderWithout yX0_orderWithout, Cond.code yX0_orderWithout cX0_orderWithout 7 (some .long), Cond.constantLong RX0 58 (-1), Cond.methodLink RX0 82 yX0_multiple, Cond.instanceMethod yX0_multiple, Cond.selects RX0 yX0_multiple yX0_multiple, Cond.code yX0_multiple cX0_multiple 11 (some .long), Cond.methodLink RX0 70 yJ9_floorMod_f86c9, Cond.static yJ9_floorMod_f86c9]
def wsX3_order_r2 : List Cond := [Cond.initialized RJ9, Cond.code yJ9_floorMod_f86c9 cJ9_floorMod_f86c9 6 (some .long), Cond.methodLink RX0 75 yX0_sum, Cond.instanceMethod yX0_sum, Cond.selects RX0 yX0_sum yX0_sum, Cond.code yX0_sum cX0_sum 11 (some .long), Cond.fieldLink RX0 9 "PairingDesk$Curve" "field" "LPairingDesk$PrimeField;", Cond.methodLink RX0 60 yX0_areOpposite, Cond.instanceMethod yX0_areOpposite, Cond.selects RX0 yX0_areOpposite yX0_areOpposite, Cond.code yX0_areOpposite cX0_areOpposite 5 (some .boolean), Cond.static yX3_upper, Cond.code yX3_upper cX3_upper 2 (some .long), Cond.static yX3_lower, Cond.code yX3_lower cX3_lower 2 (some .long), Cond.constantLong RX3 163 (2147483647), Cond.methodLink RX0 64 yX0_slope, Cond.instanceMethod yX0_slope, Cond.selects RX0 yX0_slope yX0_slope, Cond.code yX0_slope cX0_slope 11 (some .long), Cond.constantLong RX0 48 (3), Cond.methodLink RX0 35 yX2_product, Cond.instanceMethod yX2_product, Cond.selects RX2 yX2_product yX2_product]
def wsX3_order_r3 : List Cond := [Cond.initialized RX2, Cond.code yX2_product cX2_product 5 (some .long), Cond.fieldLink RX2 9 "PairingDesk$PrimeField" "p" "J", Cond.methodLink RX0 52 yX2_inverse, Cond.instanceMethod yX2_inverse, Cond.selects RX2 yX2_inverse yX2_inverse, Cond.code yX2_inverse cX2_inverse 18 (some .long), Cond.methodLink RX0 55 yX2_difference, Cond.instanceMethod yX2_difference, Cond.selects RX2 yX2_difference yX2_difference, Cond.code yX2_difference cX2_difference 5 (some .long), Cond.static yX3_joined, Cond.code yX3_joined cX3_joined 4 (some .long)]
def wsX3_order : List Cond := .code yX3_order cX3_order 2 (some .int) :: ((wsX3_order_r1 ++ (wsX3_order_r2 ++ wsX3_order_r3)) ++ wsX30 ++ wsX00 ++ wsX20)
def wsX3_written : List Cond := .code yX3_written cX3_written 2 (some .long) :: ([.constantLong RX3 79 (-1), .constantLong RX3 159 (2), .methodLink RX3 150 yX3_upper, .static yX3_upper, .initialized RX3, .code yX3_upper cX3_upper 2 (some .long), .methodLink RX3 153 yX3_lower, .static yX3_lower, .code yX3_lower cX3_lower 2 (some .long), .constantLong RX3 163 (2147483647)])
def wsX3_write : List Cond := .code yX3_write cX3_write 2 (some .long) :: ([.fieldLink RX3 33 "PairingDesk" "curve" "LPairingDesk$Curve;", .constantLong RX3 104 (-3), .constantLong RX3 106 (-2), .fieldLink RX3 9 "PairingDesk" "slots" "[J", .methodLink RX3 68 yX3_isSlot, .static yX3_isSlot, .initialized RX3, .code yX3_isSlot cX3_isSlot 1 (some .boolean), .methodLink RX3 108 yX3_written, .static yX3_written, .code yX3_written cX3_written 2 (some .long), .constantLong RX3 79 (-1), .constantLong RX3 159 (2), .methodLink RX3 150 yX3_upper, .static yX3_upper, .code yX3_upper cX3_upper 2 (some .long), .methodLink RX3 153 yX3_lower, .static yX3_lower, .code yX3_lower cX3_lower 2 (some .long), .constantLong RX3 163 (2147483647)] ++ wsX30)
def wsX3_read_r1 : List Cond := [Cond.fieldLink RX3 33 "PairingDesk" "curve" "LPairingDesk$Curve;", Cond.constantLong RX3 106 (-2), Cond.fieldLink RX3 9 "PairingDesk" "slots" "[J", Cond.methodLink RX3 68 yX3_isSlot, Cond.static yX3_isSlot, Cond.initialized RX3, Cond.code yX3_isSlot cX3_isSlot 1 (some .boolean), Cond.methodLink RX3 111 yX0_pointWritten, Cond.instanceMethod yX0_pointWritten, Cond.selects RX0 yX0_pointWritten yX0_pointWritten, Cond.initialized RX0, Cond.code yX0_pointWritten cX0_pointWritten 7 (some .long), Cond.constantLong RX0 58 (-1), Cond.constantLong RX0 50 (2), Cond.fieldLink RX0 21 "PairingDesk$Curve" "p" "J", Cond.constantLong RX0 95 (-2), Cond.fieldLink RX0 9 "PairingDesk$Curve" "field" "LPairingDesk$PrimeField;", Cond.methodLink RX0 39 yX0_squareOfY, Cond.instanceMethod yX0_squareOfY, Cond.selects RX0 yX0_squareOfY yX0_squareOfY, Cond.code yX0_squareOfY cX0_squareOfY 3 (some .long), Cond.methodLink RX0 35 yX2_product, Cond.instanceMethod yX2_product, Cond.selects RX2 yX2_product yX2_product]
def wsX3_read_r2 : List Cond := [Cond.initialized RX2, Cond.code yX2_product cX2_product 5 (some .long), Cond.fieldLink RX2 9 "PairingDesk$PrimeField" "p" "J", Cond.methodLink RX0 92 yX2_evenRoot, Cond.instanceMethod yX2_evenRoot, Cond.selects RX2 yX2_evenRoot yX2_evenRoot, Cond.code yX2_evenRoot cX2_evenRoot 9 (some .long), Cond.constantLong RX2 15 (4), Cond.constantLong RX2 17 (2), Cond.constantLong RX2 23 (-1), Cond.methodLink RX2 19 yX2_product, Cond.static yX3_joined, Cond.code yX3_joined cX3_joined 4 (some .long)]
def wsX3_read : List Cond := .code yX3_read cX3_read 6 (some .int) :: ((wsX3_read_r1 ++ wsX3_read_r2) ++ wsX30 ++ wsX00 ++ wsX20)
def wsX3_isValue : List Cond := .code yX3_isValue cX3_isValue 1 (some .boolean) :: ([])
def wsX3_pair_r1 : List Cond := [Cond.fieldLink RX3 42 "PairingDesk" "pairing" "LPairingDesk$Pairing;", Cond.fieldLink RX3 9 "PairingDesk" "slots" "[J", Cond.fieldLink RX3 13 "PairingDesk" "values" "[J", Cond.methodLink RX3 114 yX3_isValue, Cond.static yX3_isValue, Cond.initialized RX3, Cond.code yX3_isValue cX3_isValue 1 (some .boolean), Cond.methodLink RX3 68 yX3_isSlot, Cond.static yX3_isSlot, Cond.code yX3_isSlot cX3_isSlot 1 (some .boolean), Cond.methodLink RX3 117 yX1_takes, Cond.instanceMethod yX1_takes, Cond.selects RX1 yX1_takes yX1_takes, Cond.initialized RX1, Cond.code yX1_takes cX1_takes 3 (some .boolean), Cond.fieldLink RX1 9 "PairingDesk$Pairing" "curve" "LPairingDesk$Curve;", Cond.fieldLink RX1 25 "PairingDesk$Pairing" "\x72" "J", Cond.constantLong RX1 30 (-1), Cond.methodLink RX1 26 yX0_multiple, Cond.instanceMethod yX0_multiple, Cond.selects RX0 yX0_multiple yX0_multiple, Cond.initialized RX0, Cond.code yX0_multiple cX0_multiple 11 (some .long), Cond.constantLong RX0 58 (-1)]
def wsX3_pair_r2 : List Cond := [Cond.fieldLink RX0 21 "PairingDesk$Curve" "p" "J", Cond.constantLong RX0 50 (2), Cond.methodLink RX0 70 yJ9_floorMod_f86c9, Cond.static yJ9_floorMod_f86c9, Cond.initialized RJ9, Cond.code yJ9_floorMod_f86c9 cJ9_floorMod_f86c9 6 (some .long), Cond.methodLink RX0 75 yX0_sum, Cond.instanceMethod yX0_sum, Cond.selects RX0 yX0_sum yX0_sum, Cond.code yX0_sum cX0_sum 11 (some .long), Cond.fieldLink RX0 9 "PairingDesk$Curve" "field" "LPairingDesk$PrimeField;", Cond.methodLink RX0 60 yX0_areOpposite, Cond.instanceMethod yX0_areOpposite, Cond.selects RX0 yX0_areOpposite yX0_areOpposite, Cond.code yX0_areOpposite cX0_areOpposite 5 (some .boolean), Cond.static yX3_upper, Cond.code yX3_upper cX3_upper 2 (some .long), Cond.static yX3_lower, Cond.code yX3_lower cX3_lower 2 (some .long), Cond.constantLong RX3 163 (2147483647), Cond.methodLink RX0 64 yX0_slope, Cond.instanceMethod yX0_slope, Cond.selects RX0 yX0_slope yX0_slope, Cond.code yX0_slope cX0_slope 11 (some .long)]
def wsX3_pair_r3 : List Cond := [Cond.constantLong RX0 48 (3), Cond.methodLink RX0 35 yX2_product, Cond.instanceMethod yX2_product, Cond.selects RX2 yX2_product yX2_product, Cond.initialized RX2, Cond.code yX2_product cX2_product 5 (some .long), Cond.fieldLink RX2 9 "PairingDesk$PrimeField" "p" "J", Cond.methodLink RX0 52 yX2_inverse, Cond.instanceMethod yX2_inverse, Cond.selects RX2 yX2_inverse yX2_inverse, Cond.code yX2_inverse cX2_inverse 18 (some .long), Cond.methodLink RX0 55 yX2_difference, Cond.instanceMethod yX2_difference, Cond.selects RX2 yX2_difference yX2_difference, Cond.code yX2_difference cX2_difference 5 (some .long), Cond.static yX3_joined, Cond.code yX3_joined cX3_joined 4 (some .long), Cond.methodLink RX3 121 yX1_of, Cond.instanceMethod yX1_of, Cond.selects RX1 yX1_of yX1_of, Cond.code yX1_of cX1_of 10 (some .long), Cond.constantLong RX1 47 (2147483648), Cond.fieldLink RX1 21 "PairingDesk$Pairing" "p" "J", Cond.methodLink RX1 60 yX1_bitsBehindHighest]
def wsX3_pair_r4 : List Cond := [Cond.instanceMethod yX1_bitsBehindHighest, Cond.selects RX1 yX1_bitsBehindHighest yX1_bitsBehindHighest, Cond.code yX1_bitsBehindHighest cX1_bitsBehindHighest 1 (some .int), Cond.methodLink RX1 54 yJ13_numberOfLeadingZeros_95d88, Cond.static yJ13_numberOfLeadingZeros_95d88, Cond.initialized RJ13, Cond.code yJ13_numberOfLeadingZeros_95d88 cJ13_numberOfLeadingZeros_95d88 3 (some .int), Cond.methodLink RJ13 308 yJ6_numberOfLeadingZeros_0f7a4, Cond.static yJ6_numberOfLeadingZeros_0f7a4, Cond.initialized RJ6, Cond.code yJ6_numberOfLeadingZeros_0f7a4 cJ6_numberOfLeadingZeros_0f7a4 2 (some .int), Cond.constant RJ6 264 (65536), Cond.methodLink RX1 51 yX1_product, Cond.instanceMethod yX1_product, Cond.selects RX1 yX1_product yX1_product, Cond.code yX1_product cX1_product 9 (some .long), Cond.methodLink RX1 39 yJ9_floorMod_f86c9, Cond.methodLink RX1 67 yX1_line, Cond.instanceMethod yX1_line, Cond.selects RX1 yX1_line yX1_line, Cond.code yX1_line cX1_line 11 (some .long), Cond.fieldLink RX1 77 "PairingDesk$Curve" "field" "LPairingDesk$PrimeField;", Cond.methodLink RX1 81 yX2_difference, Cond.methodLink RX1 86 yX0_areOpposite]
def wsX3_pair_r5 : List Cond := [Cond.methodLink RX1 90 yX0_slope, Cond.methodLink RX1 93 yX2_product, Cond.methodLink RX1 71 yX0_sum, Cond.methodLink RX1 74 yX1_raised, Cond.instanceMethod yX1_raised, Cond.selects RX1 yX1_raised yX1_raised, Cond.code yX1_raised cX1_raised 11 (some .long), Cond.constantLong RX1 49 (2), Cond.methodLink RX3 124 yX1_linesOf, Cond.instanceMethod yX1_linesOf, Cond.selects RX1 yX1_linesOf yX1_linesOf, Cond.code yX1_linesOf cX1_linesOf 5 (some .int), Cond.methodLink RX1 64 yJ13_bitCount_95d88, Cond.static yJ13_bitCount_95d88, Cond.code yJ13_bitCount_95d88 cJ13_bitCount_95d88 2 (some .int), Cond.constantLong RJ13 314 (6148914691236517205), Cond.constantLong RJ13 316 (3689348814741910323), Cond.constantLong RJ13 318 (1085102592571150095)]
def wsX3_pair : List Cond := .code yX3_pair cX3_pair 4 (some .int) :: ((wsX3_pair_r1 ++ (wsX3_pair_r2 ++ (wsX3_pair_r3 ++ (wsX3_pair_r4 ++ wsX3_pair_r5)))) ++ wsX30 ++ wsX10 ++ wsX00 ++ wsX20)
def wsX3_multiply : List Cond := .code yX3_multiply cX3_multiply 4 (some .int) :: ([.fieldLink RX3 42 "PairingDesk" "pairing" "LPairingDesk$Pairing;", .fieldLink RX3 13 "PairingDesk" "values" "[J", .constantLong RX3 131 (2147483648), .methodLink RX3 114 yX3_isValue, .static yX3_isValue, .initialized RX3, .code yX3_isValue cX3_isValue 1 (some .boolean), .methodLink RX3 128 yX1_product, .instanceMethod yX1_product, .selects RX1 yX1_product yX1_product, .initialized RX1, .code yX1_product cX1_product 9 (some .long), .fieldLink RX1 21 "PairingDesk$Pairing" "p" "J", .static yX3_upper, .code yX3_upper cX3_upper 2 (some .long), .static yX3_lower, .code yX3_lower cX3_lower 2 (some .long), .constantLong RX3 163 (2147483647), .methodLink RX1 39 yJ9_floorMod_f86c9, .static yJ9_floorMod_f86c9, .initialized RJ9, .code yJ9_floorMod_f86c9 cJ9_floorMod_f86c9 6 (some .long), .static yX3_joined, .code yX3_joined cX3_joined 4 (some .long)] ++ wsX30 ++ wsX10)
def wsX3_power_r1 : List Cond := [Cond.fieldLink RX3 42 "PairingDesk" "pairing" "LPairingDesk$Pairing;", Cond.fieldLink RX3 13 "PairingDesk" "values" "[J", Cond.constantLong RX3 131 (2147483648), Cond.methodLink RX3 114 yX3_isValue, Cond.static yX3_isValue, Cond.initialized RX3, Cond.code yX3_isValue cX3_isValue 1 (some .boolean), Cond.methodLink RX3 133 yX1_raised, Cond.instanceMethod yX1_raised, Cond.selects RX1 yX1_raised yX1_raised, Cond.initialized RX1, Cond.code yX1_raised cX1_raised 11 (some .long), Cond.constantLong RX1 47 (2147483648), Cond.constantLong RX1 49 (2), Cond.methodLink RX1 51 yX1_product, Cond.instanceMethod yX1_product, Cond.selects RX1 yX1_product yX1_product, Cond.code yX1_product cX1_product 9 (some .long), Cond.fieldLink RX1 21 "PairingDesk$Pairing" "p" "J", Cond.static yX3_upper, Cond.code yX3_upper cX3_upper 2 (some .long), Cond.static yX3_lower, Cond.code yX3_lower cX3_lower 2 (some .long), Cond.constantLong RX3 163 (2147483647)]
def wsX3_power_r2 : List Cond := [Cond.methodLink RX1 39 yJ9_floorMod_f86c9, Cond.static yJ9_floorMod_f86c9, Cond.initialized RJ9, Cond.code yJ9_floorMod_f86c9 cJ9_floorMod_f86c9 6 (some .long), Cond.static yX3_joined, Cond.code yX3_joined cX3_joined 4 (some .long)]
def wsX3_power : List Cond := .code yX3_power cX3_power 5 (some .int) :: ((wsX3_power_r1 ++ wsX3_power_r2) ++ wsX30 ++ wsX10)
def wsX3_value : List Cond := .code yX3_value cX3_value 3 (some .int) :: ([.fieldLink RX3 42 "PairingDesk" "pairing" "LPairingDesk$Pairing;", .fieldLink RX3 13 "PairingDesk" "values" "[J", .methodLink RX3 114 yX3_isValue, .static yX3_isValue, .initialized RX3, .code yX3_isValue cX3_isValue 1 (some .boolean), .methodLink RX3 94 yX3_isHalf, .static yX3_isHalf, .code yX3_isHalf cX3_isHalf 1 (some .boolean), .methodLink RX3 97 yX3_half, .static yX3_half, .code yX3_half cX3_half 3 (some .int), .methodLink RX3 150 yX3_upper, .static yX3_upper, .code yX3_upper cX3_upper 2 (some .long), .methodLink RX3 153 yX3_lower, .static yX3_lower, .code yX3_lower cX3_lower 2 (some .long), .constantLong RX3 163 (2147483647)] ++ wsX30)
def wsX3_open_r1 : List Cond := [Cond.fieldLink RX3 33 "PairingDesk" "curve" "LPairingDesk$Curve;", Cond.fieldLink RX3 9 "PairingDesk" "slots" "[J", Cond.fieldLink RX3 139 "PairingDesk$Curve" "base" "J", Cond.methodLink RX3 68 yX3_isSlot, Cond.static yX3_isSlot, Cond.initialized RX3, Cond.code yX3_isSlot cX3_isSlot 1 (some .boolean), Cond.methodLink RX3 136 yX0_isKey, Cond.instanceMethod yX0_isKey, Cond.selects RX0 yX0_isKey yX0_isKey, Cond.initialized RX0, Cond.code yX0_isKey cX0_isKey 2 (some .boolean), Cond.fieldLink RX0 22 "PairingDesk$Curve" "\x72" "J", Cond.methodLink RX3 91 yX0_multiple, Cond.instanceMethod yX0_multiple, Cond.selects RX0 yX0_multiple yX0_multiple, Cond.code yX0_multiple cX0_multiple 11 (some .long), Cond.constantLong RX0 58 (-1), Cond.fieldLink RX0 21 "PairingDesk$Curve" "p" "J", Cond.constantLong RX0 50 (2), Cond.methodLink RX0 70 yJ9_floorMod_f86c9, Cond.static yJ9_floorMod_f86c9, Cond.initialized RJ9, Cond.code yJ9_floorMod_f86c9 cJ9_floorMod_f86c9 6 (some .long)]
def wsX3_open_r2 : List Cond := [Cond.methodLink RX0 75 yX0_sum, Cond.instanceMethod yX0_sum, Cond.selects RX0 yX0_sum yX0_sum, Cond.code yX0_sum cX0_sum 11 (some .long), Cond.fieldLink RX0 9 "PairingDesk$Curve" "field" "LPairingDesk$PrimeField;", Cond.methodLink RX0 60 yX0_areOpposite, Cond.instanceMethod yX0_areOpposite, Cond.selects RX0 yX0_areOpposite yX0_areOpposite, Cond.code yX0_areOpposite cX0_areOpposite 5 (some .boolean), Cond.static yX3_upper, Cond.code yX3_upper cX3_upper 2 (some .long), Cond.static yX3_lower, Cond.code yX3_lower cX3_lower 2 (some .long), Cond.constantLong RX3 163 (2147483647), Cond.methodLink RX0 64 yX0_slope, Cond.instanceMethod yX0_slope, Cond.selects RX0 yX0_slope yX0_slope, Cond.code yX0_slope cX0_slope 11 (some .long), Cond.constantLong RX0 48 (3), Cond.methodLink RX0 35 yX2_product, Cond.instanceMethod yX2_product, Cond.selects RX2 yX2_product yX2_product, Cond.initialized RX2, Cond.code yX2_product cX2_product 5 (some .long)]
def wsX3_open_r3 : List Cond := [Cond.fieldLink RX2 9 "PairingDesk$PrimeField" "p" "J", Cond.methodLink RX0 52 yX2_inverse, Cond.instanceMethod yX2_inverse, Cond.selects RX2 yX2_inverse yX2_inverse, Cond.code yX2_inverse cX2_inverse 18 (some .long), Cond.methodLink RX0 55 yX2_difference, Cond.instanceMethod yX2_difference, Cond.selects RX2 yX2_difference yX2_difference, Cond.code yX2_difference cX2_difference 5 (some .long), Cond.static yX3_joined, Cond.code yX3_joined cX3_joined 4 (some .long)]
def wsX3_open : List Cond := .code yX3_open cX3_open 3 (some .int) :: ((wsX3_open_r1 ++ (wsX3_open_r2 ++ wsX3_open_r3)) ++ wsX30 ++ wsX00 ++ wsX20)
def wsX3_sign_r1 : List Cond := [Cond.fieldLink RX3 33 "PairingDesk" "curve" "LPairingDesk$Curve;", Cond.fieldLink RX3 9 "PairingDesk" "slots" "[J", Cond.methodLink RX3 68 yX3_isSlot, Cond.static yX3_isSlot, Cond.initialized RX3, Cond.code yX3_isSlot cX3_isSlot 1 (some .boolean), Cond.methodLink RX3 136 yX0_isKey, Cond.instanceMethod yX0_isKey, Cond.selects RX0 yX0_isKey yX0_isKey, Cond.initialized RX0, Cond.code yX0_isKey cX0_isKey 2 (some .boolean), Cond.fieldLink RX0 22 "PairingDesk$Curve" "\x72" "J", Cond.methodLink RX3 81 yX0_turned, Cond.instanceMethod yX0_turned, Cond.selects RX0 yX0_turned yX0_turned, Cond.code yX0_turned cX0_turned 10 (some .long), Cond.fieldLink RX0 88 "PairingDesk$Curve" "tried" "I", Cond.fieldLink RX0 9 "PairingDesk$Curve" "field" "LPairingDesk$PrimeField;", Cond.fieldLink RX0 25 "PairingDesk$Curve" "h" "J", Cond.constantLong RX0 58 (-1), Cond.fieldLink RX0 21 "PairingDesk$Curve" "p" "J", Cond.methodLink RX0 85 yX0_firstTried, Cond.instanceMethod yX0_firstTried, Cond.selects RX0 yX0_firstTried yX0_firstTried]
def wsX3_sign_r2 : List Cond := [Cond.code yX0_firstTried cX0_firstTried 3 (some .long), Cond.constantLong RX0 50 (2), Cond.methodLink RX0 39 yX0_squareOfY, Cond.instanceMethod yX0_squareOfY, Cond.selects RX0 yX0_squareOfY yX0_squareOfY, Cond.code yX0_squareOfY cX0_squareOfY 3 (some .long), Cond.methodLink RX0 35 yX2_product, Cond.instanceMethod yX2_product, Cond.selects RX2 yX2_product yX2_product, Cond.initialized RX2, Cond.code yX2_product cX2_product 5 (some .long), Cond.fieldLink RX2 9 "PairingDesk$PrimeField" "p" "J", Cond.methodLink RX0 92 yX2_evenRoot, Cond.instanceMethod yX2_evenRoot, Cond.selects RX2 yX2_evenRoot yX2_evenRoot, Cond.code yX2_evenRoot cX2_evenRoot 9 (some .long), Cond.constantLong RX2 15 (4), Cond.constantLong RX2 17 (2), Cond.constantLong RX2 23 (-1), Cond.methodLink RX2 19 yX2_product, Cond.static yX3_joined, Cond.code yX3_joined cX3_joined 4 (some .long), Cond.methodLink RX0 82 yX0_multiple, Cond.instanceMethod yX0_multiple]
def wsX3_sign_r3 : List Cond := [Cond.selects RX0 yX0_multiple yX0_multiple, Cond.code yX0_multiple cX0_multiple 11 (some .long), Cond.methodLink RX0 70 yJ9_floorMod_f86c9, Cond.static yJ9_floorMod_f86c9, Cond.initialized RJ9, Cond.code yJ9_floorMod_f86c9 cJ9_floorMod_f86c9 6 (some .long), Cond.methodLink RX0 75 yX0_sum, Cond.instanceMethod yX0_sum, Cond.selects RX0 yX0_sum yX0_sum, Cond.code yX0_sum cX0_sum 11 (some .long), Cond.methodLink RX0 60 yX0_areOpposite, Cond.instanceMethod yX0_areOpposite, Cond.selects RX0 yX0_areOpposite yX0_areOpposite, Cond.code yX0_areOpposite cX0_areOpposite 5 (some .boolean), Cond.static yX3_upper, Cond.code yX3_upper cX3_upper 2 (some .long), Cond.static yX3_lower, Cond.code yX3_lower cX3_lower 2 (some .long), Cond.constantLong RX3 163 (2147483647), Cond.methodLink RX0 64 yX0_slope, Cond.instanceMethod yX0_slope, Cond.selects RX0 yX0_slope yX0_slope, Cond.code yX0_slope cX0_slope 11 (some .long), Cond.constantLong RX0 48 (3)]
def wsX3_sign_r4 : List Cond := [Cond.methodLink RX0 52 yX2_inverse, Cond.instanceMethod yX2_inverse, Cond.selects RX2 yX2_inverse yX2_inverse, Cond.code yX2_inverse cX2_inverse 18 (some .long), Cond.methodLink RX0 55 yX2_difference, Cond.instanceMethod yX2_difference, Cond.selects RX2 yX2_difference yX2_difference, Cond.code yX2_difference cX2_difference 5 (some .long), Cond.methodLink RX3 91 yX0_multiple]
def wsX3_sign : List Cond := .code yX3_sign cX3_sign 5 (some .int) :: ((wsX3_sign_r1 ++ (wsX3_sign_r2 ++ (wsX3_sign_r3 ++ wsX3_sign_r4))) ++ wsX30 ++ wsX00 ++ wsX20)
def wsX3_holds_r1 : List Cond := [Cond.fieldLink RX3 42 "PairingDesk" "pairing" "LPairingDesk$Pairing;", Cond.fieldLink RX3 9 "PairingDesk" "slots" "[J", Cond.methodLink RX3 68 yX3_isSlot, Cond.static yX3_isSlot, Cond.initialized RX3, Cond.code yX3_isSlot cX3_isSlot 1 (some .boolean), Cond.methodLink RX3 142 yX1_agree, Cond.instanceMethod yX1_agree, Cond.selects RX1 yX1_agree yX1_agree, Cond.initialized RX1, Cond.code yX1_agree cX1_agree 11 (some .boolean), Cond.constantLong RX1 47 (2147483648), Cond.fieldLink RX1 9 "PairingDesk$Pairing" "curve" "LPairingDesk$Curve;", Cond.fieldLink RX1 108 "PairingDesk$Curve" "base" "J", Cond.methodLink RX1 94 yX1_takes, Cond.instanceMethod yX1_takes, Cond.selects RX1 yX1_takes yX1_takes, Cond.code yX1_takes cX1_takes 3 (some .boolean), Cond.fieldLink RX1 25 "PairingDesk$Pairing" "\x72" "J", Cond.constantLong RX1 30 (-1), Cond.methodLink RX1 26 yX0_multiple, Cond.instanceMethod yX0_multiple, Cond.selects RX0 yX0_multiple yX0_multiple, Cond.initialized RX0]
def wsX3_holds_r2 : List Cond := [Cond.code yX0_multiple cX0_multiple 11 (some .long), Cond.constantLong RX0 58 (-1), Cond.fieldLink RX0 21 "PairingDesk$Curve" "p" "J", Cond.constantLong RX0 50 (2), Cond.methodLink RX0 70 yJ9_floorMod_f86c9, Cond.static yJ9_floorMod_f86c9, Cond.initialized RJ9, Cond.code yJ9_floorMod_f86c9 cJ9_floorMod_f86c9 6 (some .long), Cond.methodLink RX0 75 yX0_sum, Cond.instanceMethod yX0_sum, Cond.selects RX0 yX0_sum yX0_sum, Cond.code yX0_sum cX0_sum 11 (some .long), Cond.fieldLink RX0 9 "PairingDesk$Curve" "field" "LPairingDesk$PrimeField;", Cond.methodLink RX0 60 yX0_areOpposite, Cond.instanceMethod yX0_areOpposite, Cond.selects RX0 yX0_areOpposite yX0_areOpposite, Cond.code yX0_areOpposite cX0_areOpposite 5 (some .boolean), Cond.static yX3_upper, Cond.code yX3_upper cX3_upper 2 (some .long), Cond.static yX3_lower, Cond.code yX3_lower cX3_lower 2 (some .long), Cond.constantLong RX3 163 (2147483647), Cond.methodLink RX0 64 yX0_slope, Cond.instanceMethod yX0_slope]
def wsX3_holds_r3 : List Cond := [Cond.selects RX0 yX0_slope yX0_slope, Cond.code yX0_slope cX0_slope 11 (some .long), Cond.constantLong RX0 48 (3), Cond.methodLink RX0 35 yX2_product, Cond.instanceMethod yX2_product, Cond.selects RX2 yX2_product yX2_product, Cond.initialized RX2, Cond.code yX2_product cX2_product 5 (some .long), Cond.fieldLink RX2 9 "PairingDesk$PrimeField" "p" "J", Cond.methodLink RX0 52 yX2_inverse, Cond.instanceMethod yX2_inverse, Cond.selects RX2 yX2_inverse yX2_inverse, Cond.code yX2_inverse cX2_inverse 18 (some .long), Cond.methodLink RX0 55 yX2_difference, Cond.instanceMethod yX2_difference, Cond.selects RX2 yX2_difference yX2_difference, Cond.code yX2_difference cX2_difference 5 (some .long), Cond.static yX3_joined, Cond.code yX3_joined cX3_joined 4 (some .long), Cond.methodLink RX1 98 yX1_takeAll, Cond.instanceMethod yX1_takeAll, Cond.selects RX1 yX1_takeAll yX1_takeAll, Cond.code yX1_takeAll cX1_takeAll 5 (some .boolean), Cond.methodLink RX1 102 yX0_turned]
def wsX3_holds_r4 : List Cond := [Cond.instanceMethod yX0_turned, Cond.selects RX0 yX0_turned yX0_turned, Cond.code yX0_turned cX0_turned 10 (some .long), Cond.fieldLink RX0 88 "PairingDesk$Curve" "tried" "I", Cond.fieldLink RX0 25 "PairingDesk$Curve" "h" "J", Cond.methodLink RX0 85 yX0_firstTried, Cond.instanceMethod yX0_firstTried, Cond.selects RX0 yX0_firstTried yX0_firstTried, Cond.code yX0_firstTried cX0_firstTried 3 (some .long), Cond.methodLink RX0 39 yX0_squareOfY, Cond.instanceMethod yX0_squareOfY, Cond.selects RX0 yX0_squareOfY yX0_squareOfY, Cond.code yX0_squareOfY cX0_squareOfY 3 (some .long), Cond.methodLink RX0 92 yX2_evenRoot, Cond.instanceMethod yX2_evenRoot, Cond.selects RX2 yX2_evenRoot yX2_evenRoot, Cond.code yX2_evenRoot cX2_evenRoot 9 (some .long), Cond.constantLong RX2 15 (4), Cond.constantLong RX2 17 (2), Cond.constantLong RX2 23 (-1), Cond.methodLink RX2 19 yX2_product, Cond.methodLink RX0 82 yX0_multiple, Cond.methodLink RX1 105 yX1_of, Cond.instanceMethod yX1_of]
def wsX3_holds_r5 : List Cond := [Cond.selects RX1 yX1_of yX1_of, Cond.code yX1_of cX1_of 10 (some .long), Cond.fieldLink RX1 21 "PairingDesk$Pairing" "p" "J", Cond.methodLink RX1 60 yX1_bitsBehindHighest, Cond.instanceMethod yX1_bitsBehindHighest, Cond.selects RX1 yX1_bitsBehindHighest yX1_bitsBehindHighest, Cond.code yX1_bitsBehindHighest cX1_bitsBehindHighest 1 (some .int), Cond.methodLink RX1 54 yJ13_numberOfLeadingZeros_95d88, Cond.static yJ13_numberOfLeadingZeros_95d88, Cond.initialized RJ13, Cond.code yJ13_numberOfLeadingZeros_95d88 cJ13_numberOfLeadingZeros_95d88 3 (some .int), Cond.methodLink RJ13 308 yJ6_numberOfLeadingZeros_0f7a4, Cond.static yJ6_numberOfLeadingZeros_0f7a4, Cond.initialized RJ6, Cond.code yJ6_numberOfLeadingZeros_0f7a4 cJ6_numberOfLeadingZeros_0f7a4 2 (some .int), Cond.constant RJ6 264 (65536), Cond.methodLink RX1 51 yX1_product, Cond.instanceMethod yX1_product, Cond.selects RX1 yX1_product yX1_product, Cond.code yX1_product cX1_product 9 (some .long), Cond.methodLink RX1 39 yJ9_floorMod_f86c9, Cond.methodLink RX1 67 yX1_line, Cond.instanceMethod yX1_line, Cond.selects RX1 yX1_line yX1_line]
def wsX3_holds_r6 : List Cond := [Cond.code yX1_line cX1_line 11 (some .long), Cond.fieldLink RX1 77 "PairingDesk$Curve" "field" "LPairingDesk$PrimeField;", Cond.methodLink RX1 81 yX2_difference, Cond.methodLink RX1 86 yX0_areOpposite, Cond.methodLink RX1 90 yX0_slope, Cond.methodLink RX1 93 yX2_product, Cond.methodLink RX1 71 yX0_sum, Cond.methodLink RX1 74 yX1_raised, Cond.instanceMethod yX1_raised, Cond.selects RX1 yX1_raised yX1_raised, Cond.code yX1_raised cX1_raised 11 (some .long), Cond.constantLong RX1 49 (2)]
def wsX3_holds : List Cond := .code yX3_holds cX3_holds 5 (some .int) :: ((wsX3_holds_r1 ++ (wsX3_holds_r2 ++ (wsX3_holds_r3 ++ (wsX3_holds_r4 ++ (wsX3_holds_r5 ++ wsX3_holds_r6))))) ++ wsX30 ++ wsX10 ++ wsX00 ++ wsX20)
def wsX3_holdsAll_r1 : List Cond := [Cond.fieldLink RX3 42 "PairingDesk" "pairing" "LPairingDesk$Pairing;", Cond.fieldLink RX3 9 "PairingDesk" "slots" "[J", Cond.methodLink RX3 68 yX3_isSlot, Cond.static yX3_isSlot, Cond.initialized RX3, Cond.code yX3_isSlot cX3_isSlot 1 (some .boolean), Cond.methodLink RX3 142 yX1_agree, Cond.instanceMethod yX1_agree, Cond.selects RX1 yX1_agree yX1_agree, Cond.initialized RX1, Cond.code yX1_agree cX1_agree 11 (some .boolean), Cond.constantLong RX1 47 (2147483648), Cond.fieldLink RX1 9 "PairingDesk$Pairing" "curve" "LPairingDesk$Curve;", Cond.fieldLink RX1 108 "PairingDesk$Curve" "base" "J", Cond.methodLink RX1 94 yX1_takes, Cond.instanceMethod yX1_takes, Cond.selects RX1 yX1_takes yX1_takes, Cond.code yX1_takes cX1_takes 3 (some .boolean), Cond.fieldLink RX1 25 "PairingDesk$Pairing" "\x72" "J", Cond.constantLong RX1 30 (-1), Cond.methodLink RX1 26 yX0_multiple, Cond.instanceMethod yX0_multiple, Cond.selects RX0 yX0_multiple yX0_multiple, Cond.initialized RX0]
def wsX3_holdsAll_r2 : List Cond := [Cond.code yX0_multiple cX0_multiple 11 (some .long), Cond.constantLong RX0 58 (-1), Cond.fieldLink RX0 21 "PairingDesk$Curve" "p" "J", Cond.constantLong RX0 50 (2), Cond.methodLink RX0 70 yJ9_floorMod_f86c9, Cond.static yJ9_floorMod_f86c9, Cond.initialized RJ9, Cond.code yJ9_floorMod_f86c9 cJ9_floorMod_f86c9 6 (some .long), Cond.methodLink RX0 75 yX0_sum, Cond.instanceMethod yX0_sum, Cond.selects RX0 yX0_sum yX0_sum, Cond.code yX0_sum cX0_sum 11 (some .long), Cond.fieldLink RX0 9 "PairingDesk$Curve" "field" "LPairingDesk$PrimeField;", Cond.methodLink RX0 60 yX0_areOpposite, Cond.instanceMethod yX0_areOpposite, Cond.selects RX0 yX0_areOpposite yX0_areOpposite, Cond.code yX0_areOpposite cX0_areOpposite 5 (some .boolean), Cond.static yX3_upper, Cond.code yX3_upper cX3_upper 2 (some .long), Cond.static yX3_lower, Cond.code yX3_lower cX3_lower 2 (some .long), Cond.constantLong RX3 163 (2147483647), Cond.methodLink RX0 64 yX0_slope, Cond.instanceMethod yX0_slope]
def wsX3_holdsAll_r3 : List Cond := [Cond.selects RX0 yX0_slope yX0_slope, Cond.code yX0_slope cX0_slope 11 (some .long), Cond.constantLong RX0 48 (3), Cond.methodLink RX0 35 yX2_product, Cond.instanceMethod yX2_product, Cond.selects RX2 yX2_product yX2_product, Cond.initialized RX2, Cond.code yX2_product cX2_product 5 (some .long), Cond.fieldLink RX2 9 "PairingDesk$PrimeField" "p" "J", Cond.methodLink RX0 52 yX2_inverse, Cond.instanceMethod yX2_inverse, Cond.selects RX2 yX2_inverse yX2_inverse, Cond.code yX2_inverse cX2_inverse 18 (some .long), Cond.methodLink RX0 55 yX2_difference, Cond.instanceMethod yX2_difference, Cond.selects RX2 yX2_difference yX2_difference, Cond.code yX2_difference cX2_difference 5 (some .long), Cond.static yX3_joined, Cond.code yX3_joined cX3_joined 4 (some .long), Cond.methodLink RX1 98 yX1_takeAll, Cond.instanceMethod yX1_takeAll, Cond.selects RX1 yX1_takeAll yX1_takeAll, Cond.code yX1_takeAll cX1_takeAll 5 (some .boolean), Cond.methodLink RX1 102 yX0_turned]
def wsX3_holdsAll_r4 : List Cond := [Cond.instanceMethod yX0_turned, Cond.selects RX0 yX0_turned yX0_turned, Cond.code yX0_turned cX0_turned 10 (some .long), Cond.fieldLink RX0 88 "PairingDesk$Curve" "tried" "I", Cond.fieldLink RX0 25 "PairingDesk$Curve" "h" "J", Cond.methodLink RX0 85 yX0_firstTried, Cond.instanceMethod yX0_firstTried, Cond.selects RX0 yX0_firstTried yX0_firstTried, Cond.code yX0_firstTried cX0_firstTried 3 (some .long), Cond.methodLink RX0 39 yX0_squareOfY, Cond.instanceMethod yX0_squareOfY, Cond.selects RX0 yX0_squareOfY yX0_squareOfY, Cond.code yX0_squareOfY cX0_squareOfY 3 (some .long), Cond.methodLink RX0 92 yX2_evenRoot, Cond.instanceMethod yX2_evenRoot, Cond.selects RX2 yX2_evenRoot yX2_evenRoot, Cond.code yX2_evenRoot cX2_evenRoot 9 (some .long), Cond.constantLong RX2 15 (4), Cond.constantLong RX2 17 (2), Cond.constantLong RX2 23 (-1), Cond.methodLink RX2 19 yX2_product, Cond.methodLink RX0 82 yX0_multiple, Cond.methodLink RX1 105 yX1_of, Cond.instanceMethod yX1_of]
def wsX3_holdsAll_r5 : List Cond := [Cond.selects RX1 yX1_of yX1_of, Cond.code yX1_of cX1_of 10 (some .long), Cond.fieldLink RX1 21 "PairingDesk$Pairing" "p" "J", Cond.methodLink RX1 60 yX1_bitsBehindHighest, Cond.instanceMethod yX1_bitsBehindHighest, Cond.selects RX1 yX1_bitsBehindHighest yX1_bitsBehindHighest, Cond.code yX1_bitsBehindHighest cX1_bitsBehindHighest 1 (some .int), Cond.methodLink RX1 54 yJ13_numberOfLeadingZeros_95d88, Cond.static yJ13_numberOfLeadingZeros_95d88, Cond.initialized RJ13, Cond.code yJ13_numberOfLeadingZeros_95d88 cJ13_numberOfLeadingZeros_95d88 3 (some .int), Cond.methodLink RJ13 308 yJ6_numberOfLeadingZeros_0f7a4, Cond.static yJ6_numberOfLeadingZeros_0f7a4, Cond.initialized RJ6, Cond.code yJ6_numberOfLeadingZeros_0f7a4 cJ6_numberOfLeadingZeros_0f7a4 2 (some .int), Cond.constant RJ6 264 (65536), Cond.methodLink RX1 51 yX1_product, Cond.instanceMethod yX1_product, Cond.selects RX1 yX1_product yX1_product, Cond.code yX1_product cX1_product 9 (some .long), Cond.methodLink RX1 39 yJ9_floorMod_f86c9, Cond.methodLink RX1 67 yX1_line, Cond.instanceMethod yX1_line, Cond.selects RX1 yX1_line yX1_line]
def wsX3_holdsAll_r6 : List Cond := [Cond.code yX1_line cX1_line 11 (some .long), Cond.fieldLink RX1 77 "PairingDesk$Curve" "field" "LPairingDesk$PrimeField;", Cond.methodLink RX1 81 yX2_difference, Cond.methodLink RX1 86 yX0_areOpposite, Cond.methodLink RX1 90 yX0_slope, Cond.methodLink RX1 93 yX2_product, Cond.methodLink RX1 71 yX0_sum, Cond.methodLink RX1 74 yX1_raised, Cond.instanceMethod yX1_raised, Cond.selects RX1 yX1_raised yX1_raised, Cond.code yX1_raised cX1_raised 11 (some .long), Cond.constantLong RX1 49 (2)]
def wsX3_holdsAll : List Cond := .code yX3_holdsAll cX3_holdsAll 6 (some .int) :: ((wsX3_holdsAll_r1 ++ (wsX3_holdsAll_r2 ++ (wsX3_holdsAll_r3 ++ (wsX3_holdsAll_r4 ++ (wsX3_holdsAll_r5 ++ wsX3_holdsAll_r6))))) ++ wsX30 ++ wsX10 ++ wsX00 ++ wsX20)
def wsX3_digest : List Cond := .code yX3_digest cX3_digest 4 (some .long) :: ([.fieldLink RX3 33 "PairingDesk" "curve" "LPairingDesk$Curve;", .constantLong RX3 104 (-3), .constantLong RX3 146 (17), .constantLong RX3 148 (31), .fieldLink RX3 9 "PairingDesk" "slots" "[J", .fieldLink RX3 13 "PairingDesk" "values" "[J", .methodLink RX3 108 yX3_written, .static yX3_written, .initialized RX3, .code yX3_written cX3_written 2 (some .long), .constantLong RX3 79 (-1), .constantLong RX3 159 (2), .methodLink RX3 150 yX3_upper, .static yX3_upper, .code yX3_upper cX3_upper 2 (some .long), .methodLink RX3 153 yX3_lower, .static yX3_lower, .code yX3_lower cX3_lower 2 (some .long), .constantLong RX3 163 (2147483647)] ++ wsX30)
def wsX4_init : List Cond := .code yX4_init cX4_init 1 none :: ([.methodLink RX4 1 objectInit, .instanceMethod objectInit, .code objectInit ⟨#[0xb1]⟩ 1 none, .arrayClass .long, .fieldLink RX4 7 "PairingDeskModel" "px" "[J", .fieldLink RX4 13 "PairingDeskModel" "py" "[J", .arrayClass .boolean, .fieldLink RX4 16 "PairingDeskModel" "isPoint" "[Z", .fieldLink RX4 20 "PairingDeskModel" "vu" "[J", .fieldLink RX4 23 "PairingDeskModel" "vv" "[J"] ++ wsX40)
def wsX4_in : List Cond := .code yX4_in cX4_in 6 (some .boolean) :: ([])
def wsX4_isPrime : List Cond := .code yX4_isPrime cX4_isPrime 4 (some .boolean) :: ([.constantLong RX4 26 (2)])
def wsX4_fit : List Cond := .code yX4_fit cX4_fit 5 (some .long) :: ([.fieldLink RX4 28 "PairingDeskModel" "p" "J"] ++ wsX40)
def wsX4_raised : List Cond := .code yX4_raised cX4_raised 11 (some .long) :: ([.fieldLink RX4 28 "PairingDeskModel" "p" "J", .methodLink RX4 32 yX4_fit, .instanceMethod yX4_fit, .selects RX4 yX4_fit yX4_fit, .initialized RX4, .code yX4_fit cX4_fit 5 (some .long)] ++ wsX40)
def wsX4_turned : List Cond := .code yX4_turned cX4_turned 3 (some .long) :: ([.fieldLink RX4 28 "PairingDeskModel" "p" "J", .constantLong RX4 26 (2), .methodLink RX4 36 yX4_raised, .instanceMethod yX4_raised, .selects RX4 yX4_raised yX4_raised, .initialized RX4, .code yX4_raised cX4_raised 11 (some .long), .methodLink RX4 32 yX4_fit, .instanceMethod yX4_fit, .selects RX4 yX4_fit yX4_fit, .code yX4_fit cX4_fit 5 (some .long)] ++ wsX40)
def wsX4_rootOf : List Cond := .code yX4_rootOf cX4_rootOf 5 (some .long) :: ([.fieldLink RX4 28 "PairingDeskModel" "p" "J", .constantLong RX4 40 (4), .constantLong RX4 42 (-1), .methodLink RX4 36 yX4_raised, .instanceMethod yX4_raised, .selects RX4 yX4_raised yX4_raised, .initialized RX4, .code yX4_raised cX4_raised 11 (some .long), .methodLink RX4 32 yX4_fit, .instanceMethod yX4_fit, .selects RX4 yX4_fit yX4_fit, .code yX4_fit cX4_fit 5 (some .long)] ++ wsX40)
def wsX4_curve : List Cond := .code yX4_curve cX4_curve 3 (some .long) :: ([.fieldLink RX4 28 "PairingDeskModel" "p" "J"] ++ wsX40)
def wsX4_field : List Cond := .code yX4_field cX4_field 6 (some .int) :: ([.fieldLink RX4 28 "PairingDeskModel" "p" "J", .fieldLink RX4 48 "PairingDeskModel" "\x72" "J", .fieldLink RX4 51 "PairingDeskModel" "h" "J", .fieldLink RX4 16 "PairingDeskModel" "isPoint" "[Z", .fieldLink RX4 20 "PairingDeskModel" "vu" "[J", .fieldLink RX4 23 "PairingDeskModel" "vv" "[J", .methodLink RX4 44 yX4_isPrime, .static yX4_isPrime, .initialized RX4, .code yX4_isPrime cX4_isPrime 4 (some .boolean), .constantLong RX4 26 (2)] ++ wsX40)
def wsX4_told : List Cond := .code yX4_told cX4_told 2 (some .int) :: ([.constantLong RX4 26 (2), .fieldLink RX4 28 "PairingDeskModel" "p" "J", .fieldLink RX4 48 "PairingDeskModel" "\x72" "J", .fieldLink RX4 51 "PairingDeskModel" "h" "J", .methodLink RX4 54 yX4_in, .static yX4_in, .initialized RX4, .code yX4_in cX4_in 6 (some .boolean)] ++ wsX40)
def wsX4_root : List Cond := .code yX4_root cX4_root 2 (some .int) :: ([.fieldLink RX4 28 "PairingDeskModel" "p" "J", .methodLink RX4 54 yX4_in, .static yX4_in, .initialized RX4, .code yX4_in cX4_in 6 (some .boolean), .methodLink RX4 58 yX4_rootOf, .instanceMethod yX4_rootOf, .selects RX4 yX4_rootOf yX4_rootOf, .code yX4_rootOf cX4_rootOf 5 (some .long), .constantLong RX4 40 (4), .constantLong RX4 42 (-1), .methodLink RX4 36 yX4_raised, .instanceMethod yX4_raised, .selects RX4 yX4_raised yX4_raised, .code yX4_raised cX4_raised 11 (some .long), .methodLink RX4 32 yX4_fit, .instanceMethod yX4_fit, .selects RX4 yX4_fit yX4_fit, .code yX4_fit cX4_fit 5 (some .long)] ++ wsX40)
def wsX4_load : List Cond := .code yX4_load cX4_load 2 none :: ([.fieldLink RX4 7 "PairingDeskModel" "px" "[J", .fieldLink RX4 61 "PairingDeskModel" "x" "J", .fieldLink RX4 13 "PairingDeskModel" "py" "[J", .fieldLink RX4 64 "PairingDeskModel" "y" "J", .fieldLink RX4 16 "PairingDeskModel" "isPoint" "[Z", .fieldLink RX4 67 "PairingDeskModel" "is" "Z"] ++ wsX40)
def wsX4_store : List Cond := .code yX4_store cX4_store 2 none :: ([.fieldLink RX4 7 "PairingDeskModel" "px" "[J", .fieldLink RX4 61 "PairingDeskModel" "x" "J", .fieldLink RX4 13 "PairingDeskModel" "py" "[J", .fieldLink RX4 64 "PairingDeskModel" "y" "J", .fieldLink RX4 16 "PairingDeskModel" "isPoint" "[Z", .fieldLink RX4 67 "PairingDeskModel" "is" "Z"] ++ wsX40)
def wsX4_slope : List Cond := .code yX4_slope cX4_slope 9 (some .long) :: ([.constantLong RX4 71 (3), .fieldLink RX4 28 "PairingDeskModel" "p" "J", .constantLong RX4 26 (2), .methodLink RX4 73 yX4_turned, .instanceMethod yX4_turned, .selects RX4 yX4_turned yX4_turned, .initialized RX4, .code yX4_turned cX4_turned 3 (some .long), .methodLink RX4 36 yX4_raised, .instanceMethod yX4_raised, .selects RX4 yX4_raised yX4_raised, .code yX4_raised cX4_raised 11 (some .long), .methodLink RX4 32 yX4_fit, .instanceMethod yX4_fit, .selects RX4 yX4_fit yX4_fit, .code yX4_fit cX4_fit 5 (some .long)] ++ wsX40)
def wsX4_plus : List Cond := .code yX4_plus cX4_plus 10 none :: ([.fieldLink RX4 67 "PairingDeskModel" "is" "Z", .fieldLink RX4 61 "PairingDeskModel" "x" "J", .fieldLink RX4 64 "PairingDeskModel" "y" "J", .fieldLink RX4 28 "PairingDeskModel" "p" "J", .methodLink RX4 76 yX4_slope, .instanceMethod yX4_slope, .selects RX4 yX4_slope yX4_slope, .initialized RX4, .code yX4_slope cX4_slope 9 (some .long), .constantLong RX4 71 (3), .constantLong RX4 26 (2), .methodLink RX4 73 yX4_turned, .instanceMethod yX4_turned, .selects RX4 yX4_turned yX4_turned, .code yX4_turned cX4_turned 3 (some .long), .methodLink RX4 36 yX4_raised, .instanceMethod yX4_raised, .selects RX4 yX4_raised yX4_raised, .code yX4_raised cX4_raised 11 (some .long), .methodLink RX4 32 yX4_fit, .instanceMethod yX4_fit, .selects RX4 yX4_fit yX4_fit, .code yX4_fit cX4_fit 5 (some .long)] ++ wsX40)
def wsX4_take_r1 : List Cond := [Cond.fieldLink RX4 61 "PairingDeskModel" "x" "J", Cond.fieldLink RX4 64 "PairingDeskModel" "y" "J", Cond.fieldLink RX4 67 "PairingDeskModel" "is" "Z", Cond.methodLink RX4 80 yX4_plus, Cond.instanceMethod yX4_plus, Cond.selects RX4 yX4_plus yX4_plus, Cond.initialized RX4, Cond.code yX4_plus cX4_plus 10 none, Cond.fieldLink RX4 28 "PairingDeskModel" "p" "J", Cond.methodLink RX4 76 yX4_slope, Cond.instanceMethod yX4_slope, Cond.selects RX4 yX4_slope yX4_slope, Cond.code yX4_slope cX4_slope 9 (some .long), Cond.constantLong RX4 71 (3), Cond.constantLong RX4 26 (2), Cond.methodLink RX4 73 yX4_turned, Cond.instanceMethod yX4_turned, Cond.selects RX4 yX4_turned yX4_turned, Cond.code yX4_turned cX4_turned 3 (some .long), Cond.methodLink RX4 36 yX4_raised, Cond.instanceMethod yX4_raised, Cond.selects RX4 yX4_raised yX4_raised, Cond.code yX4_raised cX4_raised 11 (some .long), Cond.methodLink RX4 32 yX4_fit]
def wsX4_take_r2 : List Cond := [Cond.instanceMethod yX4_fit, Cond.selects RX4 yX4_fit yX4_fit, Cond.code yX4_fit cX4_fit 5 (some .long)]
def wsX4_take : List Cond := .code yX4_take cX4_take 9 none :: ((wsX4_take_r1 ++ wsX4_take_r2) ++ wsX40)
def wsX4_isSlot : List Cond := .code yX4_isSlot cX4_isSlot 1 (some .boolean) :: ([.constantLong RX4 84 (15), .methodLink RX4 54 yX4_in, .static yX4_in, .initialized RX4, .code yX4_in cX4_in 6 (some .boolean)])
def wsX4_point : List Cond := .code yX4_point cX4_point 4 (some .int) :: ([.fieldLink RX4 28 "PairingDeskModel" "p" "J", .fieldLink RX4 61 "PairingDeskModel" "x" "J", .fieldLink RX4 64 "PairingDeskModel" "y" "J", .fieldLink RX4 67 "PairingDeskModel" "is" "Z", .methodLink RX4 86 yX4_isSlot, .static yX4_isSlot, .initialized RX4, .code yX4_isSlot cX4_isSlot 1 (some .boolean), .constantLong RX4 84 (15), .methodLink RX4 54 yX4_in, .static yX4_in, .code yX4_in cX4_in 6 (some .boolean), .methodLink RX4 90 yX4_curve, .instanceMethod yX4_curve, .selects RX4 yX4_curve yX4_curve, .code yX4_curve cX4_curve 3 (some .long), .methodLink RX4 93 yX4_store, .instanceMethod yX4_store, .selects RX4 yX4_store yX4_store, .code yX4_store cX4_store 2 none, .fieldLink RX4 7 "PairingDeskModel" "px" "[J", .fieldLink RX4 13 "PairingDeskModel" "py" "[J", .fieldLink RX4 16 "PairingDeskModel" "isPoint" "[Z"] ++ wsX40)
def wsX4_nowhere : List Cond := .code yX4_nowhere cX4_nowhere 2 (some .int) :: ([.fieldLink RX4 28 "PairingDeskModel" "p" "J", .fieldLink RX4 16 "PairingDeskModel" "isPoint" "[Z", .methodLink RX4 86 yX4_isSlot, .static yX4_isSlot, .initialized RX4, .code yX4_isSlot cX4_isSlot 1 (some .boolean), .constantLong RX4 84 (15), .methodLink RX4 54 yX4_in, .static yX4_in, .code yX4_in cX4_in 6 (some .boolean)] ++ wsX40)
def wsX4_turnOf_r1 : List Cond := [Cond.fieldLink RX4 28 "PairingDeskModel" "p" "J", Cond.constantLong RX4 26 (2), Cond.constantLong RX4 42 (-1), Cond.fieldLink RX4 61 "PairingDeskModel" "x" "J", Cond.fieldLink RX4 64 "PairingDeskModel" "y" "J", Cond.fieldLink RX4 67 "PairingDeskModel" "is" "Z", Cond.fieldLink RX4 51 "PairingDeskModel" "h" "J", Cond.methodLink RX4 90 yX4_curve, Cond.instanceMethod yX4_curve, Cond.selects RX4 yX4_curve yX4_curve, Cond.initialized RX4, Cond.code yX4_curve cX4_curve 3 (some .long), Cond.methodLink RX4 58 yX4_rootOf, Cond.instanceMethod yX4_rootOf, Cond.selects RX4 yX4_rootOf yX4_rootOf, Cond.code yX4_rootOf cX4_rootOf 5 (some .long), Cond.constantLong RX4 40 (4), Cond.methodLink RX4 36 yX4_raised, Cond.instanceMethod yX4_raised, Cond.selects RX4 yX4_raised yX4_raised, Cond.code yX4_raised cX4_raised 11 (some .long), Cond.methodLink RX4 32 yX4_fit, Cond.instanceMethod yX4_fit, Cond.selects RX4 yX4_fit yX4_fit]
def wsX4_turnOf_r2 : List Cond := [Cond.code yX4_fit cX4_fit 5 (some .long), Cond.methodLink RX4 97 yX4_take, Cond.instanceMethod yX4_take, Cond.selects RX4 yX4_take yX4_take, Cond.code yX4_take cX4_take 9 none, Cond.methodLink RX4 80 yX4_plus, Cond.instanceMethod yX4_plus, Cond.selects RX4 yX4_plus yX4_plus, Cond.code yX4_plus cX4_plus 10 none, Cond.methodLink RX4 76 yX4_slope, Cond.instanceMethod yX4_slope, Cond.selects RX4 yX4_slope yX4_slope, Cond.code yX4_slope cX4_slope 9 (some .long), Cond.constantLong RX4 71 (3), Cond.methodLink RX4 73 yX4_turned, Cond.instanceMethod yX4_turned, Cond.selects RX4 yX4_turned yX4_turned, Cond.code yX4_turned cX4_turned 3 (some .long)]
def wsX4_turnOf : List Cond := .code yX4_turnOf cX4_turnOf 10 (some .int) :: ((wsX4_turnOf_r1 ++ wsX4_turnOf_r2) ++ wsX40)
def wsX4_turn_r1 : List Cond := [Cond.fieldLink RX4 28 "PairingDeskModel" "p" "J", Cond.methodLink RX4 86 yX4_isSlot, Cond.static yX4_isSlot, Cond.initialized RX4, Cond.code yX4_isSlot cX4_isSlot 1 (some .boolean), Cond.constantLong RX4 84 (15), Cond.methodLink RX4 54 yX4_in, Cond.static yX4_in, Cond.code yX4_in cX4_in 6 (some .boolean), Cond.methodLink RX4 101 yX4_turnOf, Cond.instanceMethod yX4_turnOf, Cond.selects RX4 yX4_turnOf yX4_turnOf, Cond.code yX4_turnOf cX4_turnOf 10 (some .int), Cond.constantLong RX4 26 (2), Cond.constantLong RX4 42 (-1), Cond.fieldLink RX4 61 "PairingDeskModel" "x" "J", Cond.fieldLink RX4 64 "PairingDeskModel" "y" "J", Cond.fieldLink RX4 67 "PairingDeskModel" "is" "Z", Cond.fieldLink RX4 51 "PairingDeskModel" "h" "J", Cond.methodLink RX4 90 yX4_curve, Cond.instanceMethod yX4_curve, Cond.selects RX4 yX4_curve yX4_curve, Cond.code yX4_curve cX4_curve 3 (some .long), Cond.methodLink RX4 58 yX4_rootOf]
def wsX4_turn_r2 : List Cond := [Cond.instanceMethod yX4_rootOf, Cond.selects RX4 yX4_rootOf yX4_rootOf, Cond.code yX4_rootOf cX4_rootOf 5 (some .long), Cond.constantLong RX4 40 (4), Cond.methodLink RX4 36 yX4_raised, Cond.instanceMethod yX4_raised, Cond.selects RX4 yX4_raised yX4_raised, Cond.code yX4_raised cX4_raised 11 (some .long), Cond.methodLink RX4 32 yX4_fit, Cond.instanceMethod yX4_fit, Cond.selects RX4 yX4_fit yX4_fit, Cond.code yX4_fit cX4_fit 5 (some .long), Cond.methodLink RX4 97 yX4_take, Cond.instanceMethod yX4_take, Cond.selects RX4 yX4_take yX4_take, Cond.code yX4_take cX4_take 9 none, Cond.methodLink RX4 80 yX4_plus, Cond.instanceMethod yX4_plus, Cond.selects RX4 yX4_plus yX4_plus, Cond.code yX4_plus cX4_plus 10 none, Cond.methodLink RX4 76 yX4_slope, Cond.instanceMethod yX4_slope, Cond.selects RX4 yX4_slope yX4_slope, Cond.code yX4_slope cX4_slope 9 (some .long)]
def wsX4_turn_r3 : List Cond := [Cond.constantLong RX4 71 (3), Cond.methodLink RX4 73 yX4_turned, Cond.instanceMethod yX4_turned, Cond.selects RX4 yX4_turned yX4_turned, Cond.code yX4_turned cX4_turned 3 (some .long), Cond.methodLink RX4 93 yX4_store, Cond.instanceMethod yX4_store, Cond.selects RX4 yX4_store yX4_store, Cond.code yX4_store cX4_store 2 none, Cond.fieldLink RX4 7 "PairingDeskModel" "px" "[J", Cond.fieldLink RX4 13 "PairingDeskModel" "py" "[J", Cond.fieldLink RX4 16 "PairingDeskModel" "isPoint" "[Z"]
def wsX4_turn : List Cond := .code yX4_turn cX4_turn 5 (some .int) :: ((wsX4_turn_r1 ++ (wsX4_turn_r2 ++ wsX4_turn_r3)) ++ wsX40)
def wsX4_add_r1 : List Cond := [Cond.fieldLink RX4 28 "PairingDeskModel" "p" "J", Cond.fieldLink RX4 7 "PairingDeskModel" "px" "[J", Cond.fieldLink RX4 13 "PairingDeskModel" "py" "[J", Cond.fieldLink RX4 16 "PairingDeskModel" "isPoint" "[Z", Cond.fieldLink RX4 67 "PairingDeskModel" "is" "Z", Cond.methodLink RX4 86 yX4_isSlot, Cond.static yX4_isSlot, Cond.initialized RX4, Cond.code yX4_isSlot cX4_isSlot 1 (some .boolean), Cond.constantLong RX4 84 (15), Cond.methodLink RX4 54 yX4_in, Cond.static yX4_in, Cond.code yX4_in cX4_in 6 (some .boolean), Cond.methodLink RX4 105 yX4_load, Cond.instanceMethod yX4_load, Cond.selects RX4 yX4_load yX4_load, Cond.code yX4_load cX4_load 2 none, Cond.fieldLink RX4 61 "PairingDeskModel" "x" "J", Cond.fieldLink RX4 64 "PairingDeskModel" "y" "J", Cond.methodLink RX4 80 yX4_plus, Cond.instanceMethod yX4_plus, Cond.selects RX4 yX4_plus yX4_plus, Cond.code yX4_plus cX4_plus 10 none, Cond.methodLink RX4 76 yX4_slope]
def wsX4_add_r2 : List Cond := [Cond.instanceMethod yX4_slope, Cond.selects RX4 yX4_slope yX4_slope, Cond.code yX4_slope cX4_slope 9 (some .long), Cond.constantLong RX4 71 (3), Cond.constantLong RX4 26 (2), Cond.methodLink RX4 73 yX4_turned, Cond.instanceMethod yX4_turned, Cond.selects RX4 yX4_turned yX4_turned, Cond.code yX4_turned cX4_turned 3 (some .long), Cond.methodLink RX4 36 yX4_raised, Cond.instanceMethod yX4_raised, Cond.selects RX4 yX4_raised yX4_raised, Cond.code yX4_raised cX4_raised 11 (some .long), Cond.methodLink RX4 32 yX4_fit, Cond.instanceMethod yX4_fit, Cond.selects RX4 yX4_fit yX4_fit, Cond.code yX4_fit cX4_fit 5 (some .long), Cond.methodLink RX4 93 yX4_store, Cond.instanceMethod yX4_store, Cond.selects RX4 yX4_store yX4_store, Cond.code yX4_store cX4_store 2 none]
def wsX4_add : List Cond := .code yX4_add cX4_add 4 (some .int) :: ((wsX4_add_r1 ++ wsX4_add_r2) ++ wsX40)
def wsX4_times_r1 : List Cond := [Cond.fieldLink RX4 28 "PairingDeskModel" "p" "J", Cond.fieldLink RX4 64 "PairingDeskModel" "y" "J", Cond.fieldLink RX4 67 "PairingDeskModel" "is" "Z", Cond.methodLink RX4 86 yX4_isSlot, Cond.static yX4_isSlot, Cond.initialized RX4, Cond.code yX4_isSlot cX4_isSlot 1 (some .boolean), Cond.constantLong RX4 84 (15), Cond.methodLink RX4 54 yX4_in, Cond.static yX4_in, Cond.code yX4_in cX4_in 6 (some .boolean), Cond.methodLink RX4 105 yX4_load, Cond.instanceMethod yX4_load, Cond.selects RX4 yX4_load yX4_load, Cond.code yX4_load cX4_load 2 none, Cond.fieldLink RX4 7 "PairingDeskModel" "px" "[J", Cond.fieldLink RX4 61 "PairingDeskModel" "x" "J", Cond.fieldLink RX4 13 "PairingDeskModel" "py" "[J", Cond.fieldLink RX4 16 "PairingDeskModel" "isPoint" "[Z", Cond.methodLink RX4 97 yX4_take, Cond.instanceMethod yX4_take, Cond.selects RX4 yX4_take yX4_take, Cond.code yX4_take cX4_take 9 none, Cond.methodLink RX4 80 yX4_plus]
def wsX4_times_r2 : List Cond := [Cond.instanceMethod yX4_plus, Cond.selects RX4 yX4_plus yX4_plus, Cond.code yX4_plus cX4_plus 10 none, Cond.methodLink RX4 76 yX4_slope, Cond.instanceMethod yX4_slope, Cond.selects RX4 yX4_slope yX4_slope, Cond.code yX4_slope cX4_slope 9 (some .long), Cond.constantLong RX4 71 (3), Cond.constantLong RX4 26 (2), Cond.methodLink RX4 73 yX4_turned, Cond.instanceMethod yX4_turned, Cond.selects RX4 yX4_turned yX4_turned, Cond.code yX4_turned cX4_turned 3 (some .long), Cond.methodLink RX4 36 yX4_raised, Cond.instanceMethod yX4_raised, Cond.selects RX4 yX4_raised yX4_raised, Cond.code yX4_raised cX4_raised 11 (some .long), Cond.methodLink RX4 32 yX4_fit, Cond.instanceMethod yX4_fit, Cond.selects RX4 yX4_fit yX4_fit, Cond.code yX4_fit cX4_fit 5 (some .long), Cond.methodLink RX4 93 yX4_store, Cond.instanceMethod yX4_store, Cond.selects RX4 yX4_store yX4_store]
def wsX4_times_r3 : List Cond := [Cond.code yX4_store cX4_store 2 none]
def wsX4_times : List Cond := .code yX4_times cX4_times 5 (some .int) :: ((wsX4_times_r1 ++ (wsX4_times_r2 ++ wsX4_times_r3)) ++ wsX40)
def wsX4_at : List Cond := .code yX4_at cX4_at 3 (some .int) :: ([.fieldLink RX4 28 "PairingDeskModel" "p" "J", .fieldLink RX4 16 "PairingDeskModel" "isPoint" "[Z", .fieldLink RX4 7 "PairingDeskModel" "px" "[J", .fieldLink RX4 13 "PairingDeskModel" "py" "[J", .methodLink RX4 86 yX4_isSlot, .static yX4_isSlot, .initialized RX4, .code yX4_isSlot cX4_isSlot 1 (some .boolean), .constantLong RX4 84 (15), .methodLink RX4 54 yX4_in, .static yX4_in, .code yX4_in cX4_in 6 (some .boolean)] ++ wsX40)
def wsX4_order_r1 : List Cond := [Cond.fieldLink RX4 28 "PairingDeskModel" "p" "J", Cond.constantLong RX4 26 (2), Cond.fieldLink RX4 67 "PairingDeskModel" "is" "Z", Cond.methodLink RX4 86 yX4_isSlot, Cond.static yX4_isSlot, Cond.initialized RX4, Cond.code yX4_isSlot cX4_isSlot 1 (some .boolean), Cond.constantLong RX4 84 (15), Cond.methodLink RX4 54 yX4_in, Cond.static yX4_in, Cond.code yX4_in cX4_in 6 (some .boolean), Cond.methodLink RX4 105 yX4_load, Cond.instanceMethod yX4_load, Cond.selects RX4 yX4_load yX4_load, Cond.code yX4_load cX4_load 2 none, Cond.fieldLink RX4 7 "PairingDeskModel" "px" "[J", Cond.fieldLink RX4 61 "PairingDeskModel" "x" "J", Cond.fieldLink RX4 13 "PairingDeskModel" "py" "[J", Cond.fieldLink RX4 64 "PairingDeskModel" "y" "J", Cond.fieldLink RX4 16 "PairingDeskModel" "isPoint" "[Z", Cond.methodLink RX4 97 yX4_take, Cond.instanceMethod yX4_take, Cond.selects RX4 yX4_take yX4_take, Cond.code yX4_take cX4_take 9 none]
def wsX4_order_r2 : List Cond := [Cond.methodLink RX4 80 yX4_plus, Cond.instanceMethod yX4_plus, Cond.selects RX4 yX4_plus yX4_plus, Cond.code yX4_plus cX4_plus 10 none, Cond.methodLink RX4 76 yX4_slope, Cond.instanceMethod yX4_slope, Cond.selects RX4 yX4_slope yX4_slope, Cond.code yX4_slope cX4_slope 9 (some .long), Cond.constantLong RX4 71 (3), Cond.methodLink RX4 73 yX4_turned, Cond.instanceMethod yX4_turned, Cond.selects RX4 yX4_turned yX4_turned, Cond.code yX4_turned cX4_turned 3 (some .long), Cond.methodLink RX4 36 yX4_raised, Cond.instanceMethod yX4_raised, Cond.selects RX4 yX4_raised yX4_raised, Cond.code yX4_raised cX4_raised 11 (some .long), Cond.methodLink RX4 32 yX4_fit, Cond.instanceMethod yX4_fit, Cond.selects RX4 yX4_fit yX4_fit, Cond.code yX4_fit cX4_fit 5 (some .long)]
def wsX4_order : List Cond := .code yX4_order cX4_order 10 (some .int) :: ((wsX4_order_r1 ++ wsX4_order_r2) ++ wsX40)
def wsX4_written : List Cond := .code yX4_written cX4_written 2 (some .long) :: ([.fieldLink RX4 16 "PairingDeskModel" "isPoint" "[Z", .constantLong RX4 26 (2), .fieldLink RX4 7 "PairingDeskModel" "px" "[J", .fieldLink RX4 13 "PairingDeskModel" "py" "[J", .constantLong RX4 42 (-1)] ++ wsX40)
def wsX4_write : List Cond := .code yX4_write cX4_write 2 (some .long) :: ([.fieldLink RX4 28 "PairingDeskModel" "p" "J", .constantLong RX4 108 (-3), .constantLong RX4 114 (-2), .methodLink RX4 86 yX4_isSlot, .static yX4_isSlot, .initialized RX4, .code yX4_isSlot cX4_isSlot 1 (some .boolean), .constantLong RX4 84 (15), .methodLink RX4 54 yX4_in, .static yX4_in, .code yX4_in cX4_in 6 (some .boolean), .methodLink RX4 110 yX4_written, .instanceMethod yX4_written, .selects RX4 yX4_written yX4_written, .code yX4_written cX4_written 2 (some .long), .fieldLink RX4 16 "PairingDeskModel" "isPoint" "[Z", .constantLong RX4 26 (2), .fieldLink RX4 7 "PairingDeskModel" "px" "[J", .fieldLink RX4 13 "PairingDeskModel" "py" "[J", .constantLong RX4 42 (-1)] ++ wsX40)
def wsX4_read_r1 : List Cond := [Cond.fieldLink RX4 28 "PairingDeskModel" "p" "J", Cond.constantLong RX4 42 (-1), Cond.fieldLink RX4 16 "PairingDeskModel" "isPoint" "[Z", Cond.constantLong RX4 26 (2), Cond.fieldLink RX4 7 "PairingDeskModel" "px" "[J", Cond.fieldLink RX4 13 "PairingDeskModel" "py" "[J", Cond.methodLink RX4 86 yX4_isSlot, Cond.static yX4_isSlot, Cond.initialized RX4, Cond.code yX4_isSlot cX4_isSlot 1 (some .boolean), Cond.constantLong RX4 84 (15), Cond.methodLink RX4 54 yX4_in, Cond.static yX4_in, Cond.code yX4_in cX4_in 6 (some .boolean), Cond.methodLink RX4 90 yX4_curve, Cond.instanceMethod yX4_curve, Cond.selects RX4 yX4_curve yX4_curve, Cond.code yX4_curve cX4_curve 3 (some .long), Cond.methodLink RX4 58 yX4_rootOf, Cond.instanceMethod yX4_rootOf, Cond.selects RX4 yX4_rootOf yX4_rootOf, Cond.code yX4_rootOf cX4_rootOf 5 (some .long), Cond.constantLong RX4 40 (4), Cond.methodLink RX4 36 yX4_raised]
def wsX4_read_r2 : List Cond := [Cond.instanceMethod yX4_raised, Cond.selects RX4 yX4_raised yX4_raised, Cond.code yX4_raised cX4_raised 11 (some .long), Cond.methodLink RX4 32 yX4_fit, Cond.instanceMethod yX4_fit, Cond.selects RX4 yX4_fit yX4_fit, Cond.code yX4_fit cX4_fit 5 (some .long)]
def wsX4_read : List Cond := .code yX4_read cX4_read 7 (some .int) :: ((wsX4_read_r1 ++ wsX4_read_r2) ++ wsX40)
def wsX4_multiply2 : List Cond := .code yX4_multiply2 cX4_multiply2 7 none :: ([.fieldLink RX4 116 "PairingDeskModel" "u" "J", .fieldLink RX4 28 "PairingDeskModel" "p" "J", .fieldLink RX4 119 "PairingDeskModel" "v" "J"] ++ wsX40)
def wsX4_power2 : List Cond := .code yX4_power2 cX4_power2 8 none :: ([.fieldLink RX4 116 "PairingDeskModel" "u" "J", .fieldLink RX4 119 "PairingDeskModel" "v" "J", .methodLink RX4 122 yX4_multiply2, .instanceMethod yX4_multiply2, .selects RX4 yX4_multiply2 yX4_multiply2, .initialized RX4, .code yX4_multiply2 cX4_multiply2 7 none, .fieldLink RX4 28 "PairingDeskModel" "p" "J"] ++ wsX40)
def wsX4_line_r1 : List Cond := [Cond.fieldLink RX4 126 "PairingDeskModel" "lines" "I", Cond.fieldLink RX4 67 "PairingDeskModel" "is" "Z", Cond.fieldLink RX4 61 "PairingDeskModel" "x" "J", Cond.fieldLink RX4 64 "PairingDeskModel" "y" "J", Cond.fieldLink RX4 28 "PairingDeskModel" "p" "J", Cond.methodLink RX4 32 yX4_fit, Cond.instanceMethod yX4_fit, Cond.selects RX4 yX4_fit yX4_fit, Cond.initialized RX4, Cond.code yX4_fit cX4_fit 5 (some .long), Cond.methodLink RX4 122 yX4_multiply2, Cond.instanceMethod yX4_multiply2, Cond.selects RX4 yX4_multiply2 yX4_multiply2, Cond.code yX4_multiply2 cX4_multiply2 7 none, Cond.fieldLink RX4 116 "PairingDeskModel" "u" "J", Cond.fieldLink RX4 119 "PairingDeskModel" "v" "J", Cond.methodLink RX4 76 yX4_slope, Cond.instanceMethod yX4_slope, Cond.selects RX4 yX4_slope yX4_slope, Cond.code yX4_slope cX4_slope 9 (some .long), Cond.constantLong RX4 71 (3), Cond.constantLong RX4 26 (2), Cond.methodLink RX4 73 yX4_turned, Cond.instanceMethod yX4_turned]
def wsX4_line_r2 : List Cond := [Cond.selects RX4 yX4_turned yX4_turned, Cond.code yX4_turned cX4_turned 3 (some .long), Cond.methodLink RX4 36 yX4_raised, Cond.instanceMethod yX4_raised, Cond.selects RX4 yX4_raised yX4_raised, Cond.code yX4_raised cX4_raised 11 (some .long), Cond.methodLink RX4 80 yX4_plus, Cond.instanceMethod yX4_plus, Cond.selects RX4 yX4_plus yX4_plus, Cond.code yX4_plus cX4_plus 10 none]
def wsX4_line : List Cond := .code yX4_line cX4_line 13 none :: ((wsX4_line_r1 ++ wsX4_line_r2) ++ wsX40)
def wsX4_pairOf_r1 : List Cond := [Cond.fieldLink RX4 116 "PairingDeskModel" "u" "J", Cond.fieldLink RX4 119 "PairingDeskModel" "v" "J", Cond.fieldLink RX4 126 "PairingDeskModel" "lines" "I", Cond.fieldLink RX4 61 "PairingDeskModel" "x" "J", Cond.fieldLink RX4 64 "PairingDeskModel" "y" "J", Cond.fieldLink RX4 67 "PairingDeskModel" "is" "Z", Cond.fieldLink RX4 48 "PairingDeskModel" "\x72" "J", Cond.fieldLink RX4 28 "PairingDeskModel" "p" "J", Cond.methodLink RX4 122 yX4_multiply2, Cond.instanceMethod yX4_multiply2, Cond.selects RX4 yX4_multiply2 yX4_multiply2, Cond.initialized RX4, Cond.code yX4_multiply2 cX4_multiply2 7 none, Cond.methodLink RX4 130 yX4_line, Cond.instanceMethod yX4_line, Cond.selects RX4 yX4_line yX4_line, Cond.code yX4_line cX4_line 13 none, Cond.methodLink RX4 32 yX4_fit, Cond.instanceMethod yX4_fit, Cond.selects RX4 yX4_fit yX4_fit, Cond.code yX4_fit cX4_fit 5 (some .long), Cond.methodLink RX4 76 yX4_slope, Cond.instanceMethod yX4_slope, Cond.selects RX4 yX4_slope yX4_slope]
def wsX4_pairOf_r2 : List Cond := [Cond.code yX4_slope cX4_slope 9 (some .long), Cond.constantLong RX4 71 (3), Cond.constantLong RX4 26 (2), Cond.methodLink RX4 73 yX4_turned, Cond.instanceMethod yX4_turned, Cond.selects RX4 yX4_turned yX4_turned, Cond.code yX4_turned cX4_turned 3 (some .long), Cond.methodLink RX4 36 yX4_raised, Cond.instanceMethod yX4_raised, Cond.selects RX4 yX4_raised yX4_raised, Cond.code yX4_raised cX4_raised 11 (some .long), Cond.methodLink RX4 80 yX4_plus, Cond.instanceMethod yX4_plus, Cond.selects RX4 yX4_plus yX4_plus, Cond.code yX4_plus cX4_plus 10 none, Cond.methodLink RX4 134 yX4_power2, Cond.instanceMethod yX4_power2, Cond.selects RX4 yX4_power2 yX4_power2, Cond.code yX4_power2 cX4_power2 8 none]
def wsX4_pairOf : List Cond := .code yX4_pairOf cX4_pairOf 12 none :: ((wsX4_pairOf_r1 ++ wsX4_pairOf_r2) ++ wsX40)
def wsX4_isOfR_r1 : List Cond := [Cond.fieldLink RX4 48 "PairingDeskModel" "\x72" "J", Cond.fieldLink RX4 67 "PairingDeskModel" "is" "Z", Cond.methodLink RX4 105 yX4_load, Cond.instanceMethod yX4_load, Cond.selects RX4 yX4_load yX4_load, Cond.initialized RX4, Cond.code yX4_load cX4_load 2 none, Cond.fieldLink RX4 7 "PairingDeskModel" "px" "[J", Cond.fieldLink RX4 61 "PairingDeskModel" "x" "J", Cond.fieldLink RX4 13 "PairingDeskModel" "py" "[J", Cond.fieldLink RX4 64 "PairingDeskModel" "y" "J", Cond.fieldLink RX4 16 "PairingDeskModel" "isPoint" "[Z", Cond.methodLink RX4 97 yX4_take, Cond.instanceMethod yX4_take, Cond.selects RX4 yX4_take yX4_take, Cond.code yX4_take cX4_take 9 none, Cond.methodLink RX4 80 yX4_plus, Cond.instanceMethod yX4_plus, Cond.selects RX4 yX4_plus yX4_plus, Cond.code yX4_plus cX4_plus 10 none, Cond.fieldLink RX4 28 "PairingDeskModel" "p" "J", Cond.methodLink RX4 76 yX4_slope, Cond.instanceMethod yX4_slope, Cond.selects RX4 yX4_slope yX4_slope]
def wsX4_isOfR_r2 : List Cond := [Cond.code yX4_slope cX4_slope 9 (some .long), Cond.constantLong RX4 71 (3), Cond.constantLong RX4 26 (2), Cond.methodLink RX4 73 yX4_turned, Cond.instanceMethod yX4_turned, Cond.selects RX4 yX4_turned yX4_turned, Cond.code yX4_turned cX4_turned 3 (some .long), Cond.methodLink RX4 36 yX4_raised, Cond.instanceMethod yX4_raised, Cond.selects RX4 yX4_raised yX4_raised, Cond.code yX4_raised cX4_raised 11 (some .long), Cond.methodLink RX4 32 yX4_fit, Cond.instanceMethod yX4_fit, Cond.selects RX4 yX4_fit yX4_fit, Cond.code yX4_fit cX4_fit 5 (some .long)]
def wsX4_isOfR : List Cond := .code yX4_isOfR cX4_isOfR 2 (some .boolean) :: ((wsX4_isOfR_r1 ++ wsX4_isOfR_r2) ++ wsX40)
def wsX4_isValue : List Cond := .code yX4_isValue cX4_isValue 1 (some .boolean) :: ([.constantLong RX4 137 (7), .methodLink RX4 54 yX4_in, .static yX4_in, .initialized RX4, .code yX4_in cX4_in 6 (some .boolean)])
def wsX4_pair_r1 : List Cond := [Cond.fieldLink RX4 28 "PairingDeskModel" "p" "J", Cond.fieldLink RX4 7 "PairingDeskModel" "px" "[J", Cond.fieldLink RX4 13 "PairingDeskModel" "py" "[J", Cond.fieldLink RX4 16 "PairingDeskModel" "isPoint" "[Z", Cond.fieldLink RX4 20 "PairingDeskModel" "vu" "[J", Cond.fieldLink RX4 116 "PairingDeskModel" "u" "J", Cond.fieldLink RX4 23 "PairingDeskModel" "vv" "[J", Cond.fieldLink RX4 119 "PairingDeskModel" "v" "J", Cond.fieldLink RX4 126 "PairingDeskModel" "lines" "I", Cond.methodLink RX4 139 yX4_isValue, Cond.static yX4_isValue, Cond.initialized RX4, Cond.code yX4_isValue cX4_isValue 1 (some .boolean), Cond.constantLong RX4 137 (7), Cond.methodLink RX4 54 yX4_in, Cond.static yX4_in, Cond.code yX4_in cX4_in 6 (some .boolean), Cond.methodLink RX4 86 yX4_isSlot, Cond.static yX4_isSlot, Cond.code yX4_isSlot cX4_isSlot 1 (some .boolean), Cond.constantLong RX4 84 (15), Cond.methodLink RX4 142 yX4_isOfR, Cond.instanceMethod yX4_isOfR, Cond.selects RX4 yX4_isOfR yX4_isOfR]
def wsX4_pair_r2 : List Cond := [Cond.code yX4_isOfR cX4_isOfR 2 (some .boolean), Cond.fieldLink RX4 48 "PairingDeskModel" "\x72" "J", Cond.fieldLink RX4 67 "PairingDeskModel" "is" "Z", Cond.methodLink RX4 105 yX4_load, Cond.instanceMethod yX4_load, Cond.selects RX4 yX4_load yX4_load, Cond.code yX4_load cX4_load 2 none, Cond.fieldLink RX4 61 "PairingDeskModel" "x" "J", Cond.fieldLink RX4 64 "PairingDeskModel" "y" "J", Cond.methodLink RX4 97 yX4_take, Cond.instanceMethod yX4_take, Cond.selects RX4 yX4_take yX4_take, Cond.code yX4_take cX4_take 9 none, Cond.methodLink RX4 80 yX4_plus, Cond.instanceMethod yX4_plus, Cond.selects RX4 yX4_plus yX4_plus, Cond.code yX4_plus cX4_plus 10 none, Cond.methodLink RX4 76 yX4_slope, Cond.instanceMethod yX4_slope, Cond.selects RX4 yX4_slope yX4_slope, Cond.code yX4_slope cX4_slope 9 (some .long), Cond.constantLong RX4 71 (3), Cond.constantLong RX4 26 (2), Cond.methodLink RX4 73 yX4_turned]
def wsX4_pair_r3 : List Cond := [Cond.instanceMethod yX4_turned, Cond.selects RX4 yX4_turned yX4_turned, Cond.code yX4_turned cX4_turned 3 (some .long), Cond.methodLink RX4 36 yX4_raised, Cond.instanceMethod yX4_raised, Cond.selects RX4 yX4_raised yX4_raised, Cond.code yX4_raised cX4_raised 11 (some .long), Cond.methodLink RX4 32 yX4_fit, Cond.instanceMethod yX4_fit, Cond.selects RX4 yX4_fit yX4_fit, Cond.code yX4_fit cX4_fit 5 (some .long), Cond.methodLink RX4 145 yX4_pairOf, Cond.instanceMethod yX4_pairOf, Cond.selects RX4 yX4_pairOf yX4_pairOf, Cond.code yX4_pairOf cX4_pairOf 12 none, Cond.methodLink RX4 122 yX4_multiply2, Cond.instanceMethod yX4_multiply2, Cond.selects RX4 yX4_multiply2 yX4_multiply2, Cond.code yX4_multiply2 cX4_multiply2 7 none, Cond.methodLink RX4 130 yX4_line, Cond.instanceMethod yX4_line, Cond.selects RX4 yX4_line yX4_line, Cond.code yX4_line cX4_line 13 none, Cond.methodLink RX4 134 yX4_power2]
def wsX4_pair_r4 : List Cond := [Cond.instanceMethod yX4_power2, Cond.selects RX4 yX4_power2 yX4_power2, Cond.code yX4_power2 cX4_power2 8 none]
def wsX4_pair : List Cond := .code yX4_pair cX4_pair 4 (some .int) :: ((wsX4_pair_r1 ++ (wsX4_pair_r2 ++ (wsX4_pair_r3 ++ wsX4_pair_r4))) ++ wsX40)
def wsX4_keepValue : List Cond := .code yX4_keepValue cX4_keepValue 2 (some .int) :: ([.fieldLink RX4 20 "PairingDeskModel" "vu" "[J", .fieldLink RX4 116 "PairingDeskModel" "u" "J", .fieldLink RX4 23 "PairingDeskModel" "vv" "[J", .fieldLink RX4 119 "PairingDeskModel" "v" "J"] ++ wsX40)
def wsX4_multiply : List Cond := .code yX4_multiply cX4_multiply 4 (some .int) :: ([.fieldLink RX4 28 "PairingDeskModel" "p" "J", .fieldLink RX4 20 "PairingDeskModel" "vu" "[J", .fieldLink RX4 116 "PairingDeskModel" "u" "J", .fieldLink RX4 23 "PairingDeskModel" "vv" "[J", .fieldLink RX4 119 "PairingDeskModel" "v" "J", .methodLink RX4 139 yX4_isValue, .static yX4_isValue, .initialized RX4, .code yX4_isValue cX4_isValue 1 (some .boolean), .constantLong RX4 137 (7), .methodLink RX4 54 yX4_in, .static yX4_in, .code yX4_in cX4_in 6 (some .boolean), .methodLink RX4 122 yX4_multiply2, .instanceMethod yX4_multiply2, .selects RX4 yX4_multiply2 yX4_multiply2, .code yX4_multiply2 cX4_multiply2 7 none, .methodLink RX4 149 yX4_keepValue, .instanceMethod yX4_keepValue, .selects RX4 yX4_keepValue yX4_keepValue, .code yX4_keepValue cX4_keepValue 2 (some .int)] ++ wsX40)
def wsX4_power_r1 : List Cond := [Cond.fieldLink RX4 28 "PairingDeskModel" "p" "J", Cond.fieldLink RX4 20 "PairingDeskModel" "vu" "[J", Cond.fieldLink RX4 116 "PairingDeskModel" "u" "J", Cond.fieldLink RX4 23 "PairingDeskModel" "vv" "[J", Cond.fieldLink RX4 119 "PairingDeskModel" "v" "J", Cond.methodLink RX4 139 yX4_isValue, Cond.static yX4_isValue, Cond.initialized RX4, Cond.code yX4_isValue cX4_isValue 1 (some .boolean), Cond.constantLong RX4 137 (7), Cond.methodLink RX4 54 yX4_in, Cond.static yX4_in, Cond.code yX4_in cX4_in 6 (some .boolean), Cond.methodLink RX4 134 yX4_power2, Cond.instanceMethod yX4_power2, Cond.selects RX4 yX4_power2 yX4_power2, Cond.code yX4_power2 cX4_power2 8 none, Cond.methodLink RX4 122 yX4_multiply2, Cond.instanceMethod yX4_multiply2, Cond.selects RX4 yX4_multiply2 yX4_multiply2, Cond.code yX4_multiply2 cX4_multiply2 7 none, Cond.methodLink RX4 149 yX4_keepValue, Cond.instanceMethod yX4_keepValue, Cond.selects RX4 yX4_keepValue yX4_keepValue]
def wsX4_power_r2 : List Cond := [Cond.code yX4_keepValue cX4_keepValue 2 (some .int)]
def wsX4_power : List Cond := .code yX4_power cX4_power 5 (some .int) :: ((wsX4_power_r1 ++ wsX4_power_r2) ++ wsX40)
def wsX4_value : List Cond := .code yX4_value cX4_value 3 (some .int) :: ([.fieldLink RX4 28 "PairingDeskModel" "p" "J", .fieldLink RX4 20 "PairingDeskModel" "vu" "[J", .fieldLink RX4 23 "PairingDeskModel" "vv" "[J", .methodLink RX4 139 yX4_isValue, .static yX4_isValue, .initialized RX4, .code yX4_isValue cX4_isValue 1 (some .boolean), .constantLong RX4 137 (7), .methodLink RX4 54 yX4_in, .static yX4_in, .code yX4_in cX4_in 6 (some .boolean)] ++ wsX40)
def wsX4_open_r1 : List Cond := [Cond.fieldLink RX4 28 "PairingDeskModel" "p" "J", Cond.fieldLink RX4 48 "PairingDeskModel" "\x72" "J", Cond.methodLink RX4 86 yX4_isSlot, Cond.static yX4_isSlot, Cond.initialized RX4, Cond.code yX4_isSlot cX4_isSlot 1 (some .boolean), Cond.constantLong RX4 84 (15), Cond.methodLink RX4 54 yX4_in, Cond.static yX4_in, Cond.code yX4_in cX4_in 6 (some .boolean), Cond.methodLink RX4 101 yX4_turnOf, Cond.instanceMethod yX4_turnOf, Cond.selects RX4 yX4_turnOf yX4_turnOf, Cond.code yX4_turnOf cX4_turnOf 10 (some .int), Cond.constantLong RX4 26 (2), Cond.constantLong RX4 42 (-1), Cond.fieldLink RX4 61 "PairingDeskModel" "x" "J", Cond.fieldLink RX4 64 "PairingDeskModel" "y" "J", Cond.fieldLink RX4 67 "PairingDeskModel" "is" "Z", Cond.fieldLink RX4 51 "PairingDeskModel" "h" "J", Cond.methodLink RX4 90 yX4_curve, Cond.instanceMethod yX4_curve, Cond.selects RX4 yX4_curve yX4_curve, Cond.code yX4_curve cX4_curve 3 (some .long)]
def wsX4_open_r2 : List Cond := [Cond.methodLink RX4 58 yX4_rootOf, Cond.instanceMethod yX4_rootOf, Cond.selects RX4 yX4_rootOf yX4_rootOf, Cond.code yX4_rootOf cX4_rootOf 5 (some .long), Cond.constantLong RX4 40 (4), Cond.methodLink RX4 36 yX4_raised, Cond.instanceMethod yX4_raised, Cond.selects RX4 yX4_raised yX4_raised, Cond.code yX4_raised cX4_raised 11 (some .long), Cond.methodLink RX4 32 yX4_fit, Cond.instanceMethod yX4_fit, Cond.selects RX4 yX4_fit yX4_fit, Cond.code yX4_fit cX4_fit 5 (some .long), Cond.methodLink RX4 97 yX4_take, Cond.instanceMethod yX4_take, Cond.selects RX4 yX4_take yX4_take, Cond.code yX4_take cX4_take 9 none, Cond.methodLink RX4 80 yX4_plus, Cond.instanceMethod yX4_plus, Cond.selects RX4 yX4_plus yX4_plus, Cond.code yX4_plus cX4_plus 10 none, Cond.methodLink RX4 76 yX4_slope, Cond.instanceMethod yX4_slope, Cond.selects RX4 yX4_slope yX4_slope]
def wsX4_open_r3 : List Cond := [Cond.code yX4_slope cX4_slope 9 (some .long), Cond.constantLong RX4 71 (3), Cond.methodLink RX4 73 yX4_turned, Cond.instanceMethod yX4_turned, Cond.selects RX4 yX4_turned yX4_turned, Cond.code yX4_turned cX4_turned 3 (some .long), Cond.methodLink RX4 93 yX4_store, Cond.instanceMethod yX4_store, Cond.selects RX4 yX4_store yX4_store, Cond.code yX4_store cX4_store 2 none, Cond.fieldLink RX4 7 "PairingDeskModel" "px" "[J", Cond.fieldLink RX4 13 "PairingDeskModel" "py" "[J", Cond.fieldLink RX4 16 "PairingDeskModel" "isPoint" "[Z"]
def wsX4_open : List Cond := .code yX4_open cX4_open 4 (some .int) :: ((wsX4_open_r1 ++ (wsX4_open_r2 ++ wsX4_open_r3)) ++ wsX40)
def wsX4_sign_r1 : List Cond := [Cond.fieldLink RX4 28 "PairingDeskModel" "p" "J", Cond.fieldLink RX4 48 "PairingDeskModel" "\x72" "J", Cond.methodLink RX4 86 yX4_isSlot, Cond.static yX4_isSlot, Cond.initialized RX4, Cond.code yX4_isSlot cX4_isSlot 1 (some .boolean), Cond.constantLong RX4 84 (15), Cond.methodLink RX4 54 yX4_in, Cond.static yX4_in, Cond.code yX4_in cX4_in 6 (some .boolean), Cond.methodLink RX4 101 yX4_turnOf, Cond.instanceMethod yX4_turnOf, Cond.selects RX4 yX4_turnOf yX4_turnOf, Cond.code yX4_turnOf cX4_turnOf 10 (some .int), Cond.constantLong RX4 26 (2), Cond.constantLong RX4 42 (-1), Cond.fieldLink RX4 61 "PairingDeskModel" "x" "J", Cond.fieldLink RX4 64 "PairingDeskModel" "y" "J", Cond.fieldLink RX4 67 "PairingDeskModel" "is" "Z", Cond.fieldLink RX4 51 "PairingDeskModel" "h" "J", Cond.methodLink RX4 90 yX4_curve, Cond.instanceMethod yX4_curve, Cond.selects RX4 yX4_curve yX4_curve, Cond.code yX4_curve cX4_curve 3 (some .long)]
def wsX4_sign_r2 : List Cond := [Cond.methodLink RX4 58 yX4_rootOf, Cond.instanceMethod yX4_rootOf, Cond.selects RX4 yX4_rootOf yX4_rootOf, Cond.code yX4_rootOf cX4_rootOf 5 (some .long), Cond.constantLong RX4 40 (4), Cond.methodLink RX4 36 yX4_raised, Cond.instanceMethod yX4_raised, Cond.selects RX4 yX4_raised yX4_raised, Cond.code yX4_raised cX4_raised 11 (some .long), Cond.methodLink RX4 32 yX4_fit, Cond.instanceMethod yX4_fit, Cond.selects RX4 yX4_fit yX4_fit, Cond.code yX4_fit cX4_fit 5 (some .long), Cond.methodLink RX4 97 yX4_take, Cond.instanceMethod yX4_take, Cond.selects RX4 yX4_take yX4_take, Cond.code yX4_take cX4_take 9 none, Cond.methodLink RX4 80 yX4_plus, Cond.instanceMethod yX4_plus, Cond.selects RX4 yX4_plus yX4_plus, Cond.code yX4_plus cX4_plus 10 none, Cond.methodLink RX4 76 yX4_slope, Cond.instanceMethod yX4_slope, Cond.selects RX4 yX4_slope yX4_slope]
def wsX4_sign_r3 : List Cond := [Cond.code yX4_slope cX4_slope 9 (some .long), Cond.constantLong RX4 71 (3), Cond.methodLink RX4 73 yX4_turned, Cond.instanceMethod yX4_turned, Cond.selects RX4 yX4_turned yX4_turned, Cond.code yX4_turned cX4_turned 3 (some .long), Cond.methodLink RX4 93 yX4_store, Cond.instanceMethod yX4_store, Cond.selects RX4 yX4_store yX4_store, Cond.code yX4_store cX4_store 2 none, Cond.fieldLink RX4 7 "PairingDeskModel" "px" "[J", Cond.fieldLink RX4 13 "PairingDeskModel" "py" "[J", Cond.fieldLink RX4 16 "PairingDeskModel" "isPoint" "[Z"]
def wsX4_sign : List Cond := .code yX4_sign cX4_sign 6 (some .int) :: ((wsX4_sign_r1 ++ (wsX4_sign_r2 ++ wsX4_sign_r3)) ++ wsX40)
def wsX4_pairWithBase_r1 : List Cond := [Cond.fieldLink RX4 7 "PairingDeskModel" "px" "[J", Cond.fieldLink RX4 13 "PairingDeskModel" "py" "[J", Cond.fieldLink RX4 16 "PairingDeskModel" "isPoint" "[Z", Cond.fieldLink RX4 61 "PairingDeskModel" "x" "J", Cond.fieldLink RX4 64 "PairingDeskModel" "y" "J", Cond.fieldLink RX4 67 "PairingDeskModel" "is" "Z", Cond.methodLink RX4 101 yX4_turnOf, Cond.instanceMethod yX4_turnOf, Cond.selects RX4 yX4_turnOf yX4_turnOf, Cond.initialized RX4, Cond.code yX4_turnOf cX4_turnOf 10 (some .int), Cond.fieldLink RX4 28 "PairingDeskModel" "p" "J", Cond.constantLong RX4 26 (2), Cond.constantLong RX4 42 (-1), Cond.fieldLink RX4 51 "PairingDeskModel" "h" "J", Cond.methodLink RX4 90 yX4_curve, Cond.instanceMethod yX4_curve, Cond.selects RX4 yX4_curve yX4_curve, Cond.code yX4_curve cX4_curve 3 (some .long), Cond.methodLink RX4 58 yX4_rootOf, Cond.instanceMethod yX4_rootOf, Cond.selects RX4 yX4_rootOf yX4_rootOf, Cond.code yX4_rootOf cX4_rootOf 5 (some .long), Cond.constantLong RX4 40 (4)]
def wsX4_pairWithBase_r2 : List Cond := [Cond.methodLink RX4 36 yX4_raised, Cond.instanceMethod yX4_raised, Cond.selects RX4 yX4_raised yX4_raised, Cond.code yX4_raised cX4_raised 11 (some .long), Cond.methodLink RX4 32 yX4_fit, Cond.instanceMethod yX4_fit, Cond.selects RX4 yX4_fit yX4_fit, Cond.code yX4_fit cX4_fit 5 (some .long), Cond.methodLink RX4 97 yX4_take, Cond.instanceMethod yX4_take, Cond.selects RX4 yX4_take yX4_take, Cond.code yX4_take cX4_take 9 none, Cond.methodLink RX4 80 yX4_plus, Cond.instanceMethod yX4_plus, Cond.selects RX4 yX4_plus yX4_plus, Cond.code yX4_plus cX4_plus 10 none, Cond.methodLink RX4 76 yX4_slope, Cond.instanceMethod yX4_slope, Cond.selects RX4 yX4_slope yX4_slope, Cond.code yX4_slope cX4_slope 9 (some .long), Cond.constantLong RX4 71 (3), Cond.methodLink RX4 73 yX4_turned, Cond.instanceMethod yX4_turned, Cond.selects RX4 yX4_turned yX4_turned]
def wsX4_pairWithBase_r3 : List Cond := [Cond.code yX4_turned cX4_turned 3 (some .long), Cond.methodLink RX4 145 yX4_pairOf, Cond.instanceMethod yX4_pairOf, Cond.selects RX4 yX4_pairOf yX4_pairOf, Cond.code yX4_pairOf cX4_pairOf 12 none, Cond.fieldLink RX4 116 "PairingDeskModel" "u" "J", Cond.fieldLink RX4 119 "PairingDeskModel" "v" "J", Cond.fieldLink RX4 126 "PairingDeskModel" "lines" "I", Cond.fieldLink RX4 48 "PairingDeskModel" "\x72" "J", Cond.methodLink RX4 122 yX4_multiply2, Cond.instanceMethod yX4_multiply2, Cond.selects RX4 yX4_multiply2 yX4_multiply2, Cond.code yX4_multiply2 cX4_multiply2 7 none, Cond.methodLink RX4 130 yX4_line, Cond.instanceMethod yX4_line, Cond.selects RX4 yX4_line yX4_line, Cond.code yX4_line cX4_line 13 none, Cond.methodLink RX4 134 yX4_power2, Cond.instanceMethod yX4_power2, Cond.selects RX4 yX4_power2 yX4_power2, Cond.code yX4_power2 cX4_power2 8 none]
def wsX4_pairWithBase : List Cond := .code yX4_pairWithBase cX4_pairWithBase 3 none :: ((wsX4_pairWithBase_r1 ++ (wsX4_pairWithBase_r2 ++ wsX4_pairWithBase_r3)) ++ wsX40)
def wsX4_pairTurned_r1 : List Cond := [Cond.fieldLink RX4 61 "PairingDeskModel" "x" "J", Cond.fieldLink RX4 64 "PairingDeskModel" "y" "J", Cond.fieldLink RX4 67 "PairingDeskModel" "is" "Z", Cond.fieldLink RX4 7 "PairingDeskModel" "px" "[J", Cond.fieldLink RX4 13 "PairingDeskModel" "py" "[J", Cond.fieldLink RX4 16 "PairingDeskModel" "isPoint" "[Z", Cond.methodLink RX4 101 yX4_turnOf, Cond.instanceMethod yX4_turnOf, Cond.selects RX4 yX4_turnOf yX4_turnOf, Cond.initialized RX4, Cond.code yX4_turnOf cX4_turnOf 10 (some .int), Cond.fieldLink RX4 28 "PairingDeskModel" "p" "J", Cond.constantLong RX4 26 (2), Cond.constantLong RX4 42 (-1), Cond.fieldLink RX4 51 "PairingDeskModel" "h" "J", Cond.methodLink RX4 90 yX4_curve, Cond.instanceMethod yX4_curve, Cond.selects RX4 yX4_curve yX4_curve, Cond.code yX4_curve cX4_curve 3 (some .long), Cond.methodLink RX4 58 yX4_rootOf, Cond.instanceMethod yX4_rootOf, Cond.selects RX4 yX4_rootOf yX4_rootOf, Cond.code yX4_rootOf cX4_rootOf 5 (some .long), Cond.constantLong RX4 40 (4)]
def wsX4_pairTurned_r2 : List Cond := [Cond.methodLink RX4 36 yX4_raised, Cond.instanceMethod yX4_raised, Cond.selects RX4 yX4_raised yX4_raised, Cond.code yX4_raised cX4_raised 11 (some .long), Cond.methodLink RX4 32 yX4_fit, Cond.instanceMethod yX4_fit, Cond.selects RX4 yX4_fit yX4_fit, Cond.code yX4_fit cX4_fit 5 (some .long), Cond.methodLink RX4 97 yX4_take, Cond.instanceMethod yX4_take, Cond.selects RX4 yX4_take yX4_take, Cond.code yX4_take cX4_take 9 none, Cond.methodLink RX4 80 yX4_plus, Cond.instanceMethod yX4_plus, Cond.selects RX4 yX4_plus yX4_plus, Cond.code yX4_plus cX4_plus 10 none, Cond.methodLink RX4 76 yX4_slope, Cond.instanceMethod yX4_slope, Cond.selects RX4 yX4_slope yX4_slope, Cond.code yX4_slope cX4_slope 9 (some .long), Cond.constantLong RX4 71 (3), Cond.methodLink RX4 73 yX4_turned, Cond.instanceMethod yX4_turned, Cond.selects RX4 yX4_turned yX4_turned]
def wsX4_pairTurned_r3 : List Cond := [Cond.code yX4_turned cX4_turned 3 (some .long), Cond.methodLink RX4 145 yX4_pairOf, Cond.instanceMethod yX4_pairOf, Cond.selects RX4 yX4_pairOf yX4_pairOf, Cond.code yX4_pairOf cX4_pairOf 12 none, Cond.fieldLink RX4 116 "PairingDeskModel" "u" "J", Cond.fieldLink RX4 119 "PairingDeskModel" "v" "J", Cond.fieldLink RX4 126 "PairingDeskModel" "lines" "I", Cond.fieldLink RX4 48 "PairingDeskModel" "\x72" "J", Cond.methodLink RX4 122 yX4_multiply2, Cond.instanceMethod yX4_multiply2, Cond.selects RX4 yX4_multiply2 yX4_multiply2, Cond.code yX4_multiply2 cX4_multiply2 7 none, Cond.methodLink RX4 130 yX4_line, Cond.instanceMethod yX4_line, Cond.selects RX4 yX4_line yX4_line, Cond.code yX4_line cX4_line 13 none, Cond.methodLink RX4 134 yX4_power2, Cond.instanceMethod yX4_power2, Cond.selects RX4 yX4_power2 yX4_power2, Cond.code yX4_power2 cX4_power2 8 none]
def wsX4_pairTurned : List Cond := .code yX4_pairTurned cX4_pairTurned 5 none :: ((wsX4_pairTurned_r1 ++ (wsX4_pairTurned_r2 ++ wsX4_pairTurned_r3)) ++ wsX40)
def wsX4_holds_r1 : List Cond := [Cond.fieldLink RX4 28 "PairingDeskModel" "p" "J", Cond.fieldLink RX4 16 "PairingDeskModel" "isPoint" "[Z", Cond.fieldLink RX4 116 "PairingDeskModel" "u" "J", Cond.fieldLink RX4 119 "PairingDeskModel" "v" "J", Cond.methodLink RX4 86 yX4_isSlot, Cond.static yX4_isSlot, Cond.initialized RX4, Cond.code yX4_isSlot cX4_isSlot 1 (some .boolean), Cond.constantLong RX4 84 (15), Cond.methodLink RX4 54 yX4_in, Cond.static yX4_in, Cond.code yX4_in cX4_in 6 (some .boolean), Cond.methodLink RX4 142 yX4_isOfR, Cond.instanceMethod yX4_isOfR, Cond.selects RX4 yX4_isOfR yX4_isOfR, Cond.code yX4_isOfR cX4_isOfR 2 (some .boolean), Cond.fieldLink RX4 48 "PairingDeskModel" "\x72" "J", Cond.fieldLink RX4 67 "PairingDeskModel" "is" "Z", Cond.methodLink RX4 105 yX4_load, Cond.instanceMethod yX4_load, Cond.selects RX4 yX4_load yX4_load, Cond.code yX4_load cX4_load 2 none, Cond.fieldLink RX4 7 "PairingDeskModel" "px" "[J", Cond.fieldLink RX4 61 "PairingDeskModel" "x" "J"]
def wsX4_holds_r2 : List Cond := [Cond.fieldLink RX4 13 "PairingDeskModel" "py" "[J", Cond.fieldLink RX4 64 "PairingDeskModel" "y" "J", Cond.methodLink RX4 97 yX4_take, Cond.instanceMethod yX4_take, Cond.selects RX4 yX4_take yX4_take, Cond.code yX4_take cX4_take 9 none, Cond.methodLink RX4 80 yX4_plus, Cond.instanceMethod yX4_plus, Cond.selects RX4 yX4_plus yX4_plus, Cond.code yX4_plus cX4_plus 10 none, Cond.methodLink RX4 76 yX4_slope, Cond.instanceMethod yX4_slope, Cond.selects RX4 yX4_slope yX4_slope, Cond.code yX4_slope cX4_slope 9 (some .long), Cond.constantLong RX4 71 (3), Cond.constantLong RX4 26 (2), Cond.methodLink RX4 73 yX4_turned, Cond.instanceMethod yX4_turned, Cond.selects RX4 yX4_turned yX4_turned, Cond.code yX4_turned cX4_turned 3 (some .long), Cond.methodLink RX4 36 yX4_raised, Cond.instanceMethod yX4_raised, Cond.selects RX4 yX4_raised yX4_raised, Cond.code yX4_raised cX4_raised 11 (some .long)]
def wsX4_holds_r3 : List Cond := [Cond.methodLink RX4 32 yX4_fit, Cond.instanceMethod yX4_fit, Cond.selects RX4 yX4_fit yX4_fit, Cond.code yX4_fit cX4_fit 5 (some .long), Cond.methodLink RX4 153 yX4_pairWithBase, Cond.instanceMethod yX4_pairWithBase, Cond.selects RX4 yX4_pairWithBase yX4_pairWithBase, Cond.code yX4_pairWithBase cX4_pairWithBase 3 none, Cond.methodLink RX4 101 yX4_turnOf, Cond.instanceMethod yX4_turnOf, Cond.selects RX4 yX4_turnOf yX4_turnOf, Cond.code yX4_turnOf cX4_turnOf 10 (some .int), Cond.constantLong RX4 42 (-1), Cond.fieldLink RX4 51 "PairingDeskModel" "h" "J", Cond.methodLink RX4 90 yX4_curve, Cond.instanceMethod yX4_curve, Cond.selects RX4 yX4_curve yX4_curve, Cond.code yX4_curve cX4_curve 3 (some .long), Cond.methodLink RX4 58 yX4_rootOf, Cond.instanceMethod yX4_rootOf, Cond.selects RX4 yX4_rootOf yX4_rootOf, Cond.code yX4_rootOf cX4_rootOf 5 (some .long), Cond.constantLong RX4 40 (4), Cond.methodLink RX4 145 yX4_pairOf]
def wsX4_holds_r4 : List Cond := [Cond.instanceMethod yX4_pairOf, Cond.selects RX4 yX4_pairOf yX4_pairOf, Cond.code yX4_pairOf cX4_pairOf 12 none, Cond.fieldLink RX4 126 "PairingDeskModel" "lines" "I", Cond.methodLink RX4 122 yX4_multiply2, Cond.instanceMethod yX4_multiply2, Cond.selects RX4 yX4_multiply2 yX4_multiply2, Cond.code yX4_multiply2 cX4_multiply2 7 none, Cond.methodLink RX4 130 yX4_line, Cond.instanceMethod yX4_line, Cond.selects RX4 yX4_line yX4_line, Cond.code yX4_line cX4_line 13 none, Cond.methodLink RX4 134 yX4_power2, Cond.instanceMethod yX4_power2, Cond.selects RX4 yX4_power2 yX4_power2, Cond.code yX4_power2 cX4_power2 8 none, Cond.methodLink RX4 156 yX4_pairTurned, Cond.instanceMethod yX4_pairTurned, Cond.selects RX4 yX4_pairTurned yX4_pairTurned, Cond.code yX4_pairTurned cX4_pairTurned 5 none]
def wsX4_holds : List Cond := .code yX4_holds cX4_holds 9 (some .int) :: ((wsX4_holds_r1 ++ (wsX4_holds_r2 ++ (wsX4_holds_r3 ++ wsX4_holds_r4))) ++ wsX40)
def wsX4_holdsAll_r1 : List Cond := [Cond.fieldLink RX4 28 "PairingDeskModel" "p" "J", Cond.constantLong RX4 160 (8), Cond.fieldLink RX4 16 "PairingDeskModel" "isPoint" "[Z", Cond.fieldLink RX4 116 "PairingDeskModel" "u" "J", Cond.fieldLink RX4 119 "PairingDeskModel" "v" "J", Cond.methodLink RX4 86 yX4_isSlot, Cond.static yX4_isSlot, Cond.initialized RX4, Cond.code yX4_isSlot cX4_isSlot 1 (some .boolean), Cond.constantLong RX4 84 (15), Cond.methodLink RX4 54 yX4_in, Cond.static yX4_in, Cond.code yX4_in cX4_in 6 (some .boolean), Cond.methodLink RX4 142 yX4_isOfR, Cond.instanceMethod yX4_isOfR, Cond.selects RX4 yX4_isOfR yX4_isOfR, Cond.code yX4_isOfR cX4_isOfR 2 (some .boolean), Cond.fieldLink RX4 48 "PairingDeskModel" "\x72" "J", Cond.fieldLink RX4 67 "PairingDeskModel" "is" "Z", Cond.methodLink RX4 105 yX4_load, Cond.instanceMethod yX4_load, Cond.selects RX4 yX4_load yX4_load, Cond.code yX4_load cX4_load 2 none, Cond.fieldLink RX4 7 "PairingDeskModel" "px" "[J"]
def wsX4_holdsAll_r2 : List Cond := [Cond.fieldLink RX4 61 "PairingDeskModel" "x" "J", Cond.fieldLink RX4 13 "PairingDeskModel" "py" "[J", Cond.fieldLink RX4 64 "PairingDeskModel" "y" "J", Cond.methodLink RX4 97 yX4_take, Cond.instanceMethod yX4_take, Cond.selects RX4 yX4_take yX4_take, Cond.code yX4_take cX4_take 9 none, Cond.methodLink RX4 80 yX4_plus, Cond.instanceMethod yX4_plus, Cond.selects RX4 yX4_plus yX4_plus, Cond.code yX4_plus cX4_plus 10 none, Cond.methodLink RX4 76 yX4_slope, Cond.instanceMethod yX4_slope, Cond.selects RX4 yX4_slope yX4_slope, Cond.code yX4_slope cX4_slope 9 (some .long), Cond.constantLong RX4 71 (3), Cond.constantLong RX4 26 (2), Cond.methodLink RX4 73 yX4_turned, Cond.instanceMethod yX4_turned, Cond.selects RX4 yX4_turned yX4_turned, Cond.code yX4_turned cX4_turned 3 (some .long), Cond.methodLink RX4 36 yX4_raised, Cond.instanceMethod yX4_raised, Cond.selects RX4 yX4_raised yX4_raised]
def wsX4_holdsAll_r3 : List Cond := [Cond.code yX4_raised cX4_raised 11 (some .long), Cond.methodLink RX4 32 yX4_fit, Cond.instanceMethod yX4_fit, Cond.selects RX4 yX4_fit yX4_fit, Cond.code yX4_fit cX4_fit 5 (some .long), Cond.methodLink RX4 156 yX4_pairTurned, Cond.instanceMethod yX4_pairTurned, Cond.selects RX4 yX4_pairTurned yX4_pairTurned, Cond.code yX4_pairTurned cX4_pairTurned 5 none, Cond.methodLink RX4 101 yX4_turnOf, Cond.instanceMethod yX4_turnOf, Cond.selects RX4 yX4_turnOf yX4_turnOf, Cond.code yX4_turnOf cX4_turnOf 10 (some .int), Cond.constantLong RX4 42 (-1), Cond.fieldLink RX4 51 "PairingDeskModel" "h" "J", Cond.methodLink RX4 90 yX4_curve, Cond.instanceMethod yX4_curve, Cond.selects RX4 yX4_curve yX4_curve, Cond.code yX4_curve cX4_curve 3 (some .long), Cond.methodLink RX4 58 yX4_rootOf, Cond.instanceMethod yX4_rootOf, Cond.selects RX4 yX4_rootOf yX4_rootOf, Cond.code yX4_rootOf cX4_rootOf 5 (some .long), Cond.constantLong RX4 40 (4)]
def wsX4_holdsAll_r4 : List Cond := [Cond.methodLink RX4 145 yX4_pairOf, Cond.instanceMethod yX4_pairOf, Cond.selects RX4 yX4_pairOf yX4_pairOf, Cond.code yX4_pairOf cX4_pairOf 12 none, Cond.fieldLink RX4 126 "PairingDeskModel" "lines" "I", Cond.methodLink RX4 122 yX4_multiply2, Cond.instanceMethod yX4_multiply2, Cond.selects RX4 yX4_multiply2 yX4_multiply2, Cond.code yX4_multiply2 cX4_multiply2 7 none, Cond.methodLink RX4 130 yX4_line, Cond.instanceMethod yX4_line, Cond.selects RX4 yX4_line yX4_line, Cond.code yX4_line cX4_line 13 none, Cond.methodLink RX4 134 yX4_power2, Cond.instanceMethod yX4_power2, Cond.selects RX4 yX4_power2 yX4_power2, Cond.code yX4_power2 cX4_power2 8 none, Cond.methodLink RX4 153 yX4_pairWithBase, Cond.instanceMethod yX4_pairWithBase, Cond.selects RX4 yX4_pairWithBase yX4_pairWithBase, Cond.code yX4_pairWithBase cX4_pairWithBase 3 none]
def wsX4_holdsAll : List Cond := .code yX4_holdsAll cX4_holdsAll 12 (some .int) :: ((wsX4_holdsAll_r1 ++ (wsX4_holdsAll_r2 ++ (wsX4_holdsAll_r3 ++ wsX4_holdsAll_r4))) ++ wsX40)
def wsX4_digest : List Cond := .code yX4_digest cX4_digest 4 (some .long) :: ([.fieldLink RX4 28 "PairingDeskModel" "p" "J", .constantLong RX4 108 (-3), .constantLong RX4 162 (17), .constantLong RX4 164 (31), .fieldLink RX4 20 "PairingDeskModel" "vu" "[J", .fieldLink RX4 23 "PairingDeskModel" "vv" "[J", .methodLink RX4 110 yX4_written, .instanceMethod yX4_written, .selects RX4 yX4_written yX4_written, .initialized RX4, .code yX4_written cX4_written 2 (some .long), .fieldLink RX4 16 "PairingDeskModel" "isPoint" "[Z", .constantLong RX4 26 (2), .fieldLink RX4 7 "PairingDeskModel" "px" "[J", .fieldLink RX4 13 "PairingDeskModel" "py" "[J", .constantLong RX4 42 (-1)] ++ wsX40)
def wsL_law_r1 : List Cond := [Cond.classLink RL 7 RX3, Cond.instantiable RX3 4, Cond.initialized RX3, Cond.classLink RL 10 RX4, Cond.instantiable RX4 14, Cond.initialized RX4, Cond.constantLong RL 36 (4294967295), Cond.methodLink RL 9 yX3_init, Cond.instanceMethod yX3_init, Cond.code yX3_init cX3_init 1 none, Cond.methodLink RX3 3 objectInit, Cond.instanceMethod objectInit, Cond.code objectInit ⟨#[0xb1]⟩ 1 none, Cond.arrayClass .long, Cond.fieldLink RX3 9 "PairingDesk" "slots" "[J", Cond.fieldLink RX3 13 "PairingDesk" "values" "[J", Cond.methodLink RX3 16 yX3_clearRows, Cond.instanceMethod yX3_clearRows, Cond.selects RX3 yX3_clearRows yX3_clearRows, Cond.code yX3_clearRows cX3_clearRows 2 none, Cond.constantLong RX3 79 (-1), Cond.constantLong RX3 131 (2147483648), Cond.methodLink RL 12 yX4_init, Cond.instanceMethod yX4_init]
def wsL_law_r2 : List Cond := [Cond.code yX4_init cX4_init 1 none, Cond.methodLink RX4 1 objectInit, Cond.fieldLink RX4 7 "PairingDeskModel" "px" "[J", Cond.fieldLink RX4 13 "PairingDeskModel" "py" "[J", Cond.arrayClass .boolean, Cond.fieldLink RX4 16 "PairingDeskModel" "isPoint" "[Z", Cond.fieldLink RX4 20 "PairingDeskModel" "vu" "[J", Cond.fieldLink RX4 23 "PairingDeskModel" "vv" "[J", Cond.methodLink RL 13 yX3_field, Cond.instanceMethod yX3_field, Cond.selects RX3 yX3_field yX3_field, Cond.code yX3_field cX3_field 3 (some .int), Cond.classLink RX3 23 RX0, Cond.instantiable RX0 6, Cond.initialized RX0, Cond.classLink RX3 25 RX2, Cond.instantiable RX2 1, Cond.initialized RX2, Cond.fieldLink RX3 33 "PairingDesk" "curve" "LPairingDesk$Curve;", Cond.classLink RX3 37 RX1, Cond.instantiable RX1 3, Cond.initialized RX1, Cond.fieldLink RX3 42 "PairingDesk" "pairing" "LPairingDesk$Pairing;", Cond.fieldLink RX3 46 "PairingDesk$Curve" "h" "J"]
def wsL_law_r3 : List Cond := [Cond.methodLink RX3 19 yX3_fitTogether, Cond.static yX3_fitTogether, Cond.code yX3_fitTogether cX3_fitTogether 4 (some .boolean), Cond.methodLink RX3 156 yX3_isOddPrime, Cond.static yX3_isOddPrime, Cond.code yX3_isOddPrime cX3_isOddPrime 4 (some .boolean), Cond.constantLong RX3 159 (2), Cond.constantLong RX3 161 (3), Cond.methodLink RX3 27 yX2_init, Cond.instanceMethod yX2_init, Cond.code yX2_init cX2_init 3 none, Cond.methodLink RX2 3 objectInit, Cond.fieldLink RX2 9 "PairingDesk$PrimeField" "p" "J", Cond.methodLink RX3 30 yX0_init, Cond.instanceMethod yX0_init, Cond.code yX0_init cX0_init 4 none, Cond.methodLink RX0 3 objectInit, Cond.fieldLink RX0 9 "PairingDesk$Curve" "field" "LPairingDesk$PrimeField;", Cond.fieldLink RX0 15 "PairingDesk$PrimeField" "p" "J", Cond.fieldLink RX0 21 "PairingDesk$Curve" "p" "J", Cond.fieldLink RX0 22 "PairingDesk$Curve" "\x72" "J", Cond.fieldLink RX0 25 "PairingDesk$Curve" "h" "J", Cond.fieldLink RX0 32 "PairingDesk$Curve" "base" "J", Cond.methodLink RX0 28 yX0_turned]
def wsL_law_r4 : List Cond := [Cond.instanceMethod yX0_turned, Cond.selects RX0 yX0_turned yX0_turned, Cond.code yX0_turned cX0_turned 10 (some .long), Cond.fieldLink RX0 88 "PairingDesk$Curve" "tried" "I", Cond.constantLong RX0 58 (-1), Cond.methodLink RX0 85 yX0_firstTried, Cond.instanceMethod yX0_firstTried, Cond.selects RX0 yX0_firstTried yX0_firstTried, Cond.code yX0_firstTried cX0_firstTried 3 (some .long), Cond.constantLong RX0 50 (2), Cond.methodLink RX0 39 yX0_squareOfY, Cond.instanceMethod yX0_squareOfY, Cond.selects RX0 yX0_squareOfY yX0_squareOfY, Cond.code yX0_squareOfY cX0_squareOfY 3 (some .long), Cond.methodLink RX0 35 yX2_product, Cond.instanceMethod yX2_product, Cond.selects RX2 yX2_product yX2_product, Cond.code yX2_product cX2_product 5 (some .long), Cond.methodLink RX0 92 yX2_evenRoot, Cond.instanceMethod yX2_evenRoot, Cond.selects RX2 yX2_evenRoot yX2_evenRoot, Cond.code yX2_evenRoot cX2_evenRoot 9 (some .long), Cond.constantLong RX2 15 (4), Cond.constantLong RX2 17 (2)]
def wsL_law_r5 : List Cond := [Cond.constantLong RX2 23 (-1), Cond.methodLink RX2 19 yX2_product, Cond.static yX3_joined, Cond.code yX3_joined cX3_joined 4 (some .long), Cond.methodLink RX0 82 yX0_multiple, Cond.instanceMethod yX0_multiple, Cond.selects RX0 yX0_multiple yX0_multiple, Cond.code yX0_multiple cX0_multiple 11 (some .long), Cond.methodLink RX0 70 yJ9_floorMod_f86c9, Cond.static yJ9_floorMod_f86c9, Cond.initialized RJ9, Cond.code yJ9_floorMod_f86c9 cJ9_floorMod_f86c9 6 (some .long), Cond.methodLink RX0 75 yX0_sum, Cond.instanceMethod yX0_sum, Cond.selects RX0 yX0_sum yX0_sum, Cond.code yX0_sum cX0_sum 11 (some .long), Cond.methodLink RX0 60 yX0_areOpposite, Cond.instanceMethod yX0_areOpposite, Cond.selects RX0 yX0_areOpposite yX0_areOpposite, Cond.code yX0_areOpposite cX0_areOpposite 5 (some .boolean), Cond.static yX3_upper, Cond.code yX3_upper cX3_upper 2 (some .long), Cond.static yX3_lower, Cond.code yX3_lower cX3_lower 2 (some .long)]
def wsL_law_r6 : List Cond := [Cond.constantLong RX3 163 (2147483647), Cond.methodLink RX0 64 yX0_slope, Cond.instanceMethod yX0_slope, Cond.selects RX0 yX0_slope yX0_slope, Cond.code yX0_slope cX0_slope 11 (some .long), Cond.constantLong RX0 48 (3), Cond.methodLink RX0 52 yX2_inverse, Cond.instanceMethod yX2_inverse, Cond.selects RX2 yX2_inverse yX2_inverse, Cond.code yX2_inverse cX2_inverse 18 (some .long), Cond.methodLink RX0 55 yX2_difference, Cond.instanceMethod yX2_difference, Cond.selects RX2 yX2_difference yX2_difference, Cond.code yX2_difference cX2_difference 5 (some .long), Cond.methodLink RX3 39 yX1_init, Cond.instanceMethod yX1_init, Cond.code yX1_init cX1_init 2 none, Cond.methodLink RX1 3 objectInit, Cond.fieldLink RX1 9 "PairingDesk$Pairing" "curve" "LPairingDesk$Curve;", Cond.fieldLink RX1 15 "PairingDesk$Curve" "p" "J", Cond.fieldLink RX1 21 "PairingDesk$Pairing" "p" "J", Cond.fieldLink RX1 22 "PairingDesk$Curve" "\x72" "J", Cond.fieldLink RX1 25 "PairingDesk$Pairing" "\x72" "J", Cond.methodLink RL 17 yX4_field]
def wsL_law_r7 : List Cond := [Cond.instanceMethod yX4_field, Cond.selects RX4 yX4_field yX4_field, Cond.code yX4_field cX4_field 6 (some .int), Cond.fieldLink RX4 28 "PairingDeskModel" "p" "J", Cond.fieldLink RX4 48 "PairingDeskModel" "\x72" "J", Cond.fieldLink RX4 51 "PairingDeskModel" "h" "J", Cond.methodLink RX4 44 yX4_isPrime, Cond.static yX4_isPrime, Cond.code yX4_isPrime cX4_isPrime 4 (some .boolean), Cond.constantLong RX4 26 (2), Cond.methodLink RL 18 yX3_told, Cond.instanceMethod yX3_told, Cond.selects RX3 yX3_told yX3_told, Cond.code yX3_told cX3_told 2 (some .int), Cond.fieldLink RX3 50 "PairingDesk$Curve" "p" "J", Cond.fieldLink RX3 53 "PairingDesk$Curve" "\x72" "J", Cond.methodLink RL 22 yX4_told, Cond.instanceMethod yX4_told, Cond.selects RX4 yX4_told yX4_told, Cond.code yX4_told cX4_told 2 (some .int), Cond.methodLink RX4 54 yX4_in, Cond.static yX4_in, Cond.code yX4_in cX4_in 6 (some .boolean), Cond.methodLink RL 23 yX3_root]
def wsL_law_r8 : List Cond := [Cond.instanceMethod yX3_root, Cond.selects RX3 yX3_root yX3_root, Cond.code yX3_root cX3_root 2 (some .int), Cond.fieldLink RX3 56 "PairingDesk$Curve" "field" "LPairingDesk$PrimeField;", Cond.methodLink RX3 60 yX2_has, Cond.instanceMethod yX2_has, Cond.selects RX2 yX2_has yX2_has, Cond.code yX2_has cX2_has 2 (some .boolean), Cond.methodLink RX3 64 yX2_evenRoot, Cond.methodLink RL 26 yX4_root, Cond.instanceMethod yX4_root, Cond.selects RX4 yX4_root yX4_root, Cond.code yX4_root cX4_root 2 (some .int), Cond.methodLink RX4 58 yX4_rootOf, Cond.instanceMethod yX4_rootOf, Cond.selects RX4 yX4_rootOf yX4_rootOf, Cond.code yX4_rootOf cX4_rootOf 5 (some .long), Cond.constantLong RX4 40 (4), Cond.constantLong RX4 42 (-1), Cond.methodLink RX4 36 yX4_raised, Cond.instanceMethod yX4_raised, Cond.selects RX4 yX4_raised yX4_raised, Cond.code yX4_raised cX4_raised 11 (some .long), Cond.methodLink RX4 32 yX4_fit]
def wsL_law_r9 : List Cond := [Cond.instanceMethod yX4_fit, Cond.selects RX4 yX4_fit yX4_fit, Cond.code yX4_fit cX4_fit 5 (some .long), Cond.methodLink RL 27 yX3_point, Cond.instanceMethod yX3_point, Cond.selects RX3 yX3_point yX3_point, Cond.code yX3_point cX3_point 4 (some .int), Cond.methodLink RX3 68 yX3_isSlot, Cond.static yX3_isSlot, Cond.code yX3_isSlot cX3_isSlot 1 (some .boolean), Cond.methodLink RX3 71 yX0_passes, Cond.instanceMethod yX0_passes, Cond.selects RX0 yX0_passes yX0_passes, Cond.code yX0_passes cX0_passes 5 (some .boolean), Cond.methodLink RX3 75 yX3_joined, Cond.methodLink RL 31 yX4_point, Cond.instanceMethod yX4_point, Cond.selects RX4 yX4_point yX4_point, Cond.code yX4_point cX4_point 4 (some .int), Cond.fieldLink RX4 61 "PairingDeskModel" "x" "J", Cond.fieldLink RX4 64 "PairingDeskModel" "y" "J", Cond.fieldLink RX4 67 "PairingDeskModel" "is" "Z", Cond.methodLink RX4 86 yX4_isSlot, Cond.static yX4_isSlot]
def wsL_law_r10 : List Cond := [Cond.code yX4_isSlot cX4_isSlot 1 (some .boolean), Cond.constantLong RX4 84 (15), Cond.methodLink RX4 90 yX4_curve, Cond.instanceMethod yX4_curve, Cond.selects RX4 yX4_curve yX4_curve, Cond.code yX4_curve cX4_curve 3 (some .long), Cond.methodLink RX4 93 yX4_store, Cond.instanceMethod yX4_store, Cond.selects RX4 yX4_store yX4_store, Cond.code yX4_store cX4_store 2 none, Cond.methodLink RL 32 yX3_nowhere, Cond.instanceMethod yX3_nowhere, Cond.selects RX3 yX3_nowhere yX3_nowhere, Cond.code yX3_nowhere cX3_nowhere 2 (some .int), Cond.methodLink RL 35 yX4_nowhere, Cond.instanceMethod yX4_nowhere, Cond.selects RX4 yX4_nowhere yX4_nowhere, Cond.code yX4_nowhere cX4_nowhere 2 (some .int), Cond.methodLink RL 38 yX3_turn, Cond.instanceMethod yX3_turn, Cond.selects RX3 yX3_turn yX3_turn, Cond.code yX3_turn cX3_turn 4 (some .int), Cond.fieldLink RX3 84 "PairingDesk$Curve" "tried" "I", Cond.methodLink RX3 81 yX0_turned]
def wsL_law_r11 : List Cond := [Cond.methodLink RL 42 yX4_turn, Cond.instanceMethod yX4_turn, Cond.selects RX4 yX4_turn yX4_turn, Cond.code yX4_turn cX4_turn 5 (some .int), Cond.methodLink RX4 101 yX4_turnOf, Cond.instanceMethod yX4_turnOf, Cond.selects RX4 yX4_turnOf yX4_turnOf, Cond.code yX4_turnOf cX4_turnOf 10 (some .int), Cond.methodLink RX4 97 yX4_take, Cond.instanceMethod yX4_take, Cond.selects RX4 yX4_take yX4_take, Cond.code yX4_take cX4_take 9 none, Cond.methodLink RX4 80 yX4_plus, Cond.instanceMethod yX4_plus, Cond.selects RX4 yX4_plus yX4_plus, Cond.code yX4_plus cX4_plus 10 none, Cond.methodLink RX4 76 yX4_slope, Cond.instanceMethod yX4_slope, Cond.selects RX4 yX4_slope yX4_slope, Cond.code yX4_slope cX4_slope 9 (some .long), Cond.constantLong RX4 71 (3), Cond.methodLink RX4 73 yX4_turned, Cond.instanceMethod yX4_turned, Cond.selects RX4 yX4_turned yX4_turned]
def wsL_law_r12 : List Cond := [Cond.code yX4_turned cX4_turned 3 (some .long), Cond.methodLink RL 43 yX3_add, Cond.instanceMethod yX3_add, Cond.selects RX3 yX3_add yX3_add, Cond.code yX3_add cX3_add 4 (some .int), Cond.methodLink RX3 88 yX0_sum, Cond.methodLink RL 46 yX4_add, Cond.instanceMethod yX4_add, Cond.selects RX4 yX4_add yX4_add, Cond.code yX4_add cX4_add 4 (some .int), Cond.methodLink RX4 105 yX4_load, Cond.instanceMethod yX4_load, Cond.selects RX4 yX4_load yX4_load, Cond.code yX4_load cX4_load 2 none, Cond.methodLink RL 47 yX3_times, Cond.instanceMethod yX3_times, Cond.selects RX3 yX3_times yX3_times, Cond.code yX3_times cX3_times 5 (some .int), Cond.methodLink RX3 91 yX0_multiple, Cond.methodLink RL 51 yX4_times, Cond.instanceMethod yX4_times, Cond.selects RX4 yX4_times yX4_times, Cond.code yX4_times cX4_times 5 (some .int), Cond.methodLink RL 52 yX3_at]
def wsL_law_r13 : List Cond := [Cond.instanceMethod yX3_at, Cond.selects RX3 yX3_at yX3_at, Cond.code yX3_at cX3_at 3 (some .int), Cond.methodLink RX3 94 yX3_isHalf, Cond.static yX3_isHalf, Cond.code yX3_isHalf cX3_isHalf 1 (some .boolean), Cond.methodLink RX3 97 yX3_half, Cond.static yX3_half, Cond.code yX3_half cX3_half 3 (some .int), Cond.methodLink RX3 150 yX3_upper, Cond.methodLink RX3 153 yX3_lower, Cond.methodLink RL 55 yX4_at, Cond.instanceMethod yX4_at, Cond.selects RX4 yX4_at yX4_at, Cond.code yX4_at cX4_at 3 (some .int), Cond.methodLink RL 56 yX3_order, Cond.instanceMethod yX3_order, Cond.selects RX3 yX3_order yX3_order, Cond.code yX3_order cX3_order 2 (some .int), Cond.methodLink RX3 101 yX0_orderOf, Cond.instanceMethod yX0_orderOf, Cond.selects RX0 yX0_orderOf yX0_orderOf, Cond.code yX0_orderOf cX0_orderOf 10 (some .long), Cond.methodLink RX0 78 yX0_orderWithout]
def wsL_law_r14 : List Cond := [Cond.instanceMethod yX0_orderWithout, Cond.selects RX0 yX0_orderWithout yX0_orderWithout, Cond.code yX0_orderWithout cX0_orderWithout 7 (some .long), Cond.methodLink RL 59 yX4_order, Cond.instanceMethod yX4_order, Cond.selects RX4 yX4_order yX4_order, Cond.code yX4_order cX4_order 10 (some .int), Cond.methodLink RL 60 yX3_write, Cond.instanceMethod yX3_write, Cond.selects RX3 yX3_write yX3_write, Cond.code yX3_write cX3_write 2 (some .long), Cond.constantLong RX3 104 (-3), Cond.constantLong RX3 106 (-2), Cond.methodLink RX3 108 yX3_written, Cond.static yX3_written, Cond.code yX3_written cX3_written 2 (some .long), Cond.methodLink RL 64 yX4_write, Cond.instanceMethod yX4_write, Cond.selects RX4 yX4_write yX4_write, Cond.code yX4_write cX4_write 2 (some .long), Cond.constantLong RX4 108 (-3), Cond.constantLong RX4 114 (-2), Cond.methodLink RX4 110 yX4_written, Cond.instanceMethod yX4_written]
def wsL_law_r15 : List Cond := [Cond.selects RX4 yX4_written yX4_written, Cond.code yX4_written cX4_written 2 (some .long), Cond.methodLink RL 65 yX3_read, Cond.instanceMethod yX3_read, Cond.selects RX3 yX3_read yX3_read, Cond.code yX3_read cX3_read 6 (some .int), Cond.methodLink RX3 111 yX0_pointWritten, Cond.instanceMethod yX0_pointWritten, Cond.selects RX0 yX0_pointWritten yX0_pointWritten, Cond.code yX0_pointWritten cX0_pointWritten 7 (some .long), Cond.constantLong RX0 95 (-2), Cond.methodLink RL 68 yX4_read, Cond.instanceMethod yX4_read, Cond.selects RX4 yX4_read yX4_read, Cond.code yX4_read cX4_read 7 (some .int), Cond.methodLink RL 69 yX3_pair, Cond.instanceMethod yX3_pair, Cond.selects RX3 yX3_pair yX3_pair, Cond.code yX3_pair cX3_pair 4 (some .int), Cond.methodLink RX3 114 yX3_isValue, Cond.static yX3_isValue, Cond.code yX3_isValue cX3_isValue 1 (some .boolean), Cond.methodLink RX3 117 yX1_takes, Cond.instanceMethod yX1_takes]
def wsL_law_r16 : List Cond := [Cond.selects RX1 yX1_takes yX1_takes, Cond.code yX1_takes cX1_takes 3 (some .boolean), Cond.constantLong RX1 30 (-1), Cond.methodLink RX1 26 yX0_multiple, Cond.methodLink RX3 121 yX1_of, Cond.instanceMethod yX1_of, Cond.selects RX1 yX1_of yX1_of, Cond.code yX1_of cX1_of 10 (some .long), Cond.constantLong RX1 47 (2147483648), Cond.methodLink RX1 60 yX1_bitsBehindHighest, Cond.instanceMethod yX1_bitsBehindHighest, Cond.selects RX1 yX1_bitsBehindHighest yX1_bitsBehindHighest, Cond.code yX1_bitsBehindHighest cX1_bitsBehindHighest 1 (some .int), Cond.methodLink RX1 54 yJ13_numberOfLeadingZeros_95d88, Cond.static yJ13_numberOfLeadingZeros_95d88, Cond.initialized RJ13, Cond.code yJ13_numberOfLeadingZeros_95d88 cJ13_numberOfLeadingZeros_95d88 3 (some .int), Cond.methodLink RJ13 308 yJ6_numberOfLeadingZeros_0f7a4, Cond.static yJ6_numberOfLeadingZeros_0f7a4, Cond.initialized RJ6, Cond.code yJ6_numberOfLeadingZeros_0f7a4 cJ6_numberOfLeadingZeros_0f7a4 2 (some .int), Cond.constant RJ6 264 (65536), Cond.methodLink RX1 51 yX1_product, Cond.instanceMethod yX1_product]
def wsL_law_r17 : List Cond := [Cond.selects RX1 yX1_product yX1_product, Cond.code yX1_product cX1_product 9 (some .long), Cond.methodLink RX1 39 yJ9_floorMod_f86c9, Cond.methodLink RX1 67 yX1_line, Cond.instanceMethod yX1_line, Cond.selects RX1 yX1_line yX1_line, Cond.code yX1_line cX1_line 11 (some .long), Cond.fieldLink RX1 77 "PairingDesk$Curve" "field" "LPairingDesk$PrimeField;", Cond.methodLink RX1 81 yX2_difference, Cond.methodLink RX1 86 yX0_areOpposite, Cond.methodLink RX1 90 yX0_slope, Cond.methodLink RX1 93 yX2_product, Cond.methodLink RX1 71 yX0_sum, Cond.methodLink RX1 74 yX1_raised, Cond.instanceMethod yX1_raised, Cond.selects RX1 yX1_raised yX1_raised, Cond.code yX1_raised cX1_raised 11 (some .long), Cond.constantLong RX1 49 (2), Cond.methodLink RX3 124 yX1_linesOf, Cond.instanceMethod yX1_linesOf, Cond.selects RX1 yX1_linesOf yX1_linesOf, Cond.code yX1_linesOf cX1_linesOf 5 (some .int), Cond.methodLink RX1 64 yJ13_bitCount_95d88, Cond.static yJ13_bitCount_95d88]
def wsL_law_r18 : List Cond := [Cond.code yJ13_bitCount_95d88 cJ13_bitCount_95d88 2 (some .int), Cond.constantLong RJ13 314 (6148914691236517205), Cond.constantLong RJ13 316 (3689348814741910323), Cond.constantLong RJ13 318 (1085102592571150095), Cond.methodLink RL 72 yX4_pair, Cond.instanceMethod yX4_pair, Cond.selects RX4 yX4_pair yX4_pair, Cond.code yX4_pair cX4_pair 4 (some .int), Cond.fieldLink RX4 116 "PairingDeskModel" "u" "J", Cond.fieldLink RX4 119 "PairingDeskModel" "v" "J", Cond.fieldLink RX4 126 "PairingDeskModel" "lines" "I", Cond.methodLink RX4 139 yX4_isValue, Cond.static yX4_isValue, Cond.code yX4_isValue cX4_isValue 1 (some .boolean), Cond.constantLong RX4 137 (7), Cond.methodLink RX4 142 yX4_isOfR, Cond.instanceMethod yX4_isOfR, Cond.selects RX4 yX4_isOfR yX4_isOfR, Cond.code yX4_isOfR cX4_isOfR 2 (some .boolean), Cond.methodLink RX4 145 yX4_pairOf, Cond.instanceMethod yX4_pairOf, Cond.selects RX4 yX4_pairOf yX4_pairOf, Cond.code yX4_pairOf cX4_pairOf 12 none, Cond.methodLink RX4 122 yX4_multiply2]
def wsL_law_r19 : List Cond := [Cond.instanceMethod yX4_multiply2, Cond.selects RX4 yX4_multiply2 yX4_multiply2, Cond.code yX4_multiply2 cX4_multiply2 7 none, Cond.methodLink RX4 130 yX4_line, Cond.instanceMethod yX4_line, Cond.selects RX4 yX4_line yX4_line, Cond.code yX4_line cX4_line 13 none, Cond.methodLink RX4 134 yX4_power2, Cond.instanceMethod yX4_power2, Cond.selects RX4 yX4_power2 yX4_power2, Cond.code yX4_power2 cX4_power2 8 none, Cond.methodLink RL 73 yX3_multiply, Cond.instanceMethod yX3_multiply, Cond.selects RX3 yX3_multiply yX3_multiply, Cond.code yX3_multiply cX3_multiply 4 (some .int), Cond.methodLink RX3 128 yX1_product, Cond.methodLink RL 76 yX4_multiply, Cond.instanceMethod yX4_multiply, Cond.selects RX4 yX4_multiply yX4_multiply, Cond.code yX4_multiply cX4_multiply 4 (some .int), Cond.methodLink RX4 149 yX4_keepValue, Cond.instanceMethod yX4_keepValue, Cond.selects RX4 yX4_keepValue yX4_keepValue, Cond.code yX4_keepValue cX4_keepValue 2 (some .int)]
def wsL_law_r20 : List Cond := [Cond.methodLink RL 77 yX3_power, Cond.instanceMethod yX3_power, Cond.selects RX3 yX3_power yX3_power, Cond.code yX3_power cX3_power 5 (some .int), Cond.methodLink RX3 133 yX1_raised, Cond.methodLink RL 80 yX4_power, Cond.instanceMethod yX4_power, Cond.selects RX4 yX4_power yX4_power, Cond.code yX4_power cX4_power 5 (some .int), Cond.methodLink RL 81 yX3_value, Cond.instanceMethod yX3_value, Cond.selects RX3 yX3_value yX3_value, Cond.code yX3_value cX3_value 3 (some .int), Cond.methodLink RL 84 yX4_value, Cond.instanceMethod yX4_value, Cond.selects RX4 yX4_value yX4_value, Cond.code yX4_value cX4_value 3 (some .int), Cond.methodLink RL 85 yX3_open, Cond.instanceMethod yX3_open, Cond.selects RX3 yX3_open yX3_open, Cond.code yX3_open cX3_open 3 (some .int), Cond.fieldLink RX3 139 "PairingDesk$Curve" "base" "J", Cond.methodLink RX3 136 yX0_isKey, Cond.instanceMethod yX0_isKey]
def wsL_law_r21 : List Cond := [Cond.selects RX0 yX0_isKey yX0_isKey, Cond.code yX0_isKey cX0_isKey 2 (some .boolean), Cond.methodLink RL 88 yX4_open, Cond.instanceMethod yX4_open, Cond.selects RX4 yX4_open yX4_open, Cond.code yX4_open cX4_open 4 (some .int), Cond.methodLink RL 89 yX3_sign, Cond.instanceMethod yX3_sign, Cond.selects RX3 yX3_sign yX3_sign, Cond.code yX3_sign cX3_sign 5 (some .int), Cond.methodLink RL 92 yX4_sign, Cond.instanceMethod yX4_sign, Cond.selects RX4 yX4_sign yX4_sign, Cond.code yX4_sign cX4_sign 6 (some .int), Cond.methodLink RL 93 yX3_holds, Cond.instanceMethod yX3_holds, Cond.selects RX3 yX3_holds yX3_holds, Cond.code yX3_holds cX3_holds 5 (some .int), Cond.methodLink RX3 142 yX1_agree, Cond.instanceMethod yX1_agree, Cond.selects RX1 yX1_agree yX1_agree, Cond.code yX1_agree cX1_agree 11 (some .boolean), Cond.fieldLink RX1 108 "PairingDesk$Curve" "base" "J", Cond.methodLink RX1 94 yX1_takes]
def wsL_law_r22 : List Cond := [Cond.methodLink RX1 98 yX1_takeAll, Cond.instanceMethod yX1_takeAll, Cond.selects RX1 yX1_takeAll yX1_takeAll, Cond.code yX1_takeAll cX1_takeAll 5 (some .boolean), Cond.methodLink RX1 102 yX0_turned, Cond.methodLink RX1 105 yX1_of, Cond.methodLink RL 97 yX4_holds, Cond.instanceMethod yX4_holds, Cond.selects RX4 yX4_holds yX4_holds, Cond.code yX4_holds cX4_holds 9 (some .int), Cond.methodLink RX4 153 yX4_pairWithBase, Cond.instanceMethod yX4_pairWithBase, Cond.selects RX4 yX4_pairWithBase yX4_pairWithBase, Cond.code yX4_pairWithBase cX4_pairWithBase 3 none, Cond.methodLink RX4 156 yX4_pairTurned, Cond.instanceMethod yX4_pairTurned, Cond.selects RX4 yX4_pairTurned yX4_pairTurned, Cond.code yX4_pairTurned cX4_pairTurned 5 none, Cond.methodLink RL 98 yX3_holdsAll, Cond.instanceMethod yX3_holdsAll, Cond.selects RX3 yX3_holdsAll yX3_holdsAll, Cond.code yX3_holdsAll cX3_holdsAll 6 (some .int), Cond.methodLink RL 102 yX4_holdsAll, Cond.instanceMethod yX4_holdsAll]
def wsL_law_r23 : List Cond := [Cond.selects RX4 yX4_holdsAll yX4_holdsAll, Cond.code yX4_holdsAll cX4_holdsAll 12 (some .int), Cond.constantLong RX4 160 (8), Cond.methodLink RL 103 yX3_digest, Cond.instanceMethod yX3_digest, Cond.selects RX3 yX3_digest yX3_digest, Cond.code yX3_digest cX3_digest 4 (some .long), Cond.constantLong RX3 146 (17), Cond.constantLong RX3 148 (31), Cond.methodLink RL 107 yX4_digest, Cond.instanceMethod yX4_digest, Cond.selects RX4 yX4_digest yX4_digest, Cond.code yX4_digest cX4_digest 4 (some .long), Cond.constantLong RX4 162 (17), Cond.constantLong RX4 164 (31)]
def wsL_law : List Cond := (wsL_law_r1 ++ (wsL_law_r2 ++ (wsL_law_r3 ++ (wsL_law_r4 ++ (wsL_law_r5 ++ (wsL_law_r6 ++ (wsL_law_r7 ++ (wsL_law_r8 ++ (wsL_law_r9 ++ (wsL_law_r10 ++ (wsL_law_r11 ++ (wsL_law_r12 ++ (wsL_law_r13 ++ (wsL_law_r14 ++ (wsL_law_r15 ++ (wsL_law_r16 ++ (wsL_law_r17 ++ (wsL_law_r18 ++ (wsL_law_r19 ++ (wsL_law_r20 ++ (wsL_law_r21 ++ (wsL_law_r22 ++ wsL_law_r23)))))))))))))))))))))) ++ wsX30 ++ wsX40 ++ wsX00 ++ wsX20 ++ wsX10 ++ ([] : List Cond)
abbrev vwCl : List vw_C := [(RX0, TX0, 6), (RX1, TX1, 3), (RX2, TX2, 1), (RX3, TX3, 4), (RX4, TX4, 14)]
end
section
set_option maxRecDepth 20000 in
theorem ggX0_init_X0_turned : GoodIn wsX0_init wsX0_turned := goodIn_r _ [14, 15, 4, 8, 16, 6, 17, 18, 19, 13, 20, 21, 22, 23, 24, 25, 26, 27, 28, 29, 30, 31, 32, 33, 34, 35, 36, 37, 38, 39, 40, 41, 42, 43, 44, 45, 46, 47, 48, 49, 50, 51, 52, 53, 54, 55, 56, 57, 58, 59, 60, 61, 62, 63, 64, 65, 66, 67, 68, 69, 70, 71, 72, 73, 74, 75, 76, 77, 78, 79, 80, 81, 82, 83] (by decide +kernel) (by decide +kernel)
set_option maxRecDepth 20000 in
theorem gX0_init_X0_turned : GoodIn wsX0_init (wsV RX0 28 RX0 yX0_turned wsX0_turned) := goodIn_app (goodIn_of _ (by decide +kernel)) ggX0_init_X0_turned
theorem dX0_init_0 : decode cX0_init 0 = .ok (.aload_n 0, 1) := by decide +kernel
theorem dX0_init_1 : decode cX0_init 1 = .ok (.invokespecial 3, 3) := by decide +kernel
theorem dX0_init_4 : decode cX0_init 4 = .ok (.aload_n 0, 1) := by decide +kernel
theorem dX0_init_5 : decode cX0_init 5 = .ok (.aload_n 1, 1) := by decide +kernel
theorem dX0_init_6 : decode cX0_init 6 = .ok (.putfield 9, 3) := by decide +kernel
theorem dX0_init_9 : decode cX0_init 9 = .ok (.aload_n 0, 1) := by decide +kernel
theorem dX0_init_10 : decode cX0_init 10 = .ok (.aload_n 1, 1) := by decide +kernel
theorem dX0_init_11 : decode cX0_init 11 = .ok (.getfield 15, 3) := by decide +kernel
theorem dX0_init_14 : decode cX0_init 14 = .ok (.putfield 21, 3) := by decide +kernel
theorem dX0_init_17 : decode cX0_init 17 = .ok (.aload_n 0, 1) := by decide +kernel
theorem dX0_init_18 : decode cX0_init 18 = .ok (.lload_n 2, 1) := by decide +kernel
theorem dX0_init_19 : decode cX0_init 19 = .ok (.putfield 22, 3) := by decide +kernel
theorem dX0_init_22 : decode cX0_init 22 = .ok (.aload_n 0, 1) := by decide +kernel
theorem dX0_init_23 : decode cX0_init 23 = .ok (.aload_n 1, 1) := by decide +kernel
theorem dX0_init_24 : decode cX0_init 24 = .ok (.getfield 15, 3) := by decide +kernel
theorem dX0_init_27 : decode cX0_init 27 = .ok (.lconst 1, 1) := by decide +kernel
theorem dX0_init_28 : decode cX0_init 28 = .ok (.ladd, 1) := by decide +kernel
theorem dX0_init_29 : decode cX0_init 29 = .ok (.lload_n 2, 1) := by decide +kernel
theorem dX0_init_30 : decode cX0_init 30 = .ok (.ldiv, 1) := by decide +kernel
theorem dX0_init_31 : decode cX0_init 31 = .ok (.putfield 25, 3) := by decide +kernel
theorem dX0_init_34 : decode cX0_init 34 = .ok (.aload_n 0, 1) := by decide +kernel
theorem dX0_init_35 : decode cX0_init 35 = .ok (.aload_n 0, 1) := by decide +kernel
theorem dX0_init_36 : decode cX0_init 36 = .ok (.lconst 1, 1) := by decide +kernel
theorem dX0_init_37 : decode cX0_init 37 = .ok (.invokevirtual 28, 3) := by decide +kernel
theorem dX0_init_40 : decode cX0_init 40 = .ok (.putfield 32, 3) := by decide +kernel
theorem dX0_init_43 : decode cX0_init 43 = .ok (.return_, 1) := by decide +kernel
theorem dX0_isKey_0 : decode cX0_isKey 0 = .ok (.iload_n 1, 1) := by decide +kernel
theorem dX0_isKey_1 : decode cX0_isKey 1 = .ok (.iconst 1, 1) := by decide +kernel
theorem dX0_isKey_2 : decode cX0_isKey 2 = .ok (.if_icmp .lt 17, 3) := by decide +kernel
theorem dX0_isKey_5 : decode cX0_isKey 5 = .ok (.iload_n 1, 1) := by decide +kernel
theorem dX0_isKey_6 : decode cX0_isKey 6 = .ok (.i2l, 1) := by decide +kernel
theorem dX0_isKey_7 : decode cX0_isKey 7 = .ok (.aload_n 0, 1) := by decide +kernel
theorem dX0_isKey_8 : decode cX0_isKey 8 = .ok (.getfield 22, 3) := by decide +kernel
theorem dX0_isKey_11 : decode cX0_isKey 11 = .ok (.lcmp, 1) := by decide +kernel
theorem dX0_isKey_12 : decode cX0_isKey 12 = .ok (.ifCond .ge 7, 3) := by decide +kernel
theorem dX0_isKey_15 : decode cX0_isKey 15 = .ok (.iconst 1, 1) := by decide +kernel
theorem dX0_isKey_16 : decode cX0_isKey 16 = .ok (.goto 4, 3) := by decide +kernel
theorem dX0_isKey_19 : decode cX0_isKey 19 = .ok (.iconst 0, 1) := by decide +kernel
theorem dX0_isKey_20 : decode cX0_isKey 20 = .ok (.ireturn, 1) := by decide +kernel
set_option maxRecDepth 20000 in
theorem ggX0_squareOfY_X2_product : GoodIn wsX0_squareOfY wsX2_product := goodIn_r _ [7, 8, 15] (by decide +kernel) (by decide +kernel)
set_option maxRecDepth 20000 in
theorem gX0_squareOfY_X2_product : GoodIn wsX0_squareOfY (wsV RX0 35 RX2 yX2_product wsX2_product) := goodIn_app (goodIn_of _ (by decide +kernel)) ggX0_squareOfY_X2_product
theorem dX0_squareOfY_0 : decode cX0_squareOfY 0 = .ok (.aload_n 0, 1) := by decide +kernel
theorem dX0_squareOfY_1 : decode cX0_squareOfY 1 = .ok (.getfield 9, 3) := by decide +kernel
theorem dX0_squareOfY_4 : decode cX0_squareOfY 4 = .ok (.aload_n 0, 1) := by decide +kernel
theorem dX0_squareOfY_5 : decode cX0_squareOfY 5 = .ok (.getfield 9, 3) := by decide +kernel
theorem dX0_squareOfY_8 : decode cX0_squareOfY 8 = .ok (.lload_n 1, 1) := by decide +kernel
theorem dX0_squareOfY_9 : decode cX0_squareOfY 9 = .ok (.lload_n 1, 1) := by decide +kernel
theorem dX0_squareOfY_10 : decode cX0_squareOfY 10 = .ok (.invokevirtual 35, 3) := by decide +kernel
theorem dX0_squareOfY_13 : decode cX0_squareOfY 13 = .ok (.lload_n 1, 1) := by decide +kernel
theorem dX0_squareOfY_14 : decode cX0_squareOfY 14 = .ok (.invokevirtual 35, 3) := by decide +kernel
theorem dX0_squareOfY_17 : decode cX0_squareOfY 17 = .ok (.lload_n 1, 1) := by decide +kernel
theorem dX0_squareOfY_18 : decode cX0_squareOfY 18 = .ok (.ladd, 1) := by decide +kernel
theorem dX0_squareOfY_19 : decode cX0_squareOfY 19 = .ok (.aload_n 0, 1) := by decide +kernel
theorem dX0_squareOfY_20 : decode cX0_squareOfY 20 = .ok (.getfield 21, 3) := by decide +kernel
theorem dX0_squareOfY_23 : decode cX0_squareOfY 23 = .ok (.lrem, 1) := by decide +kernel
theorem dX0_squareOfY_24 : decode cX0_squareOfY 24 = .ok (.lreturn, 1) := by decide +kernel
set_option maxRecDepth 20000 in
theorem ggX0_passes_X2_product : GoodIn wsX0_passes wsX2_product := goodIn_r _ [6, 7, 20] (by decide +kernel) (by decide +kernel)
set_option maxRecDepth 20000 in
theorem gX0_passes_X2_product : GoodIn wsX0_passes (wsV RX0 35 RX2 yX2_product wsX2_product) := goodIn_app (goodIn_of _ (by decide +kernel)) ggX0_passes_X2_product
set_option maxRecDepth 20000 in
theorem ggX0_passes_X0_squareOfY : GoodIn wsX0_passes wsX0_squareOfY := goodIn_r _ [12, 1, 13, 2, 3, 4, 5, 6, 7, 14, 15, 16, 17, 18, 19, 20] (by decide +kernel) (by decide +kernel)
set_option maxRecDepth 20000 in
theorem gX0_passes_X0_squareOfY : GoodIn wsX0_passes (wsV RX0 39 RX0 yX0_squareOfY wsX0_squareOfY) := goodIn_app (goodIn_of _ (by decide +kernel)) ggX0_passes_X0_squareOfY
theorem dX0_passes_0 : decode cX0_passes 0 = .ok (.aload_n 0, 1) := by decide +kernel
theorem dX0_passes_1 : decode cX0_passes 1 = .ok (.getfield 9, 3) := by decide +kernel
theorem dX0_passes_4 : decode cX0_passes 4 = .ok (.lload_n 3, 1) := by decide +kernel
theorem dX0_passes_5 : decode cX0_passes 5 = .ok (.lload_n 3, 1) := by decide +kernel
theorem dX0_passes_6 : decode cX0_passes 6 = .ok (.invokevirtual 35, 3) := by decide +kernel
theorem dX0_passes_9 : decode cX0_passes 9 = .ok (.aload_n 0, 1) := by decide +kernel
theorem dX0_passes_10 : decode cX0_passes 10 = .ok (.lload_n 1, 1) := by decide +kernel
theorem dX0_passes_11 : decode cX0_passes 11 = .ok (.invokevirtual 39, 3) := by decide +kernel
theorem dX0_passes_14 : decode cX0_passes 14 = .ok (.lcmp, 1) := by decide +kernel
theorem dX0_passes_15 : decode cX0_passes 15 = .ok (.ifCond .ne 7, 3) := by decide +kernel
theorem dX0_passes_18 : decode cX0_passes 18 = .ok (.iconst 1, 1) := by decide +kernel
theorem dX0_passes_19 : decode cX0_passes 19 = .ok (.goto 4, 3) := by decide +kernel
theorem dX0_passes_22 : decode cX0_passes 22 = .ok (.iconst 0, 1) := by decide +kernel
theorem dX0_passes_23 : decode cX0_passes 23 = .ok (.ireturn, 1) := by decide +kernel
set_option maxRecDepth 20000 in
theorem ggX0_areOpposite_X3_upper : GoodIn wsX0_areOpposite wsX3_upper := goodIn_r _ [4] (by decide +kernel) (by decide +kernel)
set_option maxRecDepth 20000 in
theorem gX0_areOpposite_X3_upper_n42 : GoodIn wsX0_areOpposite (wsX3_upper) := ggX0_areOpposite_X3_upper
set_option maxRecDepth 20000 in
theorem ggX0_areOpposite_X3_lower : GoodIn wsX0_areOpposite wsX3_lower := goodIn_r _ [6, 7] (by decide +kernel) (by decide +kernel)
set_option maxRecDepth 20000 in
theorem gX0_areOpposite_X3_lower_n45 : GoodIn wsX0_areOpposite (wsX3_lower) := ggX0_areOpposite_X3_lower
theorem dX0_areOpposite_0 : decode cX0_areOpposite 0 = .ok (.lload_n 1, 1) := by decide +kernel
theorem dX0_areOpposite_1 : decode cX0_areOpposite 1 = .ok (.invokestatic 42, 3) := by decide +kernel
theorem dX0_areOpposite_4 : decode cX0_areOpposite 4 = .ok (.lload_n 3, 1) := by decide +kernel
theorem dX0_areOpposite_5 : decode cX0_areOpposite 5 = .ok (.invokestatic 42, 3) := by decide +kernel
theorem dX0_areOpposite_8 : decode cX0_areOpposite 8 = .ok (.lcmp, 1) := by decide +kernel
theorem dX0_areOpposite_9 : decode cX0_areOpposite 9 = .ok (.ifCond .ne 26, 3) := by decide +kernel
theorem dX0_areOpposite_12 : decode cX0_areOpposite 12 = .ok (.lload_n 1, 1) := by decide +kernel
theorem dX0_areOpposite_13 : decode cX0_areOpposite 13 = .ok (.invokestatic 45, 3) := by decide +kernel
theorem dX0_areOpposite_16 : decode cX0_areOpposite 16 = .ok (.lload_n 3, 1) := by decide +kernel
theorem dX0_areOpposite_17 : decode cX0_areOpposite 17 = .ok (.invokestatic 45, 3) := by decide +kernel
theorem dX0_areOpposite_20 : decode cX0_areOpposite 20 = .ok (.ladd, 1) := by decide +kernel
theorem dX0_areOpposite_21 : decode cX0_areOpposite 21 = .ok (.aload_n 0, 1) := by decide +kernel
theorem dX0_areOpposite_22 : decode cX0_areOpposite 22 = .ok (.getfield 21, 3) := by decide +kernel
theorem dX0_areOpposite_25 : decode cX0_areOpposite 25 = .ok (.lrem, 1) := by decide +kernel
theorem dX0_areOpposite_26 : decode cX0_areOpposite 26 = .ok (.lconst 0, 1) := by decide +kernel
theorem dX0_areOpposite_27 : decode cX0_areOpposite 27 = .ok (.lcmp, 1) := by decide +kernel
theorem dX0_areOpposite_28 : decode cX0_areOpposite 28 = .ok (.ifCond .ne 7, 3) := by decide +kernel
theorem dX0_areOpposite_31 : decode cX0_areOpposite 31 = .ok (.iconst 1, 1) := by decide +kernel
theorem dX0_areOpposite_32 : decode cX0_areOpposite 32 = .ok (.goto 4, 3) := by decide +kernel
theorem dX0_areOpposite_35 : decode cX0_areOpposite 35 = .ok (.iconst 0, 1) := by decide +kernel
theorem dX0_areOpposite_36 : decode cX0_areOpposite 36 = .ok (.ireturn, 1) := by decide +kernel
set_option maxRecDepth 20000 in
theorem ggX0_slope_X3_upper : GoodIn wsX0_slope wsX3_upper := goodIn_r _ [7] (by decide +kernel) (by decide +kernel)
set_option maxRecDepth 20000 in
theorem gX0_slope_X3_upper_n42 : GoodIn wsX0_slope (wsX3_upper) := ggX0_slope_X3_upper
set_option maxRecDepth 20000 in
theorem ggX0_slope_X3_lower : GoodIn wsX0_slope wsX3_lower := goodIn_r _ [9, 10] (by decide +kernel) (by decide +kernel)
set_option maxRecDepth 20000 in
theorem gX0_slope_X3_lower_n45 : GoodIn wsX0_slope (wsX3_lower) := ggX0_slope_X3_lower
set_option maxRecDepth 20000 in
theorem ggX0_slope_X2_product : GoodIn wsX0_slope wsX2_product := goodIn_r _ [15, 16, 31] (by decide +kernel) (by decide +kernel)
set_option maxRecDepth 20000 in
theorem gX0_slope_X2_product : GoodIn wsX0_slope (wsV RX0 35 RX2 yX2_product wsX2_product) := goodIn_app (goodIn_of _ (by decide +kernel)) ggX0_slope_X2_product
set_option maxRecDepth 20000 in
theorem ggX0_slope_X2_inverse : GoodIn wsX0_slope wsX2_inverse := goodIn_r _ [20, 16, 31] (by decide +kernel) (by decide +kernel)
set_option maxRecDepth 20000 in
theorem gX0_slope_X2_inverse : GoodIn wsX0_slope (wsV RX0 52 RX2 yX2_inverse wsX2_inverse) := goodIn_app (goodIn_of _ (by decide +kernel)) ggX0_slope_X2_inverse
set_option maxRecDepth 20000 in
theorem ggX0_slope_X2_difference : GoodIn wsX0_slope wsX2_difference := goodIn_r _ [24, 16, 31] (by decide +kernel) (by decide +kernel)
set_option maxRecDepth 20000 in
theorem gX0_slope_X2_difference : GoodIn wsX0_slope (wsV RX0 55 RX2 yX2_difference wsX2_difference) := goodIn_app (goodIn_of _ (by decide +kernel)) ggX0_slope_X2_difference
theorem dX0_slope_0 : decode cX0_slope 0 = .ok (.lload_n 1, 1) := by decide +kernel
theorem dX0_slope_1 : decode cX0_slope 1 = .ok (.invokestatic 42, 3) := by decide +kernel
theorem dX0_slope_4 : decode cX0_slope 4 = .ok (.lstore 5, 2) := by decide +kernel
theorem dX0_slope_6 : decode cX0_slope 6 = .ok (.lload_n 1, 1) := by decide +kernel
theorem dX0_slope_7 : decode cX0_slope 7 = .ok (.invokestatic 45, 3) := by decide +kernel
theorem dX0_slope_10 : decode cX0_slope 10 = .ok (.lstore 7, 2) := by decide +kernel
theorem dX0_slope_12 : decode cX0_slope 12 = .ok (.lload 5, 2) := by decide +kernel
theorem dX0_slope_14 : decode cX0_slope 14 = .ok (.lload_n 3, 1) := by decide +kernel
theorem dX0_slope_15 : decode cX0_slope 15 = .ok (.invokestatic 42, 3) := by decide +kernel
theorem dX0_slope_18 : decode cX0_slope 18 = .ok (.lcmp, 1) := by decide +kernel
theorem dX0_slope_19 : decode cX0_slope 19 = .ok (.ifCond .ne 55, 3) := by decide +kernel
theorem dX0_slope_22 : decode cX0_slope 22 = .ok (.ldc2_w 48, 3) := by decide +kernel
theorem dX0_slope_25 : decode cX0_slope 25 = .ok (.aload_n 0, 1) := by decide +kernel
theorem dX0_slope_26 : decode cX0_slope 26 = .ok (.getfield 9, 3) := by decide +kernel
theorem dX0_slope_29 : decode cX0_slope 29 = .ok (.lload 5, 2) := by decide +kernel
theorem dX0_slope_31 : decode cX0_slope 31 = .ok (.lload 5, 2) := by decide +kernel
theorem dX0_slope_33 : decode cX0_slope 33 = .ok (.invokevirtual 35, 3) := by decide +kernel
theorem dX0_slope_36 : decode cX0_slope 36 = .ok (.lmul, 1) := by decide +kernel
theorem dX0_slope_37 : decode cX0_slope 37 = .ok (.lconst 1, 1) := by decide +kernel
theorem dX0_slope_38 : decode cX0_slope 38 = .ok (.ladd, 1) := by decide +kernel
theorem dX0_slope_39 : decode cX0_slope 39 = .ok (.aload_n 0, 1) := by decide +kernel
theorem dX0_slope_40 : decode cX0_slope 40 = .ok (.getfield 21, 3) := by decide +kernel
theorem dX0_slope_43 : decode cX0_slope 43 = .ok (.lrem, 1) := by decide +kernel
theorem dX0_slope_44 : decode cX0_slope 44 = .ok (.lstore 9, 2) := by decide +kernel
theorem dX0_slope_46 : decode cX0_slope 46 = .ok (.aload_n 0, 1) := by decide +kernel
theorem dX0_slope_47 : decode cX0_slope 47 = .ok (.getfield 9, 3) := by decide +kernel
theorem dX0_slope_50 : decode cX0_slope 50 = .ok (.lload 9, 2) := by decide +kernel
theorem dX0_slope_52 : decode cX0_slope 52 = .ok (.aload_n 0, 1) := by decide +kernel
theorem dX0_slope_53 : decode cX0_slope 53 = .ok (.getfield 9, 3) := by decide +kernel
theorem dX0_slope_56 : decode cX0_slope 56 = .ok (.ldc2_w 50, 3) := by decide +kernel
theorem dX0_slope_59 : decode cX0_slope 59 = .ok (.lload 7, 2) := by decide +kernel
theorem dX0_slope_61 : decode cX0_slope 61 = .ok (.lmul, 1) := by decide +kernel
theorem dX0_slope_62 : decode cX0_slope 62 = .ok (.aload_n 0, 1) := by decide +kernel
theorem dX0_slope_63 : decode cX0_slope 63 = .ok (.getfield 21, 3) := by decide +kernel
theorem dX0_slope_66 : decode cX0_slope 66 = .ok (.lrem, 1) := by decide +kernel
theorem dX0_slope_67 : decode cX0_slope 67 = .ok (.invokevirtual 52, 3) := by decide +kernel
theorem dX0_slope_70 : decode cX0_slope 70 = .ok (.invokevirtual 35, 3) := by decide +kernel
theorem dX0_slope_73 : decode cX0_slope 73 = .ok (.lreturn, 1) := by decide +kernel
theorem dX0_slope_74 : decode cX0_slope 74 = .ok (.aload_n 0, 1) := by decide +kernel
theorem dX0_slope_75 : decode cX0_slope 75 = .ok (.getfield 9, 3) := by decide +kernel
theorem dX0_slope_78 : decode cX0_slope 78 = .ok (.lload_n 3, 1) := by decide +kernel
theorem dX0_slope_79 : decode cX0_slope 79 = .ok (.invokestatic 45, 3) := by decide +kernel
theorem dX0_slope_82 : decode cX0_slope 82 = .ok (.lload 7, 2) := by decide +kernel
theorem dX0_slope_84 : decode cX0_slope 84 = .ok (.invokevirtual 55, 3) := by decide +kernel
theorem dX0_slope_87 : decode cX0_slope 87 = .ok (.lstore 9, 2) := by decide +kernel
theorem dX0_slope_89 : decode cX0_slope 89 = .ok (.aload_n 0, 1) := by decide +kernel
theorem dX0_slope_90 : decode cX0_slope 90 = .ok (.getfield 9, 3) := by decide +kernel
theorem dX0_slope_93 : decode cX0_slope 93 = .ok (.lload 9, 2) := by decide +kernel
theorem dX0_slope_95 : decode cX0_slope 95 = .ok (.aload_n 0, 1) := by decide +kernel
theorem dX0_slope_96 : decode cX0_slope 96 = .ok (.getfield 9, 3) := by decide +kernel
theorem dX0_slope_99 : decode cX0_slope 99 = .ok (.aload_n 0, 1) := by decide +kernel
theorem dX0_slope_100 : decode cX0_slope 100 = .ok (.getfield 9, 3) := by decide +kernel
theorem dX0_slope_103 : decode cX0_slope 103 = .ok (.lload_n 3, 1) := by decide +kernel
theorem dX0_slope_104 : decode cX0_slope 104 = .ok (.invokestatic 42, 3) := by decide +kernel
theorem dX0_slope_107 : decode cX0_slope 107 = .ok (.lload 5, 2) := by decide +kernel
theorem dX0_slope_109 : decode cX0_slope 109 = .ok (.invokevirtual 55, 3) := by decide +kernel
theorem dX0_slope_112 : decode cX0_slope 112 = .ok (.invokevirtual 52, 3) := by decide +kernel
theorem dX0_slope_115 : decode cX0_slope 115 = .ok (.invokevirtual 35, 3) := by decide +kernel
theorem dX0_slope_118 : decode cX0_slope 118 = .ok (.lreturn, 1) := by decide +kernel
set_option maxRecDepth 20000 in
theorem ggX0_sum_X0_areOpposite : GoodIn wsX0_sum wsX0_areOpposite := goodIn_r _ [7, 8, 9, 10, 11, 12, 13, 14, 37, 38, 39, 40, 41, 42] (by decide +kernel) (by decide +kernel)
set_option maxRecDepth 20000 in
theorem gX0_sum_X0_areOpposite : GoodIn wsX0_sum (wsV RX0 60 RX0 yX0_areOpposite wsX0_areOpposite) := goodIn_app (goodIn_of _ (by decide +kernel)) ggX0_sum_X0_areOpposite
set_option maxRecDepth 20000 in
theorem ggX0_sum_X0_slope : GoodIn wsX0_sum wsX0_slope := goodIn_r _ [18, 19, 2, 8, 20, 9, 10, 11, 12, 13, 14, 21, 22, 23, 24, 25, 26, 27, 28, 29, 30, 31, 32, 33, 34, 37, 38, 39, 40, 41, 42, 43] (by decide +kernel) (by decide +kernel)
set_option maxRecDepth 20000 in
theorem gX0_sum_X0_slope : GoodIn wsX0_sum (wsV RX0 64 RX0 yX0_slope wsX0_slope) := goodIn_app (goodIn_of _ (by decide +kernel)) ggX0_sum_X0_slope
set_option maxRecDepth 20000 in
theorem ggX0_sum_X2_product : GoodIn wsX0_sum wsX2_product := goodIn_r _ [25, 26, 43] (by decide +kernel) (by decide +kernel)
set_option maxRecDepth 20000 in
theorem gX0_sum_X2_product : GoodIn wsX0_sum (wsV RX0 35 RX2 yX2_product wsX2_product) := goodIn_app (goodIn_of _ (by decide +kernel)) ggX0_sum_X2_product
set_option maxRecDepth 20000 in
theorem ggX0_sum_X3_upper : GoodIn wsX0_sum wsX3_upper := goodIn_r _ [11] (by decide +kernel) (by decide +kernel)
set_option maxRecDepth 20000 in
theorem gX0_sum_X3_upper_n42 : GoodIn wsX0_sum (wsX3_upper) := ggX0_sum_X3_upper
set_option maxRecDepth 20000 in
theorem ggX0_sum_X2_difference : GoodIn wsX0_sum wsX2_difference := goodIn_r _ [34, 26, 43] (by decide +kernel) (by decide +kernel)
set_option maxRecDepth 20000 in
theorem gX0_sum_X2_difference : GoodIn wsX0_sum (wsV RX0 55 RX2 yX2_difference wsX2_difference) := goodIn_app (goodIn_of _ (by decide +kernel)) ggX0_sum_X2_difference
set_option maxRecDepth 20000 in
theorem ggX0_sum_X3_lower : GoodIn wsX0_sum wsX3_lower := goodIn_r _ [13, 14] (by decide +kernel) (by decide +kernel)
set_option maxRecDepth 20000 in
theorem gX0_sum_X3_lower_n45 : GoodIn wsX0_sum (wsX3_lower) := ggX0_sum_X3_lower
set_option maxRecDepth 20000 in
theorem ggX0_sum_X3_joined : GoodIn wsX0_sum wsX3_joined := goodIn_r _ [36] (by decide +kernel) (by decide +kernel)
set_option maxRecDepth 20000 in
theorem gX0_sum_X3_joined_n67 : GoodIn wsX0_sum (wsX3_joined) := ggX0_sum_X3_joined
theorem dX0_sum_0 : decode cX0_sum 0 = .ok (.lload_n 1, 1) := by decide +kernel
theorem dX0_sum_1 : decode cX0_sum 1 = .ok (.ldc2_w 58, 3) := by decide +kernel
theorem dX0_sum_4 : decode cX0_sum 4 = .ok (.lcmp, 1) := by decide +kernel
theorem dX0_sum_5 : decode cX0_sum 5 = .ok (.ifCond .ne 5, 3) := by decide +kernel
theorem dX0_sum_8 : decode cX0_sum 8 = .ok (.lload_n 3, 1) := by decide +kernel
theorem dX0_sum_9 : decode cX0_sum 9 = .ok (.lreturn, 1) := by decide +kernel
theorem dX0_sum_10 : decode cX0_sum 10 = .ok (.lload_n 3, 1) := by decide +kernel
theorem dX0_sum_11 : decode cX0_sum 11 = .ok (.ldc2_w 58, 3) := by decide +kernel
theorem dX0_sum_14 : decode cX0_sum 14 = .ok (.lcmp, 1) := by decide +kernel
theorem dX0_sum_15 : decode cX0_sum 15 = .ok (.ifCond .ne 5, 3) := by decide +kernel
theorem dX0_sum_18 : decode cX0_sum 18 = .ok (.lload_n 1, 1) := by decide +kernel
theorem dX0_sum_19 : decode cX0_sum 19 = .ok (.lreturn, 1) := by decide +kernel
theorem dX0_sum_20 : decode cX0_sum 20 = .ok (.aload_n 0, 1) := by decide +kernel
theorem dX0_sum_21 : decode cX0_sum 21 = .ok (.lload_n 1, 1) := by decide +kernel
theorem dX0_sum_22 : decode cX0_sum 22 = .ok (.lload_n 3, 1) := by decide +kernel
theorem dX0_sum_23 : decode cX0_sum 23 = .ok (.invokevirtual 60, 3) := by decide +kernel
theorem dX0_sum_26 : decode cX0_sum 26 = .ok (.ifCond .eq 7, 3) := by decide +kernel
theorem dX0_sum_29 : decode cX0_sum 29 = .ok (.ldc2_w 58, 3) := by decide +kernel
theorem dX0_sum_32 : decode cX0_sum 32 = .ok (.lreturn, 1) := by decide +kernel
theorem dX0_sum_33 : decode cX0_sum 33 = .ok (.aload_n 0, 1) := by decide +kernel
theorem dX0_sum_34 : decode cX0_sum 34 = .ok (.lload_n 1, 1) := by decide +kernel
theorem dX0_sum_35 : decode cX0_sum 35 = .ok (.lload_n 3, 1) := by decide +kernel
theorem dX0_sum_36 : decode cX0_sum 36 = .ok (.invokevirtual 64, 3) := by decide +kernel
theorem dX0_sum_39 : decode cX0_sum 39 = .ok (.lstore 5, 2) := by decide +kernel
theorem dX0_sum_41 : decode cX0_sum 41 = .ok (.aload_n 0, 1) := by decide +kernel
theorem dX0_sum_42 : decode cX0_sum 42 = .ok (.getfield 9, 3) := by decide +kernel
theorem dX0_sum_45 : decode cX0_sum 45 = .ok (.aload_n 0, 1) := by decide +kernel
theorem dX0_sum_46 : decode cX0_sum 46 = .ok (.getfield 9, 3) := by decide +kernel
theorem dX0_sum_49 : decode cX0_sum 49 = .ok (.aload_n 0, 1) := by decide +kernel
theorem dX0_sum_50 : decode cX0_sum 50 = .ok (.getfield 9, 3) := by decide +kernel
theorem dX0_sum_53 : decode cX0_sum 53 = .ok (.lload 5, 2) := by decide +kernel
theorem dX0_sum_55 : decode cX0_sum 55 = .ok (.lload 5, 2) := by decide +kernel
theorem dX0_sum_57 : decode cX0_sum 57 = .ok (.invokevirtual 35, 3) := by decide +kernel
theorem dX0_sum_60 : decode cX0_sum 60 = .ok (.lload_n 1, 1) := by decide +kernel
theorem dX0_sum_61 : decode cX0_sum 61 = .ok (.invokestatic 42, 3) := by decide +kernel
theorem dX0_sum_64 : decode cX0_sum 64 = .ok (.invokevirtual 55, 3) := by decide +kernel
theorem dX0_sum_67 : decode cX0_sum 67 = .ok (.lload_n 3, 1) := by decide +kernel
theorem dX0_sum_68 : decode cX0_sum 68 = .ok (.invokestatic 42, 3) := by decide +kernel
theorem dX0_sum_71 : decode cX0_sum 71 = .ok (.invokevirtual 55, 3) := by decide +kernel
theorem dX0_sum_74 : decode cX0_sum 74 = .ok (.lstore 7, 2) := by decide +kernel
theorem dX0_sum_76 : decode cX0_sum 76 = .ok (.aload_n 0, 1) := by decide +kernel
theorem dX0_sum_77 : decode cX0_sum 77 = .ok (.getfield 9, 3) := by decide +kernel
theorem dX0_sum_80 : decode cX0_sum 80 = .ok (.aload_n 0, 1) := by decide +kernel
theorem dX0_sum_81 : decode cX0_sum 81 = .ok (.getfield 9, 3) := by decide +kernel
theorem dX0_sum_84 : decode cX0_sum 84 = .ok (.lload 5, 2) := by decide +kernel
theorem dX0_sum_86 : decode cX0_sum 86 = .ok (.aload_n 0, 1) := by decide +kernel
theorem dX0_sum_87 : decode cX0_sum 87 = .ok (.getfield 9, 3) := by decide +kernel
theorem dX0_sum_90 : decode cX0_sum 90 = .ok (.lload_n 1, 1) := by decide +kernel
theorem dX0_sum_91 : decode cX0_sum 91 = .ok (.invokestatic 42, 3) := by decide +kernel
theorem dX0_sum_94 : decode cX0_sum 94 = .ok (.lload 7, 2) := by decide +kernel
theorem dX0_sum_96 : decode cX0_sum 96 = .ok (.invokevirtual 55, 3) := by decide +kernel
theorem dX0_sum_99 : decode cX0_sum 99 = .ok (.invokevirtual 35, 3) := by decide +kernel
theorem dX0_sum_102 : decode cX0_sum 102 = .ok (.lload_n 1, 1) := by decide +kernel
theorem dX0_sum_103 : decode cX0_sum 103 = .ok (.invokestatic 45, 3) := by decide +kernel
theorem dX0_sum_106 : decode cX0_sum 106 = .ok (.invokevirtual 55, 3) := by decide +kernel
theorem dX0_sum_109 : decode cX0_sum 109 = .ok (.lstore 9, 2) := by decide +kernel
theorem dX0_sum_111 : decode cX0_sum 111 = .ok (.lload 7, 2) := by decide +kernel
theorem dX0_sum_113 : decode cX0_sum 113 = .ok (.lload 9, 2) := by decide +kernel
theorem dX0_sum_115 : decode cX0_sum 115 = .ok (.invokestatic 67, 3) := by decide +kernel
theorem dX0_sum_118 : decode cX0_sum 118 = .ok (.lreturn, 1) := by decide +kernel
set_option maxRecDepth 20000 in
theorem ggX0_multiple_J9_floorMod_f86c9 : GoodIn wsX0_multiple wsJ9_floorMod_f86c9 := goodIn_r _ [7] (by decide +kernel) (by decide +kernel)
set_option maxRecDepth 20000 in
theorem gX0_multiple_J9_floorMod_f86c9 : GoodIn wsX0_multiple (va_wsS RX0 70 yJ9_floorMod_f86c9 wsJ9_floorMod_f86c9) := goodIn_app (goodIn_of _ (by decide +kernel)) ggX0_multiple_J9_floorMod_f86c9
set_option maxRecDepth 20000 in
theorem ggX0_multiple_X0_sum : GoodIn wsX0_multiple wsX0_sum := goodIn_r _ [12, 1, 13, 14, 15, 16, 11, 17, 2, 18, 19, 20, 21, 22, 23, 24, 25, 26, 27, 28, 3, 29, 30, 31, 32, 33, 34, 35, 36, 37, 38, 39, 40, 41, 42, 43, 44, 45, 46, 47, 48, 49, 50, 51] (by decide +kernel) (by decide +kernel)
set_option maxRecDepth 20000 in
theorem gX0_multiple_X0_sum : GoodIn wsX0_multiple (wsV RX0 75 RX0 yX0_sum wsX0_sum) := goodIn_app (goodIn_of _ (by decide +kernel)) ggX0_multiple_X0_sum
theorem dX0_multiple_0 : decode cX0_multiple 0 = .ok (.ldc2_w 58, 3) := by decide +kernel
theorem dX0_multiple_3 : decode cX0_multiple 3 = .ok (.lstore 5, 2) := by decide +kernel
theorem dX0_multiple_5 : decode cX0_multiple 5 = .ok (.lload_n 3, 1) := by decide +kernel
theorem dX0_multiple_6 : decode cX0_multiple 6 = .ok (.lstore 7, 2) := by decide +kernel
theorem dX0_multiple_8 : decode cX0_multiple 8 = .ok (.lload_n 1, 1) := by decide +kernel
theorem dX0_multiple_9 : decode cX0_multiple 9 = .ok (.aload_n 0, 1) := by decide +kernel
theorem dX0_multiple_10 : decode cX0_multiple 10 = .ok (.getfield 21, 3) := by decide +kernel
theorem dX0_multiple_13 : decode cX0_multiple 13 = .ok (.lconst 1, 1) := by decide +kernel
theorem dX0_multiple_14 : decode cX0_multiple 14 = .ok (.ladd, 1) := by decide +kernel
theorem dX0_multiple_15 : decode cX0_multiple 15 = .ok (.invokestatic 70, 3) := by decide +kernel
theorem dX0_multiple_18 : decode cX0_multiple 18 = .ok (.lstore 9, 2) := by decide +kernel
theorem dX0_multiple_20 : decode cX0_multiple 20 = .ok (.lload 9, 2) := by decide +kernel
theorem dX0_multiple_22 : decode cX0_multiple 22 = .ok (.lconst 0, 1) := by decide +kernel
theorem dX0_multiple_23 : decode cX0_multiple 23 = .ok (.lcmp, 1) := by decide +kernel
theorem dX0_multiple_24 : decode cX0_multiple 24 = .ok (.ifCond .le 43, 3) := by decide +kernel
theorem dX0_multiple_27 : decode cX0_multiple 27 = .ok (.lload 9, 2) := by decide +kernel
theorem dX0_multiple_29 : decode cX0_multiple 29 = .ok (.ldc2_w 50, 3) := by decide +kernel
theorem dX0_multiple_32 : decode cX0_multiple 32 = .ok (.lrem, 1) := by decide +kernel
theorem dX0_multiple_33 : decode cX0_multiple 33 = .ok (.lconst 1, 1) := by decide +kernel
theorem dX0_multiple_34 : decode cX0_multiple 34 = .ok (.lcmp, 1) := by decide +kernel
theorem dX0_multiple_35 : decode cX0_multiple 35 = .ok (.ifCond .ne 13, 3) := by decide +kernel
theorem dX0_multiple_38 : decode cX0_multiple 38 = .ok (.aload_n 0, 1) := by decide +kernel
theorem dX0_multiple_39 : decode cX0_multiple 39 = .ok (.lload 5, 2) := by decide +kernel
theorem dX0_multiple_41 : decode cX0_multiple 41 = .ok (.lload 7, 2) := by decide +kernel
theorem dX0_multiple_43 : decode cX0_multiple 43 = .ok (.invokevirtual 75, 3) := by decide +kernel
theorem dX0_multiple_46 : decode cX0_multiple 46 = .ok (.lstore 5, 2) := by decide +kernel
theorem dX0_multiple_48 : decode cX0_multiple 48 = .ok (.aload_n 0, 1) := by decide +kernel
theorem dX0_multiple_49 : decode cX0_multiple 49 = .ok (.lload 7, 2) := by decide +kernel
theorem dX0_multiple_51 : decode cX0_multiple 51 = .ok (.lload 7, 2) := by decide +kernel
theorem dX0_multiple_53 : decode cX0_multiple 53 = .ok (.invokevirtual 75, 3) := by decide +kernel
theorem dX0_multiple_56 : decode cX0_multiple 56 = .ok (.lstore 7, 2) := by decide +kernel
theorem dX0_multiple_58 : decode cX0_multiple 58 = .ok (.lload 9, 2) := by decide +kernel
theorem dX0_multiple_60 : decode cX0_multiple 60 = .ok (.iconst 1, 1) := by decide +kernel
theorem dX0_multiple_61 : decode cX0_multiple 61 = .ok (.lshr, 1) := by decide +kernel
theorem dX0_multiple_62 : decode cX0_multiple 62 = .ok (.lstore 9, 2) := by decide +kernel
theorem dX0_multiple_64 : decode cX0_multiple 64 = .ok (.goto (-44), 3) := by decide +kernel
theorem dX0_multiple_67 : decode cX0_multiple 67 = .ok (.lload 5, 2) := by decide +kernel
theorem dX0_multiple_69 : decode cX0_multiple 69 = .ok (.lreturn, 1) := by decide +kernel
set_option maxRecDepth 20000 in
theorem ggX0_orderOf_X0_orderWithout : GoodIn wsX0_orderOf wsX0_orderWithout := goodIn_r _ [7, 8, 9, 10, 11, 6, 12, 1, 2, 13, 14, 15, 16, 17, 18, 19, 20, 21, 22, 23, 24, 25, 26, 27, 28, 29, 30, 31, 32, 33, 34, 35, 36, 37, 38, 39, 40, 41, 42, 43, 44, 45, 46, 47, 48, 49, 50, 51, 52, 53, 54, 55, 56, 57, 58, 59] (by decide +kernel) (by decide +kernel)
set_option maxRecDepth 20000 in
theorem gX0_orderOf_X0_orderWithout : GoodIn wsX0_orderOf (wsV RX0 78 RX0 yX0_orderWithout wsX0_orderWithout) := goodIn_app (goodIn_of _ (by decide +kernel)) ggX0_orderOf_X0_orderWithout
theorem dX0_orderOf_0 : decode cX0_orderOf 0 = .ok (.aload_n 0, 1) := by decide +kernel
theorem dX0_orderOf_1 : decode cX0_orderOf 1 = .ok (.getfield 21, 3) := by decide +kernel
theorem dX0_orderOf_4 : decode cX0_orderOf 4 = .ok (.lconst 1, 1) := by decide +kernel
theorem dX0_orderOf_5 : decode cX0_orderOf 5 = .ok (.ladd, 1) := by decide +kernel
theorem dX0_orderOf_6 : decode cX0_orderOf 6 = .ok (.lstore_n 3, 1) := by decide +kernel
theorem dX0_orderOf_7 : decode cX0_orderOf 7 = .ok (.aload_n 0, 1) := by decide +kernel
theorem dX0_orderOf_8 : decode cX0_orderOf 8 = .ok (.getfield 21, 3) := by decide +kernel
theorem dX0_orderOf_11 : decode cX0_orderOf 11 = .ok (.lconst 1, 1) := by decide +kernel
theorem dX0_orderOf_12 : decode cX0_orderOf 12 = .ok (.ladd, 1) := by decide +kernel
theorem dX0_orderOf_13 : decode cX0_orderOf 13 = .ok (.lstore 5, 2) := by decide +kernel
theorem dX0_orderOf_15 : decode cX0_orderOf 15 = .ok (.ldc2_w 50, 3) := by decide +kernel
theorem dX0_orderOf_18 : decode cX0_orderOf 18 = .ok (.lstore 7, 2) := by decide +kernel
theorem dX0_orderOf_20 : decode cX0_orderOf 20 = .ok (.lload 7, 2) := by decide +kernel
theorem dX0_orderOf_22 : decode cX0_orderOf 22 = .ok (.lload 7, 2) := by decide +kernel
theorem dX0_orderOf_24 : decode cX0_orderOf 24 = .ok (.lmul, 1) := by decide +kernel
theorem dX0_orderOf_25 : decode cX0_orderOf 25 = .ok (.lload 5, 2) := by decide +kernel
theorem dX0_orderOf_27 : decode cX0_orderOf 27 = .ok (.lcmp, 1) := by decide +kernel
theorem dX0_orderOf_28 : decode cX0_orderOf 28 = .ok (.ifCond .gt 54, 3) := by decide +kernel
theorem dX0_orderOf_31 : decode cX0_orderOf 31 = .ok (.iconst 0, 1) := by decide +kernel
theorem dX0_orderOf_32 : decode cX0_orderOf 32 = .ok (.istore 9, 2) := by decide +kernel
theorem dX0_orderOf_34 : decode cX0_orderOf 34 = .ok (.iload 9, 2) := by decide +kernel
theorem dX0_orderOf_36 : decode cX0_orderOf 36 = .ok (.bipush 32, 2) := by decide +kernel
theorem dX0_orderOf_38 : decode cX0_orderOf 38 = .ok (.if_icmp .ge 35, 3) := by decide +kernel
theorem dX0_orderOf_41 : decode cX0_orderOf 41 = .ok (.lload 5, 2) := by decide +kernel
theorem dX0_orderOf_43 : decode cX0_orderOf 43 = .ok (.lload 7, 2) := by decide +kernel
theorem dX0_orderOf_45 : decode cX0_orderOf 45 = .ok (.lrem, 1) := by decide +kernel
theorem dX0_orderOf_46 : decode cX0_orderOf 46 = .ok (.lconst 0, 1) := by decide +kernel
theorem dX0_orderOf_47 : decode cX0_orderOf 47 = .ok (.lcmp, 1) := by decide +kernel
theorem dX0_orderOf_48 : decode cX0_orderOf 48 = .ok (.ifCond .ne 25, 3) := by decide +kernel
theorem dX0_orderOf_51 : decode cX0_orderOf 51 = .ok (.lload 5, 2) := by decide +kernel
theorem dX0_orderOf_53 : decode cX0_orderOf 53 = .ok (.lload 7, 2) := by decide +kernel
theorem dX0_orderOf_55 : decode cX0_orderOf 55 = .ok (.ldiv, 1) := by decide +kernel
theorem dX0_orderOf_56 : decode cX0_orderOf 56 = .ok (.lstore 5, 2) := by decide +kernel
theorem dX0_orderOf_58 : decode cX0_orderOf 58 = .ok (.aload_n 0, 1) := by decide +kernel
theorem dX0_orderOf_59 : decode cX0_orderOf 59 = .ok (.lload 7, 2) := by decide +kernel
theorem dX0_orderOf_61 : decode cX0_orderOf 61 = .ok (.lload_n 3, 1) := by decide +kernel
theorem dX0_orderOf_62 : decode cX0_orderOf 62 = .ok (.lload_n 1, 1) := by decide +kernel
theorem dX0_orderOf_63 : decode cX0_orderOf 63 = .ok (.invokevirtual 78, 3) := by decide +kernel
theorem dX0_orderOf_66 : decode cX0_orderOf 66 = .ok (.lstore_n 3, 1) := by decide +kernel
theorem dX0_orderOf_67 : decode cX0_orderOf 67 = .ok (.iinc 9 1, 3) := by decide +kernel
theorem dX0_orderOf_70 : decode cX0_orderOf 70 = .ok (.goto (-36), 3) := by decide +kernel
theorem dX0_orderOf_73 : decode cX0_orderOf 73 = .ok (.lload 7, 2) := by decide +kernel
theorem dX0_orderOf_75 : decode cX0_orderOf 75 = .ok (.lconst 1, 1) := by decide +kernel
theorem dX0_orderOf_76 : decode cX0_orderOf 76 = .ok (.ladd, 1) := by decide +kernel
theorem dX0_orderOf_77 : decode cX0_orderOf 77 = .ok (.lstore 7, 2) := by decide +kernel
theorem dX0_orderOf_79 : decode cX0_orderOf 79 = .ok (.goto (-59), 3) := by decide +kernel
theorem dX0_orderOf_82 : decode cX0_orderOf 82 = .ok (.lload 5, 2) := by decide +kernel
theorem dX0_orderOf_84 : decode cX0_orderOf 84 = .ok (.lconst 1, 1) := by decide +kernel
theorem dX0_orderOf_85 : decode cX0_orderOf 85 = .ok (.lcmp, 1) := by decide +kernel
theorem dX0_orderOf_86 : decode cX0_orderOf 86 = .ok (.ifCond .le 14, 3) := by decide +kernel
theorem dX0_orderOf_89 : decode cX0_orderOf 89 = .ok (.aload_n 0, 1) := by decide +kernel
theorem dX0_orderOf_90 : decode cX0_orderOf 90 = .ok (.lload 5, 2) := by decide +kernel
theorem dX0_orderOf_92 : decode cX0_orderOf 92 = .ok (.lload_n 3, 1) := by decide +kernel
theorem dX0_orderOf_93 : decode cX0_orderOf 93 = .ok (.lload_n 1, 1) := by decide +kernel
theorem dX0_orderOf_94 : decode cX0_orderOf 94 = .ok (.invokevirtual 78, 3) := by decide +kernel
theorem dX0_orderOf_97 : decode cX0_orderOf 97 = .ok (.goto 4, 3) := by decide +kernel
theorem dX0_orderOf_100 : decode cX0_orderOf 100 = .ok (.lload_n 3, 1) := by decide +kernel
theorem dX0_orderOf_101 : decode cX0_orderOf 101 = .ok (.lreturn, 1) := by decide +kernel
set_option maxRecDepth 20000 in
theorem ggX0_orderWithout_X0_multiple : GoodIn wsX0_orderWithout wsX0_multiple := goodIn_r _ [6, 1, 7, 8, 9, 10, 11, 12, 13, 14, 15, 5, 16, 17, 18, 19, 20, 21, 22, 23, 24, 25, 26, 27, 28, 29, 30, 31, 32, 33, 34, 35, 36, 37, 38, 39, 40, 41, 42, 43, 44, 45, 46, 47, 48, 49, 50, 51, 52, 53, 54, 55] (by decide +kernel) (by decide +kernel)
set_option maxRecDepth 20000 in
theorem gX0_orderWithout_X0_multiple : GoodIn wsX0_orderWithout (wsV RX0 82 RX0 yX0_multiple wsX0_multiple) := goodIn_app (goodIn_of _ (by decide +kernel)) ggX0_orderWithout_X0_multiple
theorem dX0_orderWithout_0 : decode cX0_orderWithout 0 = .ok (.aload_n 0, 1) := by decide +kernel
theorem dX0_orderWithout_1 : decode cX0_orderWithout 1 = .ok (.lload_n 3, 1) := by decide +kernel
theorem dX0_orderWithout_2 : decode cX0_orderWithout 2 = .ok (.lload_n 1, 1) := by decide +kernel
theorem dX0_orderWithout_3 : decode cX0_orderWithout 3 = .ok (.ldiv, 1) := by decide +kernel
theorem dX0_orderWithout_4 : decode cX0_orderWithout 4 = .ok (.lload 5, 2) := by decide +kernel
theorem dX0_orderWithout_6 : decode cX0_orderWithout 6 = .ok (.invokevirtual 82, 3) := by decide +kernel
theorem dX0_orderWithout_9 : decode cX0_orderWithout 9 = .ok (.ldc2_w 58, 3) := by decide +kernel
theorem dX0_orderWithout_12 : decode cX0_orderWithout 12 = .ok (.lcmp, 1) := by decide +kernel
theorem dX0_orderWithout_13 : decode cX0_orderWithout 13 = .ok (.ifCond .ne 9, 3) := by decide +kernel
theorem dX0_orderWithout_16 : decode cX0_orderWithout 16 = .ok (.lload_n 3, 1) := by decide +kernel
theorem dX0_orderWithout_17 : decode cX0_orderWithout 17 = .ok (.lload_n 1, 1) := by decide +kernel
theorem dX0_orderWithout_18 : decode cX0_orderWithout 18 = .ok (.ldiv, 1) := by decide +kernel
theorem dX0_orderWithout_19 : decode cX0_orderWithout 19 = .ok (.goto 4, 3) := by decide +kernel
theorem dX0_orderWithout_22 : decode cX0_orderWithout 22 = .ok (.lload_n 3, 1) := by decide +kernel
theorem dX0_orderWithout_23 : decode cX0_orderWithout 23 = .ok (.lreturn, 1) := by decide +kernel
theorem dX0_firstTried_0 : decode cX0_firstTried 0 = .ok (.lload_n 1, 1) := by decide +kernel
theorem dX0_firstTried_1 : decode cX0_firstTried 1 = .ok (.iconst 1, 1) := by decide +kernel
theorem dX0_firstTried_2 : decode cX0_firstTried 2 = .ok (.lushr, 1) := by decide +kernel
theorem dX0_firstTried_3 : decode cX0_firstTried 3 = .ok (.aload_n 0, 1) := by decide +kernel
theorem dX0_firstTried_4 : decode cX0_firstTried 4 = .ok (.getfield 21, 3) := by decide +kernel
theorem dX0_firstTried_7 : decode cX0_firstTried 7 = .ok (.lrem, 1) := by decide +kernel
theorem dX0_firstTried_8 : decode cX0_firstTried 8 = .ok (.ldc2_w 50, 3) := by decide +kernel
theorem dX0_firstTried_11 : decode cX0_firstTried 11 = .ok (.lmul, 1) := by decide +kernel
theorem dX0_firstTried_12 : decode cX0_firstTried 12 = .ok (.lload_n 1, 1) := by decide +kernel
theorem dX0_firstTried_13 : decode cX0_firstTried 13 = .ok (.lconst 1, 1) := by decide +kernel
theorem dX0_firstTried_14 : decode cX0_firstTried 14 = .ok (.land, 1) := by decide +kernel
theorem dX0_firstTried_15 : decode cX0_firstTried 15 = .ok (.ladd, 1) := by decide +kernel
theorem dX0_firstTried_16 : decode cX0_firstTried 16 = .ok (.aload_n 0, 1) := by decide +kernel
theorem dX0_firstTried_17 : decode cX0_firstTried 17 = .ok (.getfield 21, 3) := by decide +kernel
theorem dX0_firstTried_20 : decode cX0_firstTried 20 = .ok (.lrem, 1) := by decide +kernel
theorem dX0_firstTried_21 : decode cX0_firstTried 21 = .ok (.lreturn, 1) := by decide +kernel
set_option maxRecDepth 20000 in
theorem ggX0_turned_X0_firstTried : GoodIn wsX0_turned wsX0_firstTried := goodIn_r _ [10, 5, 11, 67, 68, 69, 70, 71, 72] (by decide +kernel) (by decide +kernel)
set_option maxRecDepth 20000 in
theorem gX0_turned_X0_firstTried : GoodIn wsX0_turned (wsV RX0 85 RX0 yX0_firstTried wsX0_firstTried) := goodIn_app (goodIn_of _ (by decide +kernel)) ggX0_turned_X0_firstTried
set_option maxRecDepth 20000 in
theorem ggX0_turned_X0_squareOfY : GoodIn wsX0_turned wsX0_squareOfY := goodIn_r _ [15, 2, 5, 16, 17, 18, 19, 20, 21, 67, 68, 69, 70, 71, 72, 73] (by decide +kernel) (by decide +kernel)
set_option maxRecDepth 20000 in
theorem gX0_turned_X0_squareOfY : GoodIn wsX0_turned (wsV RX0 39 RX0 yX0_squareOfY wsX0_squareOfY) := goodIn_app (goodIn_of _ (by decide +kernel)) ggX0_turned_X0_squareOfY
set_option maxRecDepth 20000 in
theorem ggX0_turned_X2_evenRoot : GoodIn wsX0_turned wsX2_evenRoot := goodIn_r _ [25, 21, 26, 27, 28, 29, 17, 18, 19, 20, 73] (by decide +kernel) (by decide +kernel)
set_option maxRecDepth 20000 in
theorem gX0_turned_X2_evenRoot : GoodIn wsX0_turned (wsV RX0 92 RX2 yX2_evenRoot wsX2_evenRoot) := goodIn_app (goodIn_of _ (by decide +kernel)) ggX0_turned_X2_evenRoot
set_option maxRecDepth 20000 in
theorem ggX0_turned_X3_joined : GoodIn wsX0_turned wsX3_joined := goodIn_r _ [32] (by decide +kernel) (by decide +kernel)
set_option maxRecDepth 20000 in
theorem gX0_turned_X3_joined_n67 : GoodIn wsX0_turned (wsX3_joined) := ggX0_turned_X3_joined
set_option maxRecDepth 20000 in
theorem ggX0_turned_X0_multiple : GoodIn wsX0_turned wsX0_multiple := goodIn_r _ [36, 4, 5, 11, 37, 38, 39, 40, 41, 42, 43, 9, 44, 2, 45, 46, 47, 48, 49, 31, 50, 51, 52, 53, 54, 55, 56, 57, 58, 16, 17, 18, 19, 20, 21, 59, 60, 61, 62, 63, 64, 65, 66, 30, 32, 67, 68, 69, 70, 71, 72, 73] (by decide +kernel) (by decide +kernel)
set_option maxRecDepth 20000 in
theorem gX0_turned_X0_multiple : GoodIn wsX0_turned (wsV RX0 82 RX0 yX0_multiple wsX0_multiple) := goodIn_app (goodIn_of _ (by decide +kernel)) ggX0_turned_X0_multiple
theorem dX0_turned_0 : decode cX0_turned 0 = .ok (.aload_n 0, 1) := by decide +kernel
theorem dX0_turned_1 : decode cX0_turned 1 = .ok (.lload_n 1, 1) := by decide +kernel
theorem dX0_turned_2 : decode cX0_turned 2 = .ok (.invokevirtual 85, 3) := by decide +kernel
theorem dX0_turned_5 : decode cX0_turned 5 = .ok (.lstore_n 3, 1) := by decide +kernel
theorem dX0_turned_6 : decode cX0_turned 6 = .ok (.iconst 1, 1) := by decide +kernel
theorem dX0_turned_7 : decode cX0_turned 7 = .ok (.istore 5, 2) := by decide +kernel
theorem dX0_turned_9 : decode cX0_turned 9 = .ok (.iload 5, 2) := by decide +kernel
theorem dX0_turned_11 : decode cX0_turned 11 = .ok (.sipush 1000, 3) := by decide +kernel
theorem dX0_turned_14 : decode cX0_turned 14 = .ok (.if_icmp .gt 79, 3) := by decide +kernel
theorem dX0_turned_17 : decode cX0_turned 17 = .ok (.aload_n 0, 1) := by decide +kernel
theorem dX0_turned_18 : decode cX0_turned 18 = .ok (.iload 5, 2) := by decide +kernel
theorem dX0_turned_20 : decode cX0_turned 20 = .ok (.putfield 88, 3) := by decide +kernel
theorem dX0_turned_23 : decode cX0_turned 23 = .ok (.aload_n 0, 1) := by decide +kernel
theorem dX0_turned_24 : decode cX0_turned 24 = .ok (.getfield 9, 3) := by decide +kernel
theorem dX0_turned_27 : decode cX0_turned 27 = .ok (.aload_n 0, 1) := by decide +kernel
theorem dX0_turned_28 : decode cX0_turned 28 = .ok (.lload_n 3, 1) := by decide +kernel
theorem dX0_turned_29 : decode cX0_turned 29 = .ok (.invokevirtual 39, 3) := by decide +kernel
theorem dX0_turned_32 : decode cX0_turned 32 = .ok (.invokevirtual 92, 3) := by decide +kernel
theorem dX0_turned_35 : decode cX0_turned 35 = .ok (.lstore 6, 2) := by decide +kernel
theorem dX0_turned_37 : decode cX0_turned 37 = .ok (.lload 6, 2) := by decide +kernel
theorem dX0_turned_39 : decode cX0_turned 39 = .ok (.lconst 0, 1) := by decide +kernel
theorem dX0_turned_40 : decode cX0_turned 40 = .ok (.lcmp, 1) := by decide +kernel
theorem dX0_turned_41 : decode cX0_turned 41 = .ok (.ifCond .le 20, 3) := by decide +kernel
theorem dX0_turned_44 : decode cX0_turned 44 = .ok (.aload_n 0, 1) := by decide +kernel
theorem dX0_turned_45 : decode cX0_turned 45 = .ok (.aload_n 0, 1) := by decide +kernel
theorem dX0_turned_46 : decode cX0_turned 46 = .ok (.getfield 25, 3) := by decide +kernel
theorem dX0_turned_49 : decode cX0_turned 49 = .ok (.lload_n 3, 1) := by decide +kernel
theorem dX0_turned_50 : decode cX0_turned 50 = .ok (.lload 6, 2) := by decide +kernel
theorem dX0_turned_52 : decode cX0_turned 52 = .ok (.invokestatic 67, 3) := by decide +kernel
theorem dX0_turned_55 : decode cX0_turned 55 = .ok (.invokevirtual 82, 3) := by decide +kernel
theorem dX0_turned_58 : decode cX0_turned 58 = .ok (.goto 6, 3) := by decide +kernel
theorem dX0_turned_61 : decode cX0_turned 61 = .ok (.ldc2_w 58, 3) := by decide +kernel
theorem dX0_turned_64 : decode cX0_turned 64 = .ok (.lstore 8, 2) := by decide +kernel
theorem dX0_turned_66 : decode cX0_turned 66 = .ok (.lload 8, 2) := by decide +kernel
theorem dX0_turned_68 : decode cX0_turned 68 = .ok (.ldc2_w 58, 3) := by decide +kernel
theorem dX0_turned_71 : decode cX0_turned 71 = .ok (.lcmp, 1) := by decide +kernel
theorem dX0_turned_72 : decode cX0_turned 72 = .ok (.ifCond .eq 6, 3) := by decide +kernel
theorem dX0_turned_75 : decode cX0_turned 75 = .ok (.lload 8, 2) := by decide +kernel
theorem dX0_turned_77 : decode cX0_turned 77 = .ok (.lreturn, 1) := by decide +kernel
theorem dX0_turned_78 : decode cX0_turned 78 = .ok (.lload_n 3, 1) := by decide +kernel
theorem dX0_turned_79 : decode cX0_turned 79 = .ok (.lconst 1, 1) := by decide +kernel
theorem dX0_turned_80 : decode cX0_turned 80 = .ok (.ladd, 1) := by decide +kernel
theorem dX0_turned_81 : decode cX0_turned 81 = .ok (.aload_n 0, 1) := by decide +kernel
theorem dX0_turned_82 : decode cX0_turned 82 = .ok (.getfield 21, 3) := by decide +kernel
theorem dX0_turned_85 : decode cX0_turned 85 = .ok (.lrem, 1) := by decide +kernel
theorem dX0_turned_86 : decode cX0_turned 86 = .ok (.lstore_n 3, 1) := by decide +kernel
theorem dX0_turned_87 : decode cX0_turned 87 = .ok (.iinc 5 1, 3) := by decide +kernel
theorem dX0_turned_90 : decode cX0_turned 90 = .ok (.goto (-81), 3) := by decide +kernel
theorem dX0_turned_93 : decode cX0_turned 93 = .ok (.ldc2_w 58, 3) := by decide +kernel
theorem dX0_turned_96 : decode cX0_turned 96 = .ok (.lreturn, 1) := by decide +kernel
set_option maxRecDepth 20000 in
theorem ggX0_pointWritten_X0_squareOfY : GoodIn wsX0_pointWritten wsX0_squareOfY := goodIn_r _ [10, 5, 3, 11, 12, 13, 14, 15, 16, 28, 29, 30, 31, 32, 33, 34] (by decide +kernel) (by decide +kernel)
set_option maxRecDepth 20000 in
theorem gX0_pointWritten_X0_squareOfY : GoodIn wsX0_pointWritten (wsV RX0 39 RX0 yX0_squareOfY wsX0_squareOfY) := goodIn_app (goodIn_of _ (by decide +kernel)) ggX0_pointWritten_X0_squareOfY
set_option maxRecDepth 20000 in
theorem ggX0_pointWritten_X2_evenRoot : GoodIn wsX0_pointWritten wsX2_evenRoot := goodIn_r _ [20, 16, 21, 22, 23, 24, 12, 13, 14, 15, 34] (by decide +kernel) (by decide +kernel)
set_option maxRecDepth 20000 in
theorem gX0_pointWritten_X2_evenRoot : GoodIn wsX0_pointWritten (wsV RX0 92 RX2 yX2_evenRoot wsX2_evenRoot) := goodIn_app (goodIn_of _ (by decide +kernel)) ggX0_pointWritten_X2_evenRoot
set_option maxRecDepth 20000 in
theorem ggX0_pointWritten_X3_joined : GoodIn wsX0_pointWritten wsX3_joined := goodIn_r _ [27] (by decide +kernel) (by decide +kernel)
set_option maxRecDepth 20000 in
theorem gX0_pointWritten_X3_joined_n67 : GoodIn wsX0_pointWritten (wsX3_joined) := ggX0_pointWritten_X3_joined
theorem dX0_pointWritten_0 : decode cX0_pointWritten 0 = .ok (.lload_n 1, 1) := by decide +kernel
theorem dX0_pointWritten_1 : decode cX0_pointWritten 1 = .ok (.ldc2_w 58, 3) := by decide +kernel
theorem dX0_pointWritten_4 : decode cX0_pointWritten 4 = .ok (.lcmp, 1) := by decide +kernel
theorem dX0_pointWritten_5 : decode cX0_pointWritten 5 = .ok (.ifCond .ne 7, 3) := by decide +kernel
theorem dX0_pointWritten_8 : decode cX0_pointWritten 8 = .ok (.ldc2_w 58, 3) := by decide +kernel
theorem dX0_pointWritten_11 : decode cX0_pointWritten 11 = .ok (.lreturn, 1) := by decide +kernel
theorem dX0_pointWritten_12 : decode cX0_pointWritten 12 = .ok (.lload_n 1, 1) := by decide +kernel
theorem dX0_pointWritten_13 : decode cX0_pointWritten 13 = .ok (.lconst 0, 1) := by decide +kernel
theorem dX0_pointWritten_14 : decode cX0_pointWritten 14 = .ok (.lcmp, 1) := by decide +kernel
theorem dX0_pointWritten_15 : decode cX0_pointWritten 15 = .ok (.ifCond .lt 16, 3) := by decide +kernel
theorem dX0_pointWritten_18 : decode cX0_pointWritten 18 = .ok (.lload_n 1, 1) := by decide +kernel
theorem dX0_pointWritten_19 : decode cX0_pointWritten 19 = .ok (.ldc2_w 50, 3) := by decide +kernel
theorem dX0_pointWritten_22 : decode cX0_pointWritten 22 = .ok (.ldiv, 1) := by decide +kernel
theorem dX0_pointWritten_23 : decode cX0_pointWritten 23 = .ok (.aload_n 0, 1) := by decide +kernel
theorem dX0_pointWritten_24 : decode cX0_pointWritten 24 = .ok (.getfield 21, 3) := by decide +kernel
theorem dX0_pointWritten_27 : decode cX0_pointWritten 27 = .ok (.lcmp, 1) := by decide +kernel
theorem dX0_pointWritten_28 : decode cX0_pointWritten 28 = .ok (.ifCond .lt 7, 3) := by decide +kernel
theorem dX0_pointWritten_31 : decode cX0_pointWritten 31 = .ok (.ldc2_w 95, 3) := by decide +kernel
theorem dX0_pointWritten_34 : decode cX0_pointWritten 34 = .ok (.lreturn, 1) := by decide +kernel
theorem dX0_pointWritten_35 : decode cX0_pointWritten 35 = .ok (.lload_n 1, 1) := by decide +kernel
theorem dX0_pointWritten_36 : decode cX0_pointWritten 36 = .ok (.ldc2_w 50, 3) := by decide +kernel
theorem dX0_pointWritten_39 : decode cX0_pointWritten 39 = .ok (.ldiv, 1) := by decide +kernel
theorem dX0_pointWritten_40 : decode cX0_pointWritten 40 = .ok (.lstore_n 3, 1) := by decide +kernel
theorem dX0_pointWritten_41 : decode cX0_pointWritten 41 = .ok (.aload_n 0, 1) := by decide +kernel
theorem dX0_pointWritten_42 : decode cX0_pointWritten 42 = .ok (.getfield 9, 3) := by decide +kernel
theorem dX0_pointWritten_45 : decode cX0_pointWritten 45 = .ok (.aload_n 0, 1) := by decide +kernel
theorem dX0_pointWritten_46 : decode cX0_pointWritten 46 = .ok (.lload_n 3, 1) := by decide +kernel
theorem dX0_pointWritten_47 : decode cX0_pointWritten 47 = .ok (.invokevirtual 39, 3) := by decide +kernel
theorem dX0_pointWritten_50 : decode cX0_pointWritten 50 = .ok (.invokevirtual 92, 3) := by decide +kernel
theorem dX0_pointWritten_53 : decode cX0_pointWritten 53 = .ok (.lstore 5, 2) := by decide +kernel
theorem dX0_pointWritten_55 : decode cX0_pointWritten 55 = .ok (.lload 5, 2) := by decide +kernel
theorem dX0_pointWritten_57 : decode cX0_pointWritten 57 = .ok (.ldc2_w 58, 3) := by decide +kernel
theorem dX0_pointWritten_60 : decode cX0_pointWritten 60 = .ok (.lcmp, 1) := by decide +kernel
theorem dX0_pointWritten_61 : decode cX0_pointWritten 61 = .ok (.ifCond .eq 20, 3) := by decide +kernel
theorem dX0_pointWritten_64 : decode cX0_pointWritten 64 = .ok (.lload 5, 2) := by decide +kernel
theorem dX0_pointWritten_66 : decode cX0_pointWritten 66 = .ok (.lconst 0, 1) := by decide +kernel
theorem dX0_pointWritten_67 : decode cX0_pointWritten 67 = .ok (.lcmp, 1) := by decide +kernel
theorem dX0_pointWritten_68 : decode cX0_pointWritten 68 = .ok (.ifCond .ne 17, 3) := by decide +kernel
theorem dX0_pointWritten_71 : decode cX0_pointWritten 71 = .ok (.lload_n 1, 1) := by decide +kernel
theorem dX0_pointWritten_72 : decode cX0_pointWritten 72 = .ok (.ldc2_w 50, 3) := by decide +kernel
theorem dX0_pointWritten_75 : decode cX0_pointWritten 75 = .ok (.lrem, 1) := by decide +kernel
theorem dX0_pointWritten_76 : decode cX0_pointWritten 76 = .ok (.lconst 1, 1) := by decide +kernel
theorem dX0_pointWritten_77 : decode cX0_pointWritten 77 = .ok (.lcmp, 1) := by decide +kernel
theorem dX0_pointWritten_78 : decode cX0_pointWritten 78 = .ok (.ifCond .ne 7, 3) := by decide +kernel
theorem dX0_pointWritten_81 : decode cX0_pointWritten 81 = .ok (.ldc2_w 95, 3) := by decide +kernel
theorem dX0_pointWritten_84 : decode cX0_pointWritten 84 = .ok (.lreturn, 1) := by decide +kernel
theorem dX0_pointWritten_85 : decode cX0_pointWritten 85 = .ok (.lload_n 3, 1) := by decide +kernel
theorem dX0_pointWritten_86 : decode cX0_pointWritten 86 = .ok (.lload_n 1, 1) := by decide +kernel
theorem dX0_pointWritten_87 : decode cX0_pointWritten 87 = .ok (.ldc2_w 50, 3) := by decide +kernel
theorem dX0_pointWritten_90 : decode cX0_pointWritten 90 = .ok (.lrem, 1) := by decide +kernel
theorem dX0_pointWritten_91 : decode cX0_pointWritten 91 = .ok (.lconst 1, 1) := by decide +kernel
theorem dX0_pointWritten_92 : decode cX0_pointWritten 92 = .ok (.lcmp, 1) := by decide +kernel
theorem dX0_pointWritten_93 : decode cX0_pointWritten 93 = .ok (.ifCond .ne 13, 3) := by decide +kernel
theorem dX0_pointWritten_96 : decode cX0_pointWritten 96 = .ok (.aload_n 0, 1) := by decide +kernel
theorem dX0_pointWritten_97 : decode cX0_pointWritten 97 = .ok (.getfield 21, 3) := by decide +kernel
theorem dX0_pointWritten_100 : decode cX0_pointWritten 100 = .ok (.lload 5, 2) := by decide +kernel
theorem dX0_pointWritten_102 : decode cX0_pointWritten 102 = .ok (.lsub, 1) := by decide +kernel
theorem dX0_pointWritten_103 : decode cX0_pointWritten 103 = .ok (.goto 5, 3) := by decide +kernel
theorem dX0_pointWritten_106 : decode cX0_pointWritten 106 = .ok (.lload 5, 2) := by decide +kernel
theorem dX0_pointWritten_108 : decode cX0_pointWritten 108 = .ok (.invokestatic 67, 3) := by decide +kernel
theorem dX0_pointWritten_111 : decode cX0_pointWritten 111 = .ok (.lreturn, 1) := by decide +kernel
theorem dX1_init_0 : decode cX1_init 0 = .ok (.aload_n 0, 1) := by decide +kernel
theorem dX1_init_1 : decode cX1_init 1 = .ok (.invokespecial 3, 3) := by decide +kernel
theorem dX1_init_4 : decode cX1_init 4 = .ok (.aload_n 0, 1) := by decide +kernel
theorem dX1_init_5 : decode cX1_init 5 = .ok (.aload_n 1, 1) := by decide +kernel
theorem dX1_init_6 : decode cX1_init 6 = .ok (.putfield 9, 3) := by decide +kernel
theorem dX1_init_9 : decode cX1_init 9 = .ok (.aload_n 0, 1) := by decide +kernel
theorem dX1_init_10 : decode cX1_init 10 = .ok (.aload_n 1, 1) := by decide +kernel
theorem dX1_init_11 : decode cX1_init 11 = .ok (.getfield 15, 3) := by decide +kernel
theorem dX1_init_14 : decode cX1_init 14 = .ok (.putfield 21, 3) := by decide +kernel
theorem dX1_init_17 : decode cX1_init 17 = .ok (.aload_n 0, 1) := by decide +kernel
theorem dX1_init_18 : decode cX1_init 18 = .ok (.aload_n 1, 1) := by decide +kernel
theorem dX1_init_19 : decode cX1_init 19 = .ok (.getfield 22, 3) := by decide +kernel
theorem dX1_init_22 : decode cX1_init 22 = .ok (.putfield 25, 3) := by decide +kernel
theorem dX1_init_25 : decode cX1_init 25 = .ok (.return_, 1) := by decide +kernel
set_option maxRecDepth 20000 in
theorem ggX1_takes_X0_multiple : GoodIn wsX1_takes wsX0_multiple := goodIn_r _ [8, 9, 10, 11, 12, 13, 14, 15, 16, 17, 18, 7, 19, 20, 21, 22, 23, 24, 25, 26, 27, 28, 29, 30, 31, 32, 33, 34, 35, 36, 37, 38, 39, 40, 41, 42, 43, 44, 45, 46, 47, 48, 49, 50, 51, 55, 56, 57, 58, 59, 60, 61] (by decide +kernel) (by decide +kernel)
set_option maxRecDepth 20000 in
theorem gX1_takes_X0_multiple : GoodIn wsX1_takes (wsV RX1 26 RX0 yX0_multiple wsX0_multiple) := goodIn_app (goodIn_of _ (by decide +kernel)) ggX1_takes_X0_multiple
theorem dX1_takes_0 : decode cX1_takes 0 = .ok (.aload_n 0, 1) := by decide +kernel
theorem dX1_takes_1 : decode cX1_takes 1 = .ok (.getfield 9, 3) := by decide +kernel
theorem dX1_takes_4 : decode cX1_takes 4 = .ok (.aload_n 0, 1) := by decide +kernel
theorem dX1_takes_5 : decode cX1_takes 5 = .ok (.getfield 25, 3) := by decide +kernel
theorem dX1_takes_8 : decode cX1_takes 8 = .ok (.lload_n 1, 1) := by decide +kernel
theorem dX1_takes_9 : decode cX1_takes 9 = .ok (.invokevirtual 26, 3) := by decide +kernel
theorem dX1_takes_12 : decode cX1_takes 12 = .ok (.ldc2_w 30, 3) := by decide +kernel
theorem dX1_takes_15 : decode cX1_takes 15 = .ok (.lcmp, 1) := by decide +kernel
theorem dX1_takes_16 : decode cX1_takes 16 = .ok (.ifCond .ne 7, 3) := by decide +kernel
theorem dX1_takes_19 : decode cX1_takes 19 = .ok (.iconst 1, 1) := by decide +kernel
theorem dX1_takes_20 : decode cX1_takes 20 = .ok (.goto 4, 3) := by decide +kernel
theorem dX1_takes_23 : decode cX1_takes 23 = .ok (.iconst 0, 1) := by decide +kernel
theorem dX1_takes_24 : decode cX1_takes 24 = .ok (.ireturn, 1) := by decide +kernel
set_option maxRecDepth 20000 in
theorem ggX1_product_X3_upper : GoodIn wsX1_product wsX3_upper := goodIn_r _ [4] (by decide +kernel) (by decide +kernel)
set_option maxRecDepth 20000 in
theorem gX1_product_X3_upper_n32 : GoodIn wsX1_product (wsX3_upper) := ggX1_product_X3_upper
set_option maxRecDepth 20000 in
theorem ggX1_product_X3_lower : GoodIn wsX1_product wsX3_lower := goodIn_r _ [6, 7] (by decide +kernel) (by decide +kernel)
set_option maxRecDepth 20000 in
theorem gX1_product_X3_lower_n36 : GoodIn wsX1_product (wsX3_lower) := ggX1_product_X3_lower
set_option maxRecDepth 20000 in
theorem ggX1_product_J9_floorMod_f86c9 : GoodIn wsX1_product wsJ9_floorMod_f86c9 := goodIn_r _ [11] (by decide +kernel) (by decide +kernel)
set_option maxRecDepth 20000 in
theorem gX1_product_J9_floorMod_f86c9 : GoodIn wsX1_product (va_wsS RX1 39 yJ9_floorMod_f86c9 wsJ9_floorMod_f86c9) := goodIn_app (goodIn_of _ (by decide +kernel)) ggX1_product_J9_floorMod_f86c9
set_option maxRecDepth 20000 in
theorem ggX1_product_X3_joined : GoodIn wsX1_product wsX3_joined := goodIn_r _ [13] (by decide +kernel) (by decide +kernel)
set_option maxRecDepth 20000 in
theorem gX1_product_X3_joined_n44 : GoodIn wsX1_product (wsX3_joined) := ggX1_product_X3_joined
theorem dX1_product_0 : decode cX1_product 0 = .ok (.lload_n 1, 1) := by decide +kernel
theorem dX1_product_1 : decode cX1_product 1 = .ok (.invokestatic 32, 3) := by decide +kernel
theorem dX1_product_4 : decode cX1_product 4 = .ok (.lload_n 3, 1) := by decide +kernel
theorem dX1_product_5 : decode cX1_product 5 = .ok (.invokestatic 32, 3) := by decide +kernel
theorem dX1_product_8 : decode cX1_product 8 = .ok (.lmul, 1) := by decide +kernel
theorem dX1_product_9 : decode cX1_product 9 = .ok (.lload_n 1, 1) := by decide +kernel
theorem dX1_product_10 : decode cX1_product 10 = .ok (.invokestatic 36, 3) := by decide +kernel
theorem dX1_product_13 : decode cX1_product 13 = .ok (.lload_n 3, 1) := by decide +kernel
theorem dX1_product_14 : decode cX1_product 14 = .ok (.invokestatic 36, 3) := by decide +kernel
theorem dX1_product_17 : decode cX1_product 17 = .ok (.lmul, 1) := by decide +kernel
theorem dX1_product_18 : decode cX1_product 18 = .ok (.lsub, 1) := by decide +kernel
theorem dX1_product_19 : decode cX1_product 19 = .ok (.lstore 5, 2) := by decide +kernel
theorem dX1_product_21 : decode cX1_product 21 = .ok (.lload_n 1, 1) := by decide +kernel
theorem dX1_product_22 : decode cX1_product 22 = .ok (.invokestatic 32, 3) := by decide +kernel
theorem dX1_product_25 : decode cX1_product 25 = .ok (.lload_n 3, 1) := by decide +kernel
theorem dX1_product_26 : decode cX1_product 26 = .ok (.invokestatic 36, 3) := by decide +kernel
theorem dX1_product_29 : decode cX1_product 29 = .ok (.lmul, 1) := by decide +kernel
theorem dX1_product_30 : decode cX1_product 30 = .ok (.lload_n 1, 1) := by decide +kernel
theorem dX1_product_31 : decode cX1_product 31 = .ok (.invokestatic 36, 3) := by decide +kernel
theorem dX1_product_34 : decode cX1_product 34 = .ok (.lload_n 3, 1) := by decide +kernel
theorem dX1_product_35 : decode cX1_product 35 = .ok (.invokestatic 32, 3) := by decide +kernel
theorem dX1_product_38 : decode cX1_product 38 = .ok (.lmul, 1) := by decide +kernel
theorem dX1_product_39 : decode cX1_product 39 = .ok (.ladd, 1) := by decide +kernel
theorem dX1_product_40 : decode cX1_product 40 = .ok (.lstore 7, 2) := by decide +kernel
theorem dX1_product_42 : decode cX1_product 42 = .ok (.lload 5, 2) := by decide +kernel
theorem dX1_product_44 : decode cX1_product 44 = .ok (.aload_n 0, 1) := by decide +kernel
theorem dX1_product_45 : decode cX1_product 45 = .ok (.getfield 21, 3) := by decide +kernel
theorem dX1_product_48 : decode cX1_product 48 = .ok (.invokestatic 39, 3) := by decide +kernel
theorem dX1_product_51 : decode cX1_product 51 = .ok (.lload 7, 2) := by decide +kernel
theorem dX1_product_53 : decode cX1_product 53 = .ok (.aload_n 0, 1) := by decide +kernel
theorem dX1_product_54 : decode cX1_product 54 = .ok (.getfield 21, 3) := by decide +kernel
theorem dX1_product_57 : decode cX1_product 57 = .ok (.lrem, 1) := by decide +kernel
theorem dX1_product_58 : decode cX1_product 58 = .ok (.invokestatic 44, 3) := by decide +kernel
theorem dX1_product_61 : decode cX1_product 61 = .ok (.lreturn, 1) := by decide +kernel
set_option maxRecDepth 20000 in
theorem ggX1_raised_X1_product : GoodIn wsX1_raised wsX1_product := goodIn_r _ [7, 8, 9, 10, 11, 12, 13, 14, 15, 16, 17, 18, 19, 20, 21, 22, 23] (by decide +kernel) (by decide +kernel)
set_option maxRecDepth 20000 in
theorem gX1_raised_X1_product : GoodIn wsX1_raised (wsV RX1 51 RX1 yX1_product wsX1_product) := goodIn_app (goodIn_of _ (by decide +kernel)) ggX1_raised_X1_product
theorem dX1_raised_0 : decode cX1_raised 0 = .ok (.ldc2_w 47, 3) := by decide +kernel
theorem dX1_raised_3 : decode cX1_raised 3 = .ok (.lstore 5, 2) := by decide +kernel
theorem dX1_raised_5 : decode cX1_raised 5 = .ok (.lload_n 1, 1) := by decide +kernel
theorem dX1_raised_6 : decode cX1_raised 6 = .ok (.lstore 7, 2) := by decide +kernel
theorem dX1_raised_8 : decode cX1_raised 8 = .ok (.lload_n 3, 1) := by decide +kernel
theorem dX1_raised_9 : decode cX1_raised 9 = .ok (.lstore 9, 2) := by decide +kernel
theorem dX1_raised_11 : decode cX1_raised 11 = .ok (.lload 9, 2) := by decide +kernel
theorem dX1_raised_13 : decode cX1_raised 13 = .ok (.lconst 0, 1) := by decide +kernel
theorem dX1_raised_14 : decode cX1_raised 14 = .ok (.lcmp, 1) := by decide +kernel
theorem dX1_raised_15 : decode cX1_raised 15 = .ok (.ifCond .le 43, 3) := by decide +kernel
theorem dX1_raised_18 : decode cX1_raised 18 = .ok (.lload 9, 2) := by decide +kernel
theorem dX1_raised_20 : decode cX1_raised 20 = .ok (.ldc2_w 49, 3) := by decide +kernel
theorem dX1_raised_23 : decode cX1_raised 23 = .ok (.lrem, 1) := by decide +kernel
theorem dX1_raised_24 : decode cX1_raised 24 = .ok (.lconst 1, 1) := by decide +kernel
theorem dX1_raised_25 : decode cX1_raised 25 = .ok (.lcmp, 1) := by decide +kernel
theorem dX1_raised_26 : decode cX1_raised 26 = .ok (.ifCond .ne 13, 3) := by decide +kernel
theorem dX1_raised_29 : decode cX1_raised 29 = .ok (.aload_n 0, 1) := by decide +kernel
theorem dX1_raised_30 : decode cX1_raised 30 = .ok (.lload 5, 2) := by decide +kernel
theorem dX1_raised_32 : decode cX1_raised 32 = .ok (.lload 7, 2) := by decide +kernel
theorem dX1_raised_34 : decode cX1_raised 34 = .ok (.invokevirtual 51, 3) := by decide +kernel
theorem dX1_raised_37 : decode cX1_raised 37 = .ok (.lstore 5, 2) := by decide +kernel
theorem dX1_raised_39 : decode cX1_raised 39 = .ok (.aload_n 0, 1) := by decide +kernel
theorem dX1_raised_40 : decode cX1_raised 40 = .ok (.lload 7, 2) := by decide +kernel
theorem dX1_raised_42 : decode cX1_raised 42 = .ok (.lload 7, 2) := by decide +kernel
theorem dX1_raised_44 : decode cX1_raised 44 = .ok (.invokevirtual 51, 3) := by decide +kernel
theorem dX1_raised_47 : decode cX1_raised 47 = .ok (.lstore 7, 2) := by decide +kernel
theorem dX1_raised_49 : decode cX1_raised 49 = .ok (.lload 9, 2) := by decide +kernel
theorem dX1_raised_51 : decode cX1_raised 51 = .ok (.iconst 1, 1) := by decide +kernel
theorem dX1_raised_52 : decode cX1_raised 52 = .ok (.lshr, 1) := by decide +kernel
theorem dX1_raised_53 : decode cX1_raised 53 = .ok (.lstore 9, 2) := by decide +kernel
theorem dX1_raised_55 : decode cX1_raised 55 = .ok (.goto (-44), 3) := by decide +kernel
theorem dX1_raised_58 : decode cX1_raised 58 = .ok (.lload 5, 2) := by decide +kernel
theorem dX1_raised_60 : decode cX1_raised 60 = .ok (.lreturn, 1) := by decide +kernel
set_option maxRecDepth 20000 in
theorem ggX1_bitsBehindHighest_J13_numberOfLeadingZeros_95d88 : GoodIn wsX1_bitsBehindHighest wsJ13_numberOfLeadingZeros_95d88 := goodIn_r _ [5, 6, 7, 8, 9, 10] (by decide +kernel) (by decide +kernel)
set_option maxRecDepth 20000 in
theorem gX1_bitsBehindHighest_J13_numberOfLeadingZeros_95d88 : GoodIn wsX1_bitsBehindHighest (va_wsS RX1 54 yJ13_numberOfLeadingZeros_95d88 wsJ13_numberOfLeadingZeros_95d88) := goodIn_app (goodIn_of _ (by decide +kernel)) ggX1_bitsBehindHighest_J13_numberOfLeadingZeros_95d88
theorem dX1_bitsBehindHighest_0 : decode cX1_bitsBehindHighest 0 = .ok (.bipush 63, 2) := by decide +kernel
theorem dX1_bitsBehindHighest_2 : decode cX1_bitsBehindHighest 2 = .ok (.aload_n 0, 1) := by decide +kernel
theorem dX1_bitsBehindHighest_3 : decode cX1_bitsBehindHighest 3 = .ok (.getfield 25, 3) := by decide +kernel
theorem dX1_bitsBehindHighest_6 : decode cX1_bitsBehindHighest 6 = .ok (.invokestatic 54, 3) := by decide +kernel
theorem dX1_bitsBehindHighest_9 : decode cX1_bitsBehindHighest 9 = .ok (.isub, 1) := by decide +kernel
theorem dX1_bitsBehindHighest_10 : decode cX1_bitsBehindHighest 10 = .ok (.ireturn, 1) := by decide +kernel
set_option maxRecDepth 20000 in
theorem ggX1_linesOf_X1_bitsBehindHighest : GoodIn wsX1_linesOf wsX1_bitsBehindHighest := goodIn_r _ [7, 2, 8, 9, 10, 11, 12, 13, 14, 15, 16, 23, 24, 25] (by decide +kernel) (by decide +kernel)
set_option maxRecDepth 20000 in
theorem gX1_linesOf_X1_bitsBehindHighest : GoodIn wsX1_linesOf (wsV RX1 60 RX1 yX1_bitsBehindHighest wsX1_bitsBehindHighest) := goodIn_app (goodIn_of _ (by decide +kernel)) ggX1_linesOf_X1_bitsBehindHighest
set_option maxRecDepth 20000 in
theorem ggX1_linesOf_J13_bitCount_95d88 : GoodIn wsX1_linesOf wsJ13_bitCount_95d88 := goodIn_r _ [19, 20, 21, 22] (by decide +kernel) (by decide +kernel)
set_option maxRecDepth 20000 in
theorem gX1_linesOf_J13_bitCount_95d88 : GoodIn wsX1_linesOf (va_wsS RX1 64 yJ13_bitCount_95d88 wsJ13_bitCount_95d88) := goodIn_app (goodIn_of _ (by decide +kernel)) ggX1_linesOf_J13_bitCount_95d88
theorem dX1_linesOf_0 : decode cX1_linesOf 0 = .ok (.lload_n 1, 1) := by decide +kernel
theorem dX1_linesOf_1 : decode cX1_linesOf 1 = .ok (.ldc2_w 30, 3) := by decide +kernel
theorem dX1_linesOf_4 : decode cX1_linesOf 4 = .ok (.lcmp, 1) := by decide +kernel
theorem dX1_linesOf_5 : decode cX1_linesOf 5 = .ok (.ifCond .eq 11, 3) := by decide +kernel
theorem dX1_linesOf_8 : decode cX1_linesOf 8 = .ok (.lload_n 3, 1) := by decide +kernel
theorem dX1_linesOf_9 : decode cX1_linesOf 9 = .ok (.ldc2_w 30, 3) := by decide +kernel
theorem dX1_linesOf_12 : decode cX1_linesOf 12 = .ok (.lcmp, 1) := by decide +kernel
theorem dX1_linesOf_13 : decode cX1_linesOf 13 = .ok (.ifCond .ne 7, 3) := by decide +kernel
theorem dX1_linesOf_16 : decode cX1_linesOf 16 = .ok (.iconst 0, 1) := by decide +kernel
theorem dX1_linesOf_17 : decode cX1_linesOf 17 = .ok (.goto 17, 3) := by decide +kernel
theorem dX1_linesOf_20 : decode cX1_linesOf 20 = .ok (.aload_n 0, 1) := by decide +kernel
theorem dX1_linesOf_21 : decode cX1_linesOf 21 = .ok (.invokevirtual 60, 3) := by decide +kernel
theorem dX1_linesOf_24 : decode cX1_linesOf 24 = .ok (.aload_n 0, 1) := by decide +kernel
theorem dX1_linesOf_25 : decode cX1_linesOf 25 = .ok (.getfield 25, 3) := by decide +kernel
theorem dX1_linesOf_28 : decode cX1_linesOf 28 = .ok (.invokestatic 64, 3) := by decide +kernel
theorem dX1_linesOf_31 : decode cX1_linesOf 31 = .ok (.iadd, 1) := by decide +kernel
theorem dX1_linesOf_32 : decode cX1_linesOf 32 = .ok (.iconst 1, 1) := by decide +kernel
theorem dX1_linesOf_33 : decode cX1_linesOf 33 = .ok (.isub, 1) := by decide +kernel
theorem dX1_linesOf_34 : decode cX1_linesOf 34 = .ok (.ireturn, 1) := by decide +kernel
set_option maxRecDepth 20000 in
theorem ggX1_of_X1_bitsBehindHighest : GoodIn wsX1_of wsX1_bitsBehindHighest := goodIn_r _ [10, 4, 11, 12, 13, 14, 15, 16, 17, 18, 19, 82, 83, 84] (by decide +kernel) (by decide +kernel)
set_option maxRecDepth 20000 in
theorem gX1_of_X1_bitsBehindHighest : GoodIn wsX1_of (wsV RX1 60 RX1 yX1_bitsBehindHighest wsX1_bitsBehindHighest) := goodIn_app (goodIn_of _ (by decide +kernel)) ggX1_of_X1_bitsBehindHighest
set_option maxRecDepth 20000 in
theorem ggX1_of_X1_product : GoodIn wsX1_of wsX1_product := goodIn_r _ [23, 5, 24, 25, 26, 27, 28, 29, 30, 31, 32, 33, 34, 35, 82, 83, 84] (by decide +kernel) (by decide +kernel)
set_option maxRecDepth 20000 in
theorem gX1_of_X1_product : GoodIn wsX1_of (wsV RX1 51 RX1 yX1_product wsX1_product) := goodIn_app (goodIn_of _ (by decide +kernel)) ggX1_of_X1_product
set_option maxRecDepth 20000 in
theorem ggX1_of_X1_line : GoodIn wsX1_of wsX1_line := goodIn_r _ [39, 1, 2, 3, 40, 5, 24, 25, 26, 41, 42, 43, 44, 45, 46, 47, 48, 49, 50, 51, 52, 27, 28, 29, 34, 35, 53, 54, 55, 56, 57, 58, 59, 60, 61, 62, 63, 64, 65, 66, 67, 68, 69, 82, 83, 84, 85, 86, 87, 88, 89, 90, 91] (by decide +kernel) (by decide +kernel)
set_option maxRecDepth 20000 in
theorem gX1_of_X1_line : GoodIn wsX1_of (wsV RX1 67 RX1 yX1_line wsX1_line) := goodIn_app (goodIn_of _ (by decide +kernel)) ggX1_of_X1_line
set_option maxRecDepth 20000 in
theorem ggX1_of_X0_sum : GoodIn wsX1_of wsX0_sum := goodIn_r _ [73, 74, 58, 75, 48, 49, 50, 51, 52, 24, 25, 26, 27, 28, 29, 76, 54, 55, 56, 57, 59, 60, 61, 62, 44, 63, 46, 64, 65, 66, 67, 68, 42, 43, 45, 34, 35, 85, 86, 87, 88, 89, 90, 91] (by decide +kernel) (by decide +kernel)
set_option maxRecDepth 20000 in
theorem gX1_of_X0_sum : GoodIn wsX1_of (wsV RX1 71 RX0 yX0_sum wsX0_sum) := goodIn_app (goodIn_of _ (by decide +kernel)) ggX1_of_X0_sum
set_option maxRecDepth 20000 in
theorem ggX1_of_X1_raised : GoodIn wsX1_of wsX1_raised := goodIn_r _ [80, 2, 81, 20, 21, 22, 9, 23, 5, 24, 25, 26, 27, 28, 29, 30, 31, 32, 33, 34, 35, 82, 83, 84] (by decide +kernel) (by decide +kernel)
set_option maxRecDepth 20000 in
theorem gX1_of_X1_raised : GoodIn wsX1_of (wsV RX1 74 RX1 yX1_raised wsX1_raised) := goodIn_app (goodIn_of _ (by decide +kernel)) ggX1_of_X1_raised
theorem dX1_of_0 : decode cX1_of 0 = .ok (.lload_n 1, 1) := by decide +kernel
theorem dX1_of_1 : decode cX1_of 1 = .ok (.ldc2_w 30, 3) := by decide +kernel
theorem dX1_of_4 : decode cX1_of 4 = .ok (.lcmp, 1) := by decide +kernel
theorem dX1_of_5 : decode cX1_of 5 = .ok (.ifCond .eq 11, 3) := by decide +kernel
theorem dX1_of_8 : decode cX1_of 8 = .ok (.lload_n 3, 1) := by decide +kernel
theorem dX1_of_9 : decode cX1_of 9 = .ok (.ldc2_w 30, 3) := by decide +kernel
theorem dX1_of_12 : decode cX1_of 12 = .ok (.lcmp, 1) := by decide +kernel
theorem dX1_of_13 : decode cX1_of 13 = .ok (.ifCond .ne 7, 3) := by decide +kernel
theorem dX1_of_16 : decode cX1_of 16 = .ok (.ldc2_w 47, 3) := by decide +kernel
theorem dX1_of_19 : decode cX1_of 19 = .ok (.lreturn, 1) := by decide +kernel
theorem dX1_of_20 : decode cX1_of 20 = .ok (.ldc2_w 47, 3) := by decide +kernel
theorem dX1_of_23 : decode cX1_of 23 = .ok (.lstore 5, 2) := by decide +kernel
theorem dX1_of_25 : decode cX1_of 25 = .ok (.lload_n 1, 1) := by decide +kernel
theorem dX1_of_26 : decode cX1_of 26 = .ok (.lstore 7, 2) := by decide +kernel
theorem dX1_of_28 : decode cX1_of 28 = .ok (.aload_n 0, 1) := by decide +kernel
theorem dX1_of_29 : decode cX1_of 29 = .ok (.invokevirtual 60, 3) := by decide +kernel
theorem dX1_of_32 : decode cX1_of 32 = .ok (.iconst 1, 1) := by decide +kernel
theorem dX1_of_33 : decode cX1_of 33 = .ok (.isub, 1) := by decide +kernel
theorem dX1_of_34 : decode cX1_of 34 = .ok (.istore 9, 2) := by decide +kernel
theorem dX1_of_36 : decode cX1_of 36 = .ok (.iload 9, 2) := by decide +kernel
theorem dX1_of_38 : decode cX1_of 38 = .ok (.ifCond .lt 87, 3) := by decide +kernel
theorem dX1_of_41 : decode cX1_of 41 = .ok (.aload_n 0, 1) := by decide +kernel
theorem dX1_of_42 : decode cX1_of 42 = .ok (.aload_n 0, 1) := by decide +kernel
theorem dX1_of_43 : decode cX1_of 43 = .ok (.lload 5, 2) := by decide +kernel
theorem dX1_of_45 : decode cX1_of 45 = .ok (.lload 5, 2) := by decide +kernel
theorem dX1_of_47 : decode cX1_of 47 = .ok (.invokevirtual 51, 3) := by decide +kernel
theorem dX1_of_50 : decode cX1_of 50 = .ok (.aload_n 0, 1) := by decide +kernel
theorem dX1_of_51 : decode cX1_of 51 = .ok (.lload 7, 2) := by decide +kernel
theorem dX1_of_53 : decode cX1_of 53 = .ok (.lload 7, 2) := by decide +kernel
theorem dX1_of_55 : decode cX1_of 55 = .ok (.lload_n 3, 1) := by decide +kernel
theorem dX1_of_56 : decode cX1_of 56 = .ok (.invokevirtual 67, 3) := by decide +kernel
theorem dX1_of_59 : decode cX1_of 59 = .ok (.invokevirtual 51, 3) := by decide +kernel
theorem dX1_of_62 : decode cX1_of 62 = .ok (.lstore 5, 2) := by decide +kernel
theorem dX1_of_64 : decode cX1_of 64 = .ok (.aload_n 0, 1) := by decide +kernel
theorem dX1_of_65 : decode cX1_of 65 = .ok (.getfield 9, 3) := by decide +kernel
theorem dX1_of_68 : decode cX1_of 68 = .ok (.lload 7, 2) := by decide +kernel
theorem dX1_of_70 : decode cX1_of 70 = .ok (.lload 7, 2) := by decide +kernel
theorem dX1_of_72 : decode cX1_of 72 = .ok (.invokevirtual 71, 3) := by decide +kernel
theorem dX1_of_75 : decode cX1_of 75 = .ok (.lstore 7, 2) := by decide +kernel
theorem dX1_of_77 : decode cX1_of 77 = .ok (.aload_n 0, 1) := by decide +kernel
theorem dX1_of_78 : decode cX1_of 78 = .ok (.getfield 25, 3) := by decide +kernel
theorem dX1_of_81 : decode cX1_of 81 = .ok (.iload 9, 2) := by decide +kernel
theorem dX1_of_83 : decode cX1_of 83 = .ok (.lshr, 1) := by decide +kernel
theorem dX1_of_84 : decode cX1_of 84 = .ok (.lconst 1, 1) := by decide +kernel
theorem dX1_of_85 : decode cX1_of 85 = .ok (.land, 1) := by decide +kernel
theorem dX1_of_86 : decode cX1_of 86 = .ok (.lconst 1, 1) := by decide +kernel
theorem dX1_of_87 : decode cX1_of 87 = .ok (.lcmp, 1) := by decide +kernel
theorem dX1_of_88 : decode cX1_of 88 = .ok (.ifCond .ne 31, 3) := by decide +kernel
theorem dX1_of_91 : decode cX1_of 91 = .ok (.aload_n 0, 1) := by decide +kernel
theorem dX1_of_92 : decode cX1_of 92 = .ok (.lload 5, 2) := by decide +kernel
theorem dX1_of_94 : decode cX1_of 94 = .ok (.aload_n 0, 1) := by decide +kernel
theorem dX1_of_95 : decode cX1_of 95 = .ok (.lload 7, 2) := by decide +kernel
theorem dX1_of_97 : decode cX1_of 97 = .ok (.lload_n 1, 1) := by decide +kernel
theorem dX1_of_98 : decode cX1_of 98 = .ok (.lload_n 3, 1) := by decide +kernel
theorem dX1_of_99 : decode cX1_of 99 = .ok (.invokevirtual 67, 3) := by decide +kernel
theorem dX1_of_102 : decode cX1_of 102 = .ok (.invokevirtual 51, 3) := by decide +kernel
theorem dX1_of_105 : decode cX1_of 105 = .ok (.lstore 5, 2) := by decide +kernel
theorem dX1_of_107 : decode cX1_of 107 = .ok (.aload_n 0, 1) := by decide +kernel
theorem dX1_of_108 : decode cX1_of 108 = .ok (.getfield 9, 3) := by decide +kernel
theorem dX1_of_111 : decode cX1_of 111 = .ok (.lload 7, 2) := by decide +kernel
theorem dX1_of_113 : decode cX1_of 113 = .ok (.lload_n 1, 1) := by decide +kernel
theorem dX1_of_114 : decode cX1_of 114 = .ok (.invokevirtual 71, 3) := by decide +kernel
theorem dX1_of_117 : decode cX1_of 117 = .ok (.lstore 7, 2) := by decide +kernel
theorem dX1_of_119 : decode cX1_of 119 = .ok (.iinc 9 (-1), 3) := by decide +kernel
theorem dX1_of_122 : decode cX1_of 122 = .ok (.goto (-86), 3) := by decide +kernel
theorem dX1_of_125 : decode cX1_of 125 = .ok (.aload_n 0, 1) := by decide +kernel
theorem dX1_of_126 : decode cX1_of 126 = .ok (.lload 5, 2) := by decide +kernel
theorem dX1_of_128 : decode cX1_of 128 = .ok (.aload_n 0, 1) := by decide +kernel
theorem dX1_of_129 : decode cX1_of 129 = .ok (.getfield 21, 3) := by decide +kernel
theorem dX1_of_132 : decode cX1_of 132 = .ok (.aload_n 0, 1) := by decide +kernel
theorem dX1_of_133 : decode cX1_of 133 = .ok (.getfield 21, 3) := by decide +kernel
theorem dX1_of_136 : decode cX1_of 136 = .ok (.lmul, 1) := by decide +kernel
theorem dX1_of_137 : decode cX1_of 137 = .ok (.lconst 1, 1) := by decide +kernel
theorem dX1_of_138 : decode cX1_of 138 = .ok (.lsub, 1) := by decide +kernel
theorem dX1_of_139 : decode cX1_of 139 = .ok (.aload_n 0, 1) := by decide +kernel
theorem dX1_of_140 : decode cX1_of 140 = .ok (.getfield 25, 3) := by decide +kernel
theorem dX1_of_143 : decode cX1_of 143 = .ok (.ldiv, 1) := by decide +kernel
theorem dX1_of_144 : decode cX1_of 144 = .ok (.invokevirtual 74, 3) := by decide +kernel
theorem dX1_of_147 : decode cX1_of 147 = .ok (.lreturn, 1) := by decide +kernel
set_option maxRecDepth 20000 in
theorem ggX1_line_X3_upper : GoodIn wsX1_line wsX3_upper := goodIn_r _ [8] (by decide +kernel) (by decide +kernel)
set_option maxRecDepth 20000 in
theorem gX1_line_X3_upper_n32 : GoodIn wsX1_line (wsX3_upper) := ggX1_line_X3_upper
set_option maxRecDepth 20000 in
theorem ggX1_line_X2_difference : GoodIn wsX1_line wsX2_difference := goodIn_r _ [13, 14, 52] (by decide +kernel) (by decide +kernel)
set_option maxRecDepth 20000 in
theorem gX1_line_X2_difference : GoodIn wsX1_line (wsV RX1 81 RX2 yX2_difference wsX2_difference) := goodIn_app (goodIn_of _ (by decide +kernel)) ggX1_line_X2_difference
set_option maxRecDepth 20000 in
theorem ggX1_line_X0_areOpposite : GoodIn wsX1_line wsX0_areOpposite := goodIn_r _ [19, 20, 6, 7, 8, 21, 22, 23, 46, 47, 48, 49, 50, 51] (by decide +kernel) (by decide +kernel)
set_option maxRecDepth 20000 in
theorem gX1_line_X0_areOpposite : GoodIn wsX1_line (wsV RX1 86 RX0 yX0_areOpposite wsX0_areOpposite) := goodIn_app (goodIn_of _ (by decide +kernel)) ggX1_line_X0_areOpposite
set_option maxRecDepth 20000 in
theorem ggX1_line_X3_joined : GoodIn wsX1_line wsX3_joined := goodIn_r _ [25] (by decide +kernel) (by decide +kernel)
set_option maxRecDepth 20000 in
theorem gX1_line_X3_joined_n44 : GoodIn wsX1_line (wsX3_joined) := ggX1_line_X3_joined
set_option maxRecDepth 20000 in
theorem ggX1_line_X0_slope : GoodIn wsX1_line wsX0_slope := goodIn_r _ [29, 30, 31, 20, 32, 6, 7, 8, 21, 22, 23, 33, 34, 35, 12, 36, 14, 37, 38, 39, 40, 41, 10, 11, 13, 46, 47, 48, 49, 50, 51, 52] (by decide +kernel) (by decide +kernel)
set_option maxRecDepth 20000 in
theorem gX1_line_X0_slope : GoodIn wsX1_line (wsV RX1 90 RX0 yX0_slope wsX0_slope) := goodIn_app (goodIn_of _ (by decide +kernel)) ggX1_line_X0_slope
set_option maxRecDepth 20000 in
theorem ggX1_line_X2_product : GoodIn wsX1_line wsX2_product := goodIn_r _ [36, 14, 52] (by decide +kernel) (by decide +kernel)
set_option maxRecDepth 20000 in
theorem gX1_line_X2_product : GoodIn wsX1_line (wsV RX1 93 RX2 yX2_product wsX2_product) := goodIn_app (goodIn_of _ (by decide +kernel)) ggX1_line_X2_product
set_option maxRecDepth 20000 in
theorem ggX1_line_X3_lower : GoodIn wsX1_line wsX3_lower := goodIn_r _ [22, 23] (by decide +kernel) (by decide +kernel)
set_option maxRecDepth 20000 in
theorem gX1_line_X3_lower_n36 : GoodIn wsX1_line (wsX3_lower) := ggX1_line_X3_lower
theorem dX1_line_0 : decode cX1_line 0 = .ok (.lload_n 1, 1) := by decide +kernel
theorem dX1_line_1 : decode cX1_line 1 = .ok (.ldc2_w 30, 3) := by decide +kernel
theorem dX1_line_4 : decode cX1_line 4 = .ok (.lcmp, 1) := by decide +kernel
theorem dX1_line_5 : decode cX1_line 5 = .ok (.ifCond .eq 11, 3) := by decide +kernel
theorem dX1_line_8 : decode cX1_line 8 = .ok (.lload_n 3, 1) := by decide +kernel
theorem dX1_line_9 : decode cX1_line 9 = .ok (.ldc2_w 30, 3) := by decide +kernel
theorem dX1_line_12 : decode cX1_line 12 = .ok (.lcmp, 1) := by decide +kernel
theorem dX1_line_13 : decode cX1_line 13 = .ok (.ifCond .ne 7, 3) := by decide +kernel
theorem dX1_line_16 : decode cX1_line 16 = .ok (.ldc2_w 47, 3) := by decide +kernel
theorem dX1_line_19 : decode cX1_line 19 = .ok (.lreturn, 1) := by decide +kernel
theorem dX1_line_20 : decode cX1_line 20 = .ok (.aload_n 0, 1) := by decide +kernel
theorem dX1_line_21 : decode cX1_line 21 = .ok (.getfield 9, 3) := by decide +kernel
theorem dX1_line_24 : decode cX1_line 24 = .ok (.getfield 77, 3) := by decide +kernel
theorem dX1_line_27 : decode cX1_line 27 = .ok (.aload_n 0, 1) := by decide +kernel
theorem dX1_line_28 : decode cX1_line 28 = .ok (.getfield 21, 3) := by decide +kernel
theorem dX1_line_31 : decode cX1_line 31 = .ok (.lload 5, 2) := by decide +kernel
theorem dX1_line_33 : decode cX1_line 33 = .ok (.invokestatic 32, 3) := by decide +kernel
theorem dX1_line_36 : decode cX1_line 36 = .ok (.lsub, 1) := by decide +kernel
theorem dX1_line_37 : decode cX1_line 37 = .ok (.aload_n 0, 1) := by decide +kernel
theorem dX1_line_38 : decode cX1_line 38 = .ok (.getfield 21, 3) := by decide +kernel
theorem dX1_line_41 : decode cX1_line 41 = .ok (.lrem, 1) := by decide +kernel
theorem dX1_line_42 : decode cX1_line 42 = .ok (.lload_n 1, 1) := by decide +kernel
theorem dX1_line_43 : decode cX1_line 43 = .ok (.invokestatic 32, 3) := by decide +kernel
theorem dX1_line_46 : decode cX1_line 46 = .ok (.invokevirtual 81, 3) := by decide +kernel
theorem dX1_line_49 : decode cX1_line 49 = .ok (.lstore 7, 2) := by decide +kernel
theorem dX1_line_51 : decode cX1_line 51 = .ok (.aload_n 0, 1) := by decide +kernel
theorem dX1_line_52 : decode cX1_line 52 = .ok (.getfield 9, 3) := by decide +kernel
theorem dX1_line_55 : decode cX1_line 55 = .ok (.lload_n 1, 1) := by decide +kernel
theorem dX1_line_56 : decode cX1_line 56 = .ok (.lload_n 3, 1) := by decide +kernel
theorem dX1_line_57 : decode cX1_line 57 = .ok (.invokevirtual 86, 3) := by decide +kernel
theorem dX1_line_60 : decode cX1_line 60 = .ok (.ifCond .eq 10, 3) := by decide +kernel
theorem dX1_line_63 : decode cX1_line 63 = .ok (.lload 7, 2) := by decide +kernel
theorem dX1_line_65 : decode cX1_line 65 = .ok (.lconst 0, 1) := by decide +kernel
theorem dX1_line_66 : decode cX1_line 66 = .ok (.invokestatic 44, 3) := by decide +kernel
theorem dX1_line_69 : decode cX1_line 69 = .ok (.lreturn, 1) := by decide +kernel
theorem dX1_line_70 : decode cX1_line 70 = .ok (.aload_n 0, 1) := by decide +kernel
theorem dX1_line_71 : decode cX1_line 71 = .ok (.getfield 9, 3) := by decide +kernel
theorem dX1_line_74 : decode cX1_line 74 = .ok (.getfield 77, 3) := by decide +kernel
theorem dX1_line_77 : decode cX1_line 77 = .ok (.aload_n 0, 1) := by decide +kernel
theorem dX1_line_78 : decode cX1_line 78 = .ok (.getfield 9, 3) := by decide +kernel
theorem dX1_line_81 : decode cX1_line 81 = .ok (.lload_n 1, 1) := by decide +kernel
theorem dX1_line_82 : decode cX1_line 82 = .ok (.lload_n 3, 1) := by decide +kernel
theorem dX1_line_83 : decode cX1_line 83 = .ok (.invokevirtual 90, 3) := by decide +kernel
theorem dX1_line_86 : decode cX1_line 86 = .ok (.lload 7, 2) := by decide +kernel
theorem dX1_line_88 : decode cX1_line 88 = .ok (.invokevirtual 93, 3) := by decide +kernel
theorem dX1_line_91 : decode cX1_line 91 = .ok (.lstore 9, 2) := by decide +kernel
theorem dX1_line_93 : decode cX1_line 93 = .ok (.aload_n 0, 1) := by decide +kernel
theorem dX1_line_94 : decode cX1_line 94 = .ok (.getfield 9, 3) := by decide +kernel
theorem dX1_line_97 : decode cX1_line 97 = .ok (.getfield 77, 3) := by decide +kernel
theorem dX1_line_100 : decode cX1_line 100 = .ok (.aload_n 0, 1) := by decide +kernel
theorem dX1_line_101 : decode cX1_line 101 = .ok (.getfield 21, 3) := by decide +kernel
theorem dX1_line_104 : decode cX1_line 104 = .ok (.lload_n 1, 1) := by decide +kernel
theorem dX1_line_105 : decode cX1_line 105 = .ok (.invokestatic 36, 3) := by decide +kernel
theorem dX1_line_108 : decode cX1_line 108 = .ok (.lsub, 1) := by decide +kernel
theorem dX1_line_109 : decode cX1_line 109 = .ok (.aload_n 0, 1) := by decide +kernel
theorem dX1_line_110 : decode cX1_line 110 = .ok (.getfield 21, 3) := by decide +kernel
theorem dX1_line_113 : decode cX1_line 113 = .ok (.lrem, 1) := by decide +kernel
theorem dX1_line_114 : decode cX1_line 114 = .ok (.lload 9, 2) := by decide +kernel
theorem dX1_line_116 : decode cX1_line 116 = .ok (.invokevirtual 81, 3) := by decide +kernel
theorem dX1_line_119 : decode cX1_line 119 = .ok (.lload 5, 2) := by decide +kernel
theorem dX1_line_121 : decode cX1_line 121 = .ok (.invokestatic 36, 3) := by decide +kernel
theorem dX1_line_124 : decode cX1_line 124 = .ok (.invokestatic 44, 3) := by decide +kernel
theorem dX1_line_127 : decode cX1_line 127 = .ok (.lreturn, 1) := by decide +kernel
set_option maxRecDepth 20000 in
theorem ggX1_agree_X1_takes : GoodIn wsX1_agree wsX1_takes := goodIn_r _ [8, 2, 9, 10, 11, 12, 13, 14, 15, 16, 17, 18, 19, 20, 21, 22, 23, 24, 25, 26, 27, 28, 29, 30, 31, 32, 33, 34, 35, 36, 37, 38, 39, 40, 41, 42, 43, 44, 45, 46, 47, 48, 49, 50, 51, 52, 53, 54, 55, 56, 57, 58, 124, 125, 126, 127, 128, 129, 130, 131, 132, 133] (by decide +kernel) (by decide +kernel)
set_option maxRecDepth 20000 in
theorem gX1_agree_X1_takes : GoodIn wsX1_agree (wsV RX1 94 RX1 yX1_takes wsX1_takes) := goodIn_app (goodIn_of _ (by decide +kernel)) ggX1_agree_X1_takes
set_option maxRecDepth 20000 in
theorem ggX1_agree_X1_takeAll : GoodIn wsX1_agree wsX1_takeAll := goodIn_r _ [62, 10, 4, 5, 6, 7, 8, 2, 9, 11, 12, 13, 14, 15, 16, 17, 18, 19, 20, 21, 22, 23, 24, 25, 26, 27, 28, 29, 30, 31, 32, 33, 34, 35, 36, 37, 38, 39, 40, 41, 42, 43, 44, 45, 46, 47, 48, 49, 50, 51, 52, 53, 54, 55, 56, 57, 58, 124, 125, 126, 127, 128, 129, 130, 131, 132, 133] (by decide +kernel) (by decide +kernel)
set_option maxRecDepth 20000 in
theorem gX1_agree_X1_takeAll : GoodIn wsX1_agree (wsV RX1 98 RX1 yX1_takeAll wsX1_takeAll) := goodIn_app (goodIn_of _ (by decide +kernel)) ggX1_agree_X1_takeAll
set_option maxRecDepth 20000 in
theorem ggX1_agree_X0_turned : GoodIn wsX1_agree wsX0_turned := goodIn_r _ [66, 67, 27, 68, 16, 17, 69, 70, 71, 14, 72, 18, 73, 74, 75, 76, 43, 44, 45, 46, 47, 48, 77, 78, 79, 80, 81, 82, 83, 84, 57, 33, 58, 85, 12, 13, 15, 19, 20, 21, 22, 23, 24, 25, 26, 28, 29, 30, 31, 32, 34, 35, 36, 37, 38, 39, 40, 41, 42, 49, 50, 51, 52, 53, 54, 55, 56, 127, 128, 129, 130, 131, 132, 133] (by decide +kernel) (by decide +kernel)
set_option maxRecDepth 20000 in
theorem gX1_agree_X0_turned : GoodIn wsX1_agree (wsV RX1 102 RX0 yX0_turned wsX0_turned) := goodIn_app (goodIn_of _ (by decide +kernel)) ggX1_agree_X0_turned
set_option maxRecDepth 20000 in
theorem ggX1_agree_X1_of : GoodIn wsX1_agree wsX1_of := goodIn_r _ [89, 10, 1, 2, 9, 90, 91, 92, 93, 7, 94, 95, 96, 97, 98, 99, 100, 101, 102, 103, 104, 105, 106, 107, 32, 33, 34, 35, 36, 37, 108, 20, 21, 22, 57, 58, 109, 110, 111, 112, 113, 114, 54, 55, 46, 56, 48, 115, 29, 30, 14, 31, 17, 116, 39, 40, 41, 42, 27, 18, 43, 44, 45, 47, 49, 50, 51, 52, 53, 117, 118, 24, 25, 26, 16, 28, 38, 119, 120, 121, 122, 123, 124, 125, 126, 127, 128, 129, 130, 131, 132, 133] (by decide +kernel) (by decide +kernel)
set_option maxRecDepth 20000 in
theorem gX1_agree_X1_of : GoodIn wsX1_agree (wsV RX1 105 RX1 yX1_of wsX1_of) := goodIn_app (goodIn_of _ (by decide +kernel)) ggX1_agree_X1_of
set_option maxRecDepth 20000 in
theorem ggX1_agree_X1_product : GoodIn wsX1_agree wsX1_product := goodIn_r _ [107, 90, 32, 33, 34, 35, 36, 37, 108, 20, 21, 22, 57, 58, 124, 125, 126] (by decide +kernel) (by decide +kernel)
set_option maxRecDepth 20000 in
theorem gX1_agree_X1_product : GoodIn wsX1_agree (wsV RX1 51 RX1 yX1_product wsX1_product) := goodIn_app (goodIn_of _ (by decide +kernel)) ggX1_agree_X1_product
theorem dX1_agree_0 : decode cX1_agree 0 = .ok (.aload_n 0, 1) := by decide +kernel
theorem dX1_agree_1 : decode cX1_agree 1 = .ok (.lload_n 1, 1) := by decide +kernel
theorem dX1_agree_2 : decode cX1_agree 2 = .ok (.invokevirtual 94, 3) := by decide +kernel
theorem dX1_agree_5 : decode cX1_agree 5 = .ok (.ifCond .eq 15, 3) := by decide +kernel
theorem dX1_agree_8 : decode cX1_agree 8 = .ok (.aload_n 0, 1) := by decide +kernel
theorem dX1_agree_9 : decode cX1_agree 9 = .ok (.aload_n 3, 1) := by decide +kernel
theorem dX1_agree_10 : decode cX1_agree 10 = .ok (.iload 4, 2) := by decide +kernel
theorem dX1_agree_12 : decode cX1_agree 12 = .ok (.iload 5, 2) := by decide +kernel
theorem dX1_agree_14 : decode cX1_agree 14 = .ok (.invokevirtual 98, 3) := by decide +kernel
theorem dX1_agree_17 : decode cX1_agree 17 = .ok (.ifCond .ne 5, 3) := by decide +kernel
theorem dX1_agree_20 : decode cX1_agree 20 = .ok (.iconst 0, 1) := by decide +kernel
theorem dX1_agree_21 : decode cX1_agree 21 = .ok (.ireturn, 1) := by decide +kernel
theorem dX1_agree_22 : decode cX1_agree 22 = .ok (.ldc2_w 47, 3) := by decide +kernel
theorem dX1_agree_25 : decode cX1_agree 25 = .ok (.lstore 8, 2) := by decide +kernel
theorem dX1_agree_27 : decode cX1_agree 27 = .ok (.iconst 0, 1) := by decide +kernel
theorem dX1_agree_28 : decode cX1_agree 28 = .ok (.istore 10, 2) := by decide +kernel
theorem dX1_agree_30 : decode cX1_agree 30 = .ok (.iload 10, 2) := by decide +kernel
theorem dX1_agree_32 : decode cX1_agree 32 = .ok (.iload 5, 2) := by decide +kernel
theorem dX1_agree_34 : decode cX1_agree 34 = .ok (.if_icmp .ge 41, 3) := by decide +kernel
theorem dX1_agree_37 : decode cX1_agree 37 = .ok (.aload_n 0, 1) := by decide +kernel
theorem dX1_agree_38 : decode cX1_agree 38 = .ok (.lload 8, 2) := by decide +kernel
theorem dX1_agree_40 : decode cX1_agree 40 = .ok (.aload_n 0, 1) := by decide +kernel
theorem dX1_agree_41 : decode cX1_agree 41 = .ok (.aload_n 0, 1) := by decide +kernel
theorem dX1_agree_42 : decode cX1_agree 42 = .ok (.getfield 9, 3) := by decide +kernel
theorem dX1_agree_45 : decode cX1_agree 45 = .ok (.lload 6, 2) := by decide +kernel
theorem dX1_agree_47 : decode cX1_agree 47 = .ok (.iload 10, 2) := by decide +kernel
theorem dX1_agree_49 : decode cX1_agree 49 = .ok (.i2l, 1) := by decide +kernel
theorem dX1_agree_50 : decode cX1_agree 50 = .ok (.ladd, 1) := by decide +kernel
theorem dX1_agree_51 : decode cX1_agree 51 = .ok (.invokevirtual 102, 3) := by decide +kernel
theorem dX1_agree_54 : decode cX1_agree 54 = .ok (.aload_n 3, 1) := by decide +kernel
theorem dX1_agree_55 : decode cX1_agree 55 = .ok (.iload 4, 2) := by decide +kernel
theorem dX1_agree_57 : decode cX1_agree 57 = .ok (.iload 10, 2) := by decide +kernel
theorem dX1_agree_59 : decode cX1_agree 59 = .ok (.iadd, 1) := by decide +kernel
theorem dX1_agree_60 : decode cX1_agree 60 = .ok (.laload, 1) := by decide +kernel
theorem dX1_agree_61 : decode cX1_agree 61 = .ok (.invokevirtual 105, 3) := by decide +kernel
theorem dX1_agree_64 : decode cX1_agree 64 = .ok (.invokevirtual 51, 3) := by decide +kernel
theorem dX1_agree_67 : decode cX1_agree 67 = .ok (.lstore 8, 2) := by decide +kernel
theorem dX1_agree_69 : decode cX1_agree 69 = .ok (.iinc 10 1, 3) := by decide +kernel
theorem dX1_agree_72 : decode cX1_agree 72 = .ok (.goto (-42), 3) := by decide +kernel
theorem dX1_agree_75 : decode cX1_agree 75 = .ok (.aload_n 0, 1) := by decide +kernel
theorem dX1_agree_76 : decode cX1_agree 76 = .ok (.lload_n 1, 1) := by decide +kernel
theorem dX1_agree_77 : decode cX1_agree 77 = .ok (.aload_n 0, 1) := by decide +kernel
theorem dX1_agree_78 : decode cX1_agree 78 = .ok (.getfield 9, 3) := by decide +kernel
theorem dX1_agree_81 : decode cX1_agree 81 = .ok (.getfield 108, 3) := by decide +kernel
theorem dX1_agree_84 : decode cX1_agree 84 = .ok (.invokevirtual 105, 3) := by decide +kernel
theorem dX1_agree_87 : decode cX1_agree 87 = .ok (.lload 8, 2) := by decide +kernel
theorem dX1_agree_89 : decode cX1_agree 89 = .ok (.lcmp, 1) := by decide +kernel
theorem dX1_agree_90 : decode cX1_agree 90 = .ok (.ifCond .ne 7, 3) := by decide +kernel
theorem dX1_agree_93 : decode cX1_agree 93 = .ok (.iconst 1, 1) := by decide +kernel
theorem dX1_agree_94 : decode cX1_agree 94 = .ok (.goto 4, 3) := by decide +kernel
theorem dX1_agree_97 : decode cX1_agree 97 = .ok (.iconst 0, 1) := by decide +kernel
theorem dX1_agree_98 : decode cX1_agree 98 = .ok (.ireturn, 1) := by decide +kernel
set_option maxRecDepth 20000 in
theorem ggX1_takeAll_X1_takes : GoodIn wsX1_takeAll wsX1_takes := goodIn_r _ [6, 7, 8, 1, 9, 10, 11, 12, 13, 14, 15, 16, 17, 18, 19, 20, 21, 22, 23, 24, 25, 26, 27, 28, 29, 30, 31, 32, 33, 34, 35, 36, 37, 38, 39, 40, 41, 42, 43, 44, 45, 46, 47, 48, 49, 50, 51, 52, 53, 54, 55, 56, 57, 58, 59, 60, 61, 62, 63, 64, 65, 66] (by decide +kernel) (by decide +kernel)
set_option maxRecDepth 20000 in
theorem gX1_takeAll_X1_takes : GoodIn wsX1_takeAll (wsV RX1 94 RX1 yX1_takes wsX1_takes) := goodIn_app (goodIn_of _ (by decide +kernel)) ggX1_takeAll_X1_takes
theorem dX1_takeAll_0 : decode cX1_takeAll 0 = .ok (.iload_n 2, 1) := by decide +kernel
theorem dX1_takeAll_1 : decode cX1_takeAll 1 = .ok (.istore 4, 2) := by decide +kernel
theorem dX1_takeAll_3 : decode cX1_takeAll 3 = .ok (.iload 4, 2) := by decide +kernel
theorem dX1_takeAll_5 : decode cX1_takeAll 5 = .ok (.iload_n 2, 1) := by decide +kernel
theorem dX1_takeAll_6 : decode cX1_takeAll 6 = .ok (.iload_n 3, 1) := by decide +kernel
theorem dX1_takeAll_7 : decode cX1_takeAll 7 = .ok (.iadd, 1) := by decide +kernel
theorem dX1_takeAll_8 : decode cX1_takeAll 8 = .ok (.if_icmp .ge 33, 3) := by decide +kernel
theorem dX1_takeAll_11 : decode cX1_takeAll 11 = .ok (.aload_n 1, 1) := by decide +kernel
theorem dX1_takeAll_12 : decode cX1_takeAll 12 = .ok (.iload 4, 2) := by decide +kernel
theorem dX1_takeAll_14 : decode cX1_takeAll 14 = .ok (.laload, 1) := by decide +kernel
theorem dX1_takeAll_15 : decode cX1_takeAll 15 = .ok (.ldc2_w 30, 3) := by decide +kernel
theorem dX1_takeAll_18 : decode cX1_takeAll 18 = .ok (.lcmp, 1) := by decide +kernel
theorem dX1_takeAll_19 : decode cX1_takeAll 19 = .ok (.ifCond .eq 14, 3) := by decide +kernel
theorem dX1_takeAll_22 : decode cX1_takeAll 22 = .ok (.aload_n 0, 1) := by decide +kernel
theorem dX1_takeAll_23 : decode cX1_takeAll 23 = .ok (.aload_n 1, 1) := by decide +kernel
theorem dX1_takeAll_24 : decode cX1_takeAll 24 = .ok (.iload 4, 2) := by decide +kernel
theorem dX1_takeAll_26 : decode cX1_takeAll 26 = .ok (.laload, 1) := by decide +kernel
theorem dX1_takeAll_27 : decode cX1_takeAll 27 = .ok (.invokevirtual 94, 3) := by decide +kernel
theorem dX1_takeAll_30 : decode cX1_takeAll 30 = .ok (.ifCond .ne 5, 3) := by decide +kernel
theorem dX1_takeAll_33 : decode cX1_takeAll 33 = .ok (.iconst 0, 1) := by decide +kernel
theorem dX1_takeAll_34 : decode cX1_takeAll 34 = .ok (.ireturn, 1) := by decide +kernel
theorem dX1_takeAll_35 : decode cX1_takeAll 35 = .ok (.iinc 4 1, 3) := by decide +kernel
theorem dX1_takeAll_38 : decode cX1_takeAll 38 = .ok (.goto (-35), 3) := by decide +kernel
theorem dX1_takeAll_41 : decode cX1_takeAll 41 = .ok (.iconst 1, 1) := by decide +kernel
theorem dX1_takeAll_42 : decode cX1_takeAll 42 = .ok (.ireturn, 1) := by decide +kernel
theorem dX2_init_0 : decode cX2_init 0 = .ok (.aload_n 0, 1) := by decide +kernel
theorem dX2_init_1 : decode cX2_init 1 = .ok (.invokespecial 3, 3) := by decide +kernel
theorem dX2_init_4 : decode cX2_init 4 = .ok (.aload_n 0, 1) := by decide +kernel
theorem dX2_init_5 : decode cX2_init 5 = .ok (.lload_n 1, 1) := by decide +kernel
theorem dX2_init_6 : decode cX2_init 6 = .ok (.putfield 9, 3) := by decide +kernel
theorem dX2_init_9 : decode cX2_init 9 = .ok (.return_, 1) := by decide +kernel
theorem dX2_has_0 : decode cX2_has 0 = .ok (.iload_n 1, 1) := by decide +kernel
theorem dX2_has_1 : decode cX2_has 1 = .ok (.ifCond .lt 17, 3) := by decide +kernel
theorem dX2_has_4 : decode cX2_has 4 = .ok (.iload_n 1, 1) := by decide +kernel
theorem dX2_has_5 : decode cX2_has 5 = .ok (.i2l, 1) := by decide +kernel
theorem dX2_has_6 : decode cX2_has 6 = .ok (.aload_n 0, 1) := by decide +kernel
theorem dX2_has_7 : decode cX2_has 7 = .ok (.getfield 9, 3) := by decide +kernel
theorem dX2_has_10 : decode cX2_has 10 = .ok (.lcmp, 1) := by decide +kernel
theorem dX2_has_11 : decode cX2_has 11 = .ok (.ifCond .ge 7, 3) := by decide +kernel
theorem dX2_has_14 : decode cX2_has 14 = .ok (.iconst 1, 1) := by decide +kernel
theorem dX2_has_15 : decode cX2_has 15 = .ok (.goto 4, 3) := by decide +kernel
theorem dX2_has_18 : decode cX2_has 18 = .ok (.iconst 0, 1) := by decide +kernel
theorem dX2_has_19 : decode cX2_has 19 = .ok (.ireturn, 1) := by decide +kernel
theorem dX2_product_0 : decode cX2_product 0 = .ok (.lload_n 1, 1) := by decide +kernel
theorem dX2_product_1 : decode cX2_product 1 = .ok (.lload_n 3, 1) := by decide +kernel
theorem dX2_product_2 : decode cX2_product 2 = .ok (.lmul, 1) := by decide +kernel
theorem dX2_product_3 : decode cX2_product 3 = .ok (.aload_n 0, 1) := by decide +kernel
theorem dX2_product_4 : decode cX2_product 4 = .ok (.getfield 9, 3) := by decide +kernel
theorem dX2_product_7 : decode cX2_product 7 = .ok (.lrem, 1) := by decide +kernel
theorem dX2_product_8 : decode cX2_product 8 = .ok (.lreturn, 1) := by decide +kernel
theorem dX2_difference_0 : decode cX2_difference 0 = .ok (.lload_n 1, 1) := by decide +kernel
theorem dX2_difference_1 : decode cX2_difference 1 = .ok (.lload_n 3, 1) := by decide +kernel
theorem dX2_difference_2 : decode cX2_difference 2 = .ok (.lcmp, 1) := by decide +kernel
theorem dX2_difference_3 : decode cX2_difference 3 = .ok (.ifCond .ge 14, 3) := by decide +kernel
theorem dX2_difference_6 : decode cX2_difference 6 = .ok (.lload_n 1, 1) := by decide +kernel
theorem dX2_difference_7 : decode cX2_difference 7 = .ok (.lload_n 3, 1) := by decide +kernel
theorem dX2_difference_8 : decode cX2_difference 8 = .ok (.lsub, 1) := by decide +kernel
theorem dX2_difference_9 : decode cX2_difference 9 = .ok (.aload_n 0, 1) := by decide +kernel
theorem dX2_difference_10 : decode cX2_difference 10 = .ok (.getfield 9, 3) := by decide +kernel
theorem dX2_difference_13 : decode cX2_difference 13 = .ok (.ladd, 1) := by decide +kernel
theorem dX2_difference_14 : decode cX2_difference 14 = .ok (.goto 6, 3) := by decide +kernel
theorem dX2_difference_17 : decode cX2_difference 17 = .ok (.lload_n 1, 1) := by decide +kernel
theorem dX2_difference_18 : decode cX2_difference 18 = .ok (.lload_n 3, 1) := by decide +kernel
theorem dX2_difference_19 : decode cX2_difference 19 = .ok (.lsub, 1) := by decide +kernel
theorem dX2_difference_20 : decode cX2_difference 20 = .ok (.lreturn, 1) := by decide +kernel
theorem dX2_inverse_0 : decode cX2_inverse 0 = .ok (.aload_n 0, 1) := by decide +kernel
theorem dX2_inverse_1 : decode cX2_inverse 1 = .ok (.getfield 9, 3) := by decide +kernel
theorem dX2_inverse_4 : decode cX2_inverse 4 = .ok (.lstore_n 3, 1) := by decide +kernel
theorem dX2_inverse_5 : decode cX2_inverse 5 = .ok (.lload_n 1, 1) := by decide +kernel
theorem dX2_inverse_6 : decode cX2_inverse 6 = .ok (.lstore 5, 2) := by decide +kernel
theorem dX2_inverse_8 : decode cX2_inverse 8 = .ok (.lconst 0, 1) := by decide +kernel
theorem dX2_inverse_9 : decode cX2_inverse 9 = .ok (.lstore 7, 2) := by decide +kernel
theorem dX2_inverse_11 : decode cX2_inverse 11 = .ok (.lconst 1, 1) := by decide +kernel
theorem dX2_inverse_12 : decode cX2_inverse 12 = .ok (.lstore 9, 2) := by decide +kernel
theorem dX2_inverse_14 : decode cX2_inverse 14 = .ok (.iconst 0, 1) := by decide +kernel
theorem dX2_inverse_15 : decode cX2_inverse 15 = .ok (.istore 11, 2) := by decide +kernel
theorem dX2_inverse_17 : decode cX2_inverse 17 = .ok (.iload 11, 2) := by decide +kernel
theorem dX2_inverse_19 : decode cX2_inverse 19 = .ok (.bipush 64, 2) := by decide +kernel
theorem dX2_inverse_21 : decode cX2_inverse 21 = .ok (.if_icmp .ge 56, 3) := by decide +kernel
theorem dX2_inverse_24 : decode cX2_inverse 24 = .ok (.lload 5, 2) := by decide +kernel
theorem dX2_inverse_26 : decode cX2_inverse 26 = .ok (.lconst 0, 1) := by decide +kernel
theorem dX2_inverse_27 : decode cX2_inverse 27 = .ok (.lcmp, 1) := by decide +kernel
theorem dX2_inverse_28 : decode cX2_inverse 28 = .ok (.ifCond .eq 49, 3) := by decide +kernel
theorem dX2_inverse_31 : decode cX2_inverse 31 = .ok (.lload_n 3, 1) := by decide +kernel
theorem dX2_inverse_32 : decode cX2_inverse 32 = .ok (.lload 5, 2) := by decide +kernel
theorem dX2_inverse_34 : decode cX2_inverse 34 = .ok (.ldiv, 1) := by decide +kernel
theorem dX2_inverse_35 : decode cX2_inverse 35 = .ok (.lstore 12, 2) := by decide +kernel
theorem dX2_inverse_37 : decode cX2_inverse 37 = .ok (.lload_n 3, 1) := by decide +kernel
theorem dX2_inverse_38 : decode cX2_inverse 38 = .ok (.lload 12, 2) := by decide +kernel
theorem dX2_inverse_40 : decode cX2_inverse 40 = .ok (.lload 5, 2) := by decide +kernel
theorem dX2_inverse_42 : decode cX2_inverse 42 = .ok (.lmul, 1) := by decide +kernel
theorem dX2_inverse_43 : decode cX2_inverse 43 = .ok (.lsub, 1) := by decide +kernel
theorem dX2_inverse_44 : decode cX2_inverse 44 = .ok (.lstore 14, 2) := by decide +kernel
theorem dX2_inverse_46 : decode cX2_inverse 46 = .ok (.lload 7, 2) := by decide +kernel
theorem dX2_inverse_48 : decode cX2_inverse 48 = .ok (.lload 12, 2) := by decide +kernel
theorem dX2_inverse_50 : decode cX2_inverse 50 = .ok (.lload 9, 2) := by decide +kernel
theorem dX2_inverse_52 : decode cX2_inverse 52 = .ok (.lmul, 1) := by decide +kernel
theorem dX2_inverse_53 : decode cX2_inverse 53 = .ok (.lsub, 1) := by decide +kernel
theorem dX2_inverse_54 : decode cX2_inverse 54 = .ok (.lstore 16, 2) := by decide +kernel
theorem dX2_inverse_56 : decode cX2_inverse 56 = .ok (.lload 5, 2) := by decide +kernel
theorem dX2_inverse_58 : decode cX2_inverse 58 = .ok (.lstore_n 3, 1) := by decide +kernel
theorem dX2_inverse_59 : decode cX2_inverse 59 = .ok (.lload 14, 2) := by decide +kernel
theorem dX2_inverse_61 : decode cX2_inverse 61 = .ok (.lstore 5, 2) := by decide +kernel
theorem dX2_inverse_63 : decode cX2_inverse 63 = .ok (.lload 9, 2) := by decide +kernel
theorem dX2_inverse_65 : decode cX2_inverse 65 = .ok (.lstore 7, 2) := by decide +kernel
theorem dX2_inverse_67 : decode cX2_inverse 67 = .ok (.lload 16, 2) := by decide +kernel
theorem dX2_inverse_69 : decode cX2_inverse 69 = .ok (.lstore 9, 2) := by decide +kernel
theorem dX2_inverse_71 : decode cX2_inverse 71 = .ok (.iinc 11 1, 3) := by decide +kernel
theorem dX2_inverse_74 : decode cX2_inverse 74 = .ok (.goto (-57), 3) := by decide +kernel
theorem dX2_inverse_77 : decode cX2_inverse 77 = .ok (.lload 7, 2) := by decide +kernel
theorem dX2_inverse_79 : decode cX2_inverse 79 = .ok (.lconst 0, 1) := by decide +kernel
theorem dX2_inverse_80 : decode cX2_inverse 80 = .ok (.lcmp, 1) := by decide +kernel
theorem dX2_inverse_81 : decode cX2_inverse 81 = .ok (.ifCond .ge 13, 3) := by decide +kernel
theorem dX2_inverse_84 : decode cX2_inverse 84 = .ok (.lload 7, 2) := by decide +kernel
theorem dX2_inverse_86 : decode cX2_inverse 86 = .ok (.aload_n 0, 1) := by decide +kernel
theorem dX2_inverse_87 : decode cX2_inverse 87 = .ok (.getfield 9, 3) := by decide +kernel
theorem dX2_inverse_90 : decode cX2_inverse 90 = .ok (.ladd, 1) := by decide +kernel
theorem dX2_inverse_91 : decode cX2_inverse 91 = .ok (.goto 5, 3) := by decide +kernel
theorem dX2_inverse_94 : decode cX2_inverse 94 = .ok (.lload 7, 2) := by decide +kernel
theorem dX2_inverse_96 : decode cX2_inverse 96 = .ok (.lreturn, 1) := by decide +kernel
set_option maxRecDepth 20000 in
theorem ggX2_evenRoot_X2_product : GoodIn wsX2_evenRoot wsX2_product := goodIn_r _ [9, 1, 10] (by decide +kernel) (by decide +kernel)
set_option maxRecDepth 20000 in
theorem gX2_evenRoot_X2_product : GoodIn wsX2_evenRoot (wsV RX2 19 RX2 yX2_product wsX2_product) := goodIn_app (goodIn_of _ (by decide +kernel)) ggX2_evenRoot_X2_product
theorem dX2_evenRoot_0 : decode cX2_evenRoot 0 = .ok (.lconst 1, 1) := by decide +kernel
theorem dX2_evenRoot_1 : decode cX2_evenRoot 1 = .ok (.lstore_n 3, 1) := by decide +kernel
theorem dX2_evenRoot_2 : decode cX2_evenRoot 2 = .ok (.lload_n 1, 1) := by decide +kernel
theorem dX2_evenRoot_3 : decode cX2_evenRoot 3 = .ok (.lstore 5, 2) := by decide +kernel
theorem dX2_evenRoot_5 : decode cX2_evenRoot 5 = .ok (.aload_n 0, 1) := by decide +kernel
theorem dX2_evenRoot_6 : decode cX2_evenRoot 6 = .ok (.getfield 9, 3) := by decide +kernel
theorem dX2_evenRoot_9 : decode cX2_evenRoot 9 = .ok (.lconst 1, 1) := by decide +kernel
theorem dX2_evenRoot_10 : decode cX2_evenRoot 10 = .ok (.ladd, 1) := by decide +kernel
theorem dX2_evenRoot_11 : decode cX2_evenRoot 11 = .ok (.ldc2_w 15, 3) := by decide +kernel
theorem dX2_evenRoot_14 : decode cX2_evenRoot 14 = .ok (.ldiv, 1) := by decide +kernel
theorem dX2_evenRoot_15 : decode cX2_evenRoot 15 = .ok (.lstore 7, 2) := by decide +kernel
theorem dX2_evenRoot_17 : decode cX2_evenRoot 17 = .ok (.lload 7, 2) := by decide +kernel
theorem dX2_evenRoot_19 : decode cX2_evenRoot 19 = .ok (.lconst 0, 1) := by decide +kernel
theorem dX2_evenRoot_20 : decode cX2_evenRoot 20 = .ok (.lcmp, 1) := by decide +kernel
theorem dX2_evenRoot_21 : decode cX2_evenRoot 21 = .ok (.ifCond .le 41, 3) := by decide +kernel
theorem dX2_evenRoot_24 : decode cX2_evenRoot 24 = .ok (.lload 7, 2) := by decide +kernel
theorem dX2_evenRoot_26 : decode cX2_evenRoot 26 = .ok (.ldc2_w 17, 3) := by decide +kernel
theorem dX2_evenRoot_29 : decode cX2_evenRoot 29 = .ok (.lrem, 1) := by decide +kernel
theorem dX2_evenRoot_30 : decode cX2_evenRoot 30 = .ok (.lconst 1, 1) := by decide +kernel
theorem dX2_evenRoot_31 : decode cX2_evenRoot 31 = .ok (.lcmp, 1) := by decide +kernel
theorem dX2_evenRoot_32 : decode cX2_evenRoot 32 = .ok (.ifCond .ne 11, 3) := by decide +kernel
theorem dX2_evenRoot_35 : decode cX2_evenRoot 35 = .ok (.aload_n 0, 1) := by decide +kernel
theorem dX2_evenRoot_36 : decode cX2_evenRoot 36 = .ok (.lload_n 3, 1) := by decide +kernel
theorem dX2_evenRoot_37 : decode cX2_evenRoot 37 = .ok (.lload 5, 2) := by decide +kernel
theorem dX2_evenRoot_39 : decode cX2_evenRoot 39 = .ok (.invokevirtual 19, 3) := by decide +kernel
theorem dX2_evenRoot_42 : decode cX2_evenRoot 42 = .ok (.lstore_n 3, 1) := by decide +kernel
theorem dX2_evenRoot_43 : decode cX2_evenRoot 43 = .ok (.aload_n 0, 1) := by decide +kernel
theorem dX2_evenRoot_44 : decode cX2_evenRoot 44 = .ok (.lload 5, 2) := by decide +kernel
theorem dX2_evenRoot_46 : decode cX2_evenRoot 46 = .ok (.lload 5, 2) := by decide +kernel
theorem dX2_evenRoot_48 : decode cX2_evenRoot 48 = .ok (.invokevirtual 19, 3) := by decide +kernel
theorem dX2_evenRoot_51 : decode cX2_evenRoot 51 = .ok (.lstore 5, 2) := by decide +kernel
theorem dX2_evenRoot_53 : decode cX2_evenRoot 53 = .ok (.lload 7, 2) := by decide +kernel
theorem dX2_evenRoot_55 : decode cX2_evenRoot 55 = .ok (.iconst 1, 1) := by decide +kernel
theorem dX2_evenRoot_56 : decode cX2_evenRoot 56 = .ok (.lshr, 1) := by decide +kernel
theorem dX2_evenRoot_57 : decode cX2_evenRoot 57 = .ok (.lstore 7, 2) := by decide +kernel
theorem dX2_evenRoot_59 : decode cX2_evenRoot 59 = .ok (.goto (-42), 3) := by decide +kernel
theorem dX2_evenRoot_62 : decode cX2_evenRoot 62 = .ok (.aload_n 0, 1) := by decide +kernel
theorem dX2_evenRoot_63 : decode cX2_evenRoot 63 = .ok (.lload_n 3, 1) := by decide +kernel
theorem dX2_evenRoot_64 : decode cX2_evenRoot 64 = .ok (.lload_n 3, 1) := by decide +kernel
theorem dX2_evenRoot_65 : decode cX2_evenRoot 65 = .ok (.invokevirtual 19, 3) := by decide +kernel
theorem dX2_evenRoot_68 : decode cX2_evenRoot 68 = .ok (.lload_n 1, 1) := by decide +kernel
theorem dX2_evenRoot_69 : decode cX2_evenRoot 69 = .ok (.lcmp, 1) := by decide +kernel
theorem dX2_evenRoot_70 : decode cX2_evenRoot 70 = .ok (.ifCond .eq 7, 3) := by decide +kernel
theorem dX2_evenRoot_73 : decode cX2_evenRoot 73 = .ok (.ldc2_w 23, 3) := by decide +kernel
theorem dX2_evenRoot_76 : decode cX2_evenRoot 76 = .ok (.lreturn, 1) := by decide +kernel
theorem dX2_evenRoot_77 : decode cX2_evenRoot 77 = .ok (.lload_n 3, 1) := by decide +kernel
theorem dX2_evenRoot_78 : decode cX2_evenRoot 78 = .ok (.ldc2_w 17, 3) := by decide +kernel
theorem dX2_evenRoot_81 : decode cX2_evenRoot 81 = .ok (.lrem, 1) := by decide +kernel
theorem dX2_evenRoot_82 : decode cX2_evenRoot 82 = .ok (.lconst 0, 1) := by decide +kernel
theorem dX2_evenRoot_83 : decode cX2_evenRoot 83 = .ok (.lcmp, 1) := by decide +kernel
theorem dX2_evenRoot_84 : decode cX2_evenRoot 84 = .ok (.ifCond .ne 7, 3) := by decide +kernel
theorem dX2_evenRoot_87 : decode cX2_evenRoot 87 = .ok (.lload_n 3, 1) := by decide +kernel
theorem dX2_evenRoot_88 : decode cX2_evenRoot 88 = .ok (.goto 9, 3) := by decide +kernel
theorem dX2_evenRoot_91 : decode cX2_evenRoot 91 = .ok (.aload_n 0, 1) := by decide +kernel
theorem dX2_evenRoot_92 : decode cX2_evenRoot 92 = .ok (.getfield 9, 3) := by decide +kernel
theorem dX2_evenRoot_95 : decode cX2_evenRoot 95 = .ok (.lload_n 3, 1) := by decide +kernel
theorem dX2_evenRoot_96 : decode cX2_evenRoot 96 = .ok (.lsub, 1) := by decide +kernel
theorem dX2_evenRoot_97 : decode cX2_evenRoot 97 = .ok (.lreturn, 1) := by decide +kernel
theorem dJ6_numberOfLeadingZeros_0f7a4_0 : decode cJ6_numberOfLeadingZeros_0f7a4 0 = .ok (.iload_n 0, 1) := by decide +kernel
theorem dJ6_numberOfLeadingZeros_0f7a4_1 : decode cJ6_numberOfLeadingZeros_0f7a4 1 = .ok (.ifCond .gt 14, 3) := by decide +kernel
theorem dJ6_numberOfLeadingZeros_0f7a4_4 : decode cJ6_numberOfLeadingZeros_0f7a4 4 = .ok (.iload_n 0, 1) := by decide +kernel
theorem dJ6_numberOfLeadingZeros_0f7a4_5 : decode cJ6_numberOfLeadingZeros_0f7a4 5 = .ok (.ifCond .ne 8, 3) := by decide +kernel
theorem dJ6_numberOfLeadingZeros_0f7a4_8 : decode cJ6_numberOfLeadingZeros_0f7a4 8 = .ok (.bipush 32, 2) := by decide +kernel
theorem dJ6_numberOfLeadingZeros_0f7a4_10 : decode cJ6_numberOfLeadingZeros_0f7a4 10 = .ok (.goto 4, 3) := by decide +kernel
theorem dJ6_numberOfLeadingZeros_0f7a4_13 : decode cJ6_numberOfLeadingZeros_0f7a4 13 = .ok (.iconst 0, 1) := by decide +kernel
theorem dJ6_numberOfLeadingZeros_0f7a4_14 : decode cJ6_numberOfLeadingZeros_0f7a4 14 = .ok (.ireturn, 1) := by decide +kernel
theorem dJ6_numberOfLeadingZeros_0f7a4_15 : decode cJ6_numberOfLeadingZeros_0f7a4 15 = .ok (.bipush 31, 2) := by decide +kernel
theorem dJ6_numberOfLeadingZeros_0f7a4_17 : decode cJ6_numberOfLeadingZeros_0f7a4 17 = .ok (.istore_n 1, 1) := by decide +kernel
theorem dJ6_numberOfLeadingZeros_0f7a4_18 : decode cJ6_numberOfLeadingZeros_0f7a4 18 = .ok (.iload_n 0, 1) := by decide +kernel
theorem dJ6_numberOfLeadingZeros_0f7a4_19 : decode cJ6_numberOfLeadingZeros_0f7a4 19 = .ok (.ldc_w 264, 3) := by decide +kernel
theorem dJ6_numberOfLeadingZeros_0f7a4_22 : decode cJ6_numberOfLeadingZeros_0f7a4 22 = .ok (.if_icmp .lt 11, 3) := by decide +kernel
theorem dJ6_numberOfLeadingZeros_0f7a4_25 : decode cJ6_numberOfLeadingZeros_0f7a4 25 = .ok (.iinc 1 (-16), 3) := by decide +kernel
theorem dJ6_numberOfLeadingZeros_0f7a4_28 : decode cJ6_numberOfLeadingZeros_0f7a4 28 = .ok (.iload_n 0, 1) := by decide +kernel
theorem dJ6_numberOfLeadingZeros_0f7a4_29 : decode cJ6_numberOfLeadingZeros_0f7a4 29 = .ok (.bipush 16, 2) := by decide +kernel
theorem dJ6_numberOfLeadingZeros_0f7a4_31 : decode cJ6_numberOfLeadingZeros_0f7a4 31 = .ok (.iushr, 1) := by decide +kernel
theorem dJ6_numberOfLeadingZeros_0f7a4_32 : decode cJ6_numberOfLeadingZeros_0f7a4 32 = .ok (.istore_n 0, 1) := by decide +kernel
theorem dJ6_numberOfLeadingZeros_0f7a4_33 : decode cJ6_numberOfLeadingZeros_0f7a4 33 = .ok (.iload_n 0, 1) := by decide +kernel
theorem dJ6_numberOfLeadingZeros_0f7a4_34 : decode cJ6_numberOfLeadingZeros_0f7a4 34 = .ok (.sipush 256, 3) := by decide +kernel
theorem dJ6_numberOfLeadingZeros_0f7a4_37 : decode cJ6_numberOfLeadingZeros_0f7a4 37 = .ok (.if_icmp .lt 11, 3) := by decide +kernel
theorem dJ6_numberOfLeadingZeros_0f7a4_40 : decode cJ6_numberOfLeadingZeros_0f7a4 40 = .ok (.iinc 1 (-8), 3) := by decide +kernel
theorem dJ6_numberOfLeadingZeros_0f7a4_43 : decode cJ6_numberOfLeadingZeros_0f7a4 43 = .ok (.iload_n 0, 1) := by decide +kernel
theorem dJ6_numberOfLeadingZeros_0f7a4_44 : decode cJ6_numberOfLeadingZeros_0f7a4 44 = .ok (.bipush 8, 2) := by decide +kernel
theorem dJ6_numberOfLeadingZeros_0f7a4_46 : decode cJ6_numberOfLeadingZeros_0f7a4 46 = .ok (.iushr, 1) := by decide +kernel
theorem dJ6_numberOfLeadingZeros_0f7a4_47 : decode cJ6_numberOfLeadingZeros_0f7a4 47 = .ok (.istore_n 0, 1) := by decide +kernel
theorem dJ6_numberOfLeadingZeros_0f7a4_48 : decode cJ6_numberOfLeadingZeros_0f7a4 48 = .ok (.iload_n 0, 1) := by decide +kernel
theorem dJ6_numberOfLeadingZeros_0f7a4_49 : decode cJ6_numberOfLeadingZeros_0f7a4 49 = .ok (.bipush 16, 2) := by decide +kernel
theorem dJ6_numberOfLeadingZeros_0f7a4_51 : decode cJ6_numberOfLeadingZeros_0f7a4 51 = .ok (.if_icmp .lt 10, 3) := by decide +kernel
theorem dJ6_numberOfLeadingZeros_0f7a4_54 : decode cJ6_numberOfLeadingZeros_0f7a4 54 = .ok (.iinc 1 (-4), 3) := by decide +kernel
theorem dJ6_numberOfLeadingZeros_0f7a4_57 : decode cJ6_numberOfLeadingZeros_0f7a4 57 = .ok (.iload_n 0, 1) := by decide +kernel
theorem dJ6_numberOfLeadingZeros_0f7a4_58 : decode cJ6_numberOfLeadingZeros_0f7a4 58 = .ok (.iconst 4, 1) := by decide +kernel
theorem dJ6_numberOfLeadingZeros_0f7a4_59 : decode cJ6_numberOfLeadingZeros_0f7a4 59 = .ok (.iushr, 1) := by decide +kernel
theorem dJ6_numberOfLeadingZeros_0f7a4_60 : decode cJ6_numberOfLeadingZeros_0f7a4 60 = .ok (.istore_n 0, 1) := by decide +kernel
theorem dJ6_numberOfLeadingZeros_0f7a4_61 : decode cJ6_numberOfLeadingZeros_0f7a4 61 = .ok (.iload_n 0, 1) := by decide +kernel
theorem dJ6_numberOfLeadingZeros_0f7a4_62 : decode cJ6_numberOfLeadingZeros_0f7a4 62 = .ok (.iconst 4, 1) := by decide +kernel
theorem dJ6_numberOfLeadingZeros_0f7a4_63 : decode cJ6_numberOfLeadingZeros_0f7a4 63 = .ok (.if_icmp .lt 10, 3) := by decide +kernel
theorem dJ6_numberOfLeadingZeros_0f7a4_66 : decode cJ6_numberOfLeadingZeros_0f7a4 66 = .ok (.iinc 1 (-2), 3) := by decide +kernel
theorem dJ6_numberOfLeadingZeros_0f7a4_69 : decode cJ6_numberOfLeadingZeros_0f7a4 69 = .ok (.iload_n 0, 1) := by decide +kernel
theorem dJ6_numberOfLeadingZeros_0f7a4_70 : decode cJ6_numberOfLeadingZeros_0f7a4 70 = .ok (.iconst 2, 1) := by decide +kernel
theorem dJ6_numberOfLeadingZeros_0f7a4_71 : decode cJ6_numberOfLeadingZeros_0f7a4 71 = .ok (.iushr, 1) := by decide +kernel
theorem dJ6_numberOfLeadingZeros_0f7a4_72 : decode cJ6_numberOfLeadingZeros_0f7a4 72 = .ok (.istore_n 0, 1) := by decide +kernel
theorem dJ6_numberOfLeadingZeros_0f7a4_73 : decode cJ6_numberOfLeadingZeros_0f7a4 73 = .ok (.iload_n 1, 1) := by decide +kernel
theorem dJ6_numberOfLeadingZeros_0f7a4_74 : decode cJ6_numberOfLeadingZeros_0f7a4 74 = .ok (.iload_n 0, 1) := by decide +kernel
theorem dJ6_numberOfLeadingZeros_0f7a4_75 : decode cJ6_numberOfLeadingZeros_0f7a4 75 = .ok (.iconst 1, 1) := by decide +kernel
theorem dJ6_numberOfLeadingZeros_0f7a4_76 : decode cJ6_numberOfLeadingZeros_0f7a4 76 = .ok (.iushr, 1) := by decide +kernel
theorem dJ6_numberOfLeadingZeros_0f7a4_77 : decode cJ6_numberOfLeadingZeros_0f7a4 77 = .ok (.isub, 1) := by decide +kernel
theorem dJ6_numberOfLeadingZeros_0f7a4_78 : decode cJ6_numberOfLeadingZeros_0f7a4 78 = .ok (.ireturn, 1) := by decide +kernel
set_option maxRecDepth 20000 in
theorem ggJ13_numberOfLeadingZeros_95d88_J6_numberOfLeadingZeros_0f7a4 : GoodIn wsJ13_numberOfLeadingZeros_95d88 wsJ6_numberOfLeadingZeros_0f7a4 := goodIn_r _ [4, 5] (by decide +kernel) (by decide +kernel)
set_option maxRecDepth 20000 in
theorem gJ13_numberOfLeadingZeros_95d88_J6_numberOfLeadingZeros_0f7a4 : GoodIn wsJ13_numberOfLeadingZeros_95d88 (va_wsS RJ13 308 yJ6_numberOfLeadingZeros_0f7a4 wsJ6_numberOfLeadingZeros_0f7a4) := goodIn_app (goodIn_of _ (by decide +kernel)) ggJ13_numberOfLeadingZeros_95d88_J6_numberOfLeadingZeros_0f7a4
theorem dJ13_numberOfLeadingZeros_95d88_0 : decode cJ13_numberOfLeadingZeros_95d88 0 = .ok (.lload_n 0, 1) := by decide +kernel
theorem dJ13_numberOfLeadingZeros_95d88_1 : decode cJ13_numberOfLeadingZeros_95d88 1 = .ok (.bipush 32, 2) := by decide +kernel
theorem dJ13_numberOfLeadingZeros_95d88_3 : decode cJ13_numberOfLeadingZeros_95d88 3 = .ok (.lushr, 1) := by decide +kernel
theorem dJ13_numberOfLeadingZeros_95d88_4 : decode cJ13_numberOfLeadingZeros_95d88 4 = .ok (.l2i, 1) := by decide +kernel
theorem dJ13_numberOfLeadingZeros_95d88_5 : decode cJ13_numberOfLeadingZeros_95d88 5 = .ok (.istore_n 2, 1) := by decide +kernel
theorem dJ13_numberOfLeadingZeros_95d88_6 : decode cJ13_numberOfLeadingZeros_95d88 6 = .ok (.iload_n 2, 1) := by decide +kernel
theorem dJ13_numberOfLeadingZeros_95d88_7 : decode cJ13_numberOfLeadingZeros_95d88 7 = .ok (.ifCond .ne 14, 3) := by decide +kernel
theorem dJ13_numberOfLeadingZeros_95d88_10 : decode cJ13_numberOfLeadingZeros_95d88 10 = .ok (.bipush 32, 2) := by decide +kernel
theorem dJ13_numberOfLeadingZeros_95d88_12 : decode cJ13_numberOfLeadingZeros_95d88 12 = .ok (.lload_n 0, 1) := by decide +kernel
theorem dJ13_numberOfLeadingZeros_95d88_13 : decode cJ13_numberOfLeadingZeros_95d88 13 = .ok (.l2i, 1) := by decide +kernel
theorem dJ13_numberOfLeadingZeros_95d88_14 : decode cJ13_numberOfLeadingZeros_95d88 14 = .ok (.invokestatic 308, 3) := by decide +kernel
theorem dJ13_numberOfLeadingZeros_95d88_17 : decode cJ13_numberOfLeadingZeros_95d88 17 = .ok (.iadd, 1) := by decide +kernel
theorem dJ13_numberOfLeadingZeros_95d88_18 : decode cJ13_numberOfLeadingZeros_95d88 18 = .ok (.goto 7, 3) := by decide +kernel
theorem dJ13_numberOfLeadingZeros_95d88_21 : decode cJ13_numberOfLeadingZeros_95d88 21 = .ok (.iload_n 2, 1) := by decide +kernel
theorem dJ13_numberOfLeadingZeros_95d88_22 : decode cJ13_numberOfLeadingZeros_95d88 22 = .ok (.invokestatic 308, 3) := by decide +kernel
theorem dJ13_numberOfLeadingZeros_95d88_25 : decode cJ13_numberOfLeadingZeros_95d88 25 = .ok (.ireturn, 1) := by decide +kernel
theorem dJ13_bitCount_95d88_0 : decode cJ13_bitCount_95d88 0 = .ok (.lload_n 0, 1) := by decide +kernel
theorem dJ13_bitCount_95d88_1 : decode cJ13_bitCount_95d88 1 = .ok (.lload_n 0, 1) := by decide +kernel
theorem dJ13_bitCount_95d88_2 : decode cJ13_bitCount_95d88 2 = .ok (.iconst 1, 1) := by decide +kernel
theorem dJ13_bitCount_95d88_3 : decode cJ13_bitCount_95d88 3 = .ok (.lushr, 1) := by decide +kernel
theorem dJ13_bitCount_95d88_4 : decode cJ13_bitCount_95d88 4 = .ok (.ldc2_w 314, 3) := by decide +kernel
theorem dJ13_bitCount_95d88_7 : decode cJ13_bitCount_95d88 7 = .ok (.land, 1) := by decide +kernel
theorem dJ13_bitCount_95d88_8 : decode cJ13_bitCount_95d88 8 = .ok (.lsub, 1) := by decide +kernel
theorem dJ13_bitCount_95d88_9 : decode cJ13_bitCount_95d88 9 = .ok (.lstore_n 0, 1) := by decide +kernel
theorem dJ13_bitCount_95d88_10 : decode cJ13_bitCount_95d88 10 = .ok (.lload_n 0, 1) := by decide +kernel
theorem dJ13_bitCount_95d88_11 : decode cJ13_bitCount_95d88 11 = .ok (.ldc2_w 316, 3) := by decide +kernel
theorem dJ13_bitCount_95d88_14 : decode cJ13_bitCount_95d88 14 = .ok (.land, 1) := by decide +kernel
theorem dJ13_bitCount_95d88_15 : decode cJ13_bitCount_95d88 15 = .ok (.lload_n 0, 1) := by decide +kernel
theorem dJ13_bitCount_95d88_16 : decode cJ13_bitCount_95d88 16 = .ok (.iconst 2, 1) := by decide +kernel
theorem dJ13_bitCount_95d88_17 : decode cJ13_bitCount_95d88 17 = .ok (.lushr, 1) := by decide +kernel
theorem dJ13_bitCount_95d88_18 : decode cJ13_bitCount_95d88 18 = .ok (.ldc2_w 316, 3) := by decide +kernel
theorem dJ13_bitCount_95d88_21 : decode cJ13_bitCount_95d88 21 = .ok (.land, 1) := by decide +kernel
theorem dJ13_bitCount_95d88_22 : decode cJ13_bitCount_95d88 22 = .ok (.ladd, 1) := by decide +kernel
theorem dJ13_bitCount_95d88_23 : decode cJ13_bitCount_95d88 23 = .ok (.lstore_n 0, 1) := by decide +kernel
theorem dJ13_bitCount_95d88_24 : decode cJ13_bitCount_95d88 24 = .ok (.lload_n 0, 1) := by decide +kernel
theorem dJ13_bitCount_95d88_25 : decode cJ13_bitCount_95d88 25 = .ok (.lload_n 0, 1) := by decide +kernel
theorem dJ13_bitCount_95d88_26 : decode cJ13_bitCount_95d88 26 = .ok (.iconst 4, 1) := by decide +kernel
theorem dJ13_bitCount_95d88_27 : decode cJ13_bitCount_95d88 27 = .ok (.lushr, 1) := by decide +kernel
theorem dJ13_bitCount_95d88_28 : decode cJ13_bitCount_95d88 28 = .ok (.ladd, 1) := by decide +kernel
theorem dJ13_bitCount_95d88_29 : decode cJ13_bitCount_95d88 29 = .ok (.ldc2_w 318, 3) := by decide +kernel
theorem dJ13_bitCount_95d88_32 : decode cJ13_bitCount_95d88 32 = .ok (.land, 1) := by decide +kernel
theorem dJ13_bitCount_95d88_33 : decode cJ13_bitCount_95d88 33 = .ok (.lstore_n 0, 1) := by decide +kernel
theorem dJ13_bitCount_95d88_34 : decode cJ13_bitCount_95d88 34 = .ok (.lload_n 0, 1) := by decide +kernel
theorem dJ13_bitCount_95d88_35 : decode cJ13_bitCount_95d88 35 = .ok (.lload_n 0, 1) := by decide +kernel
theorem dJ13_bitCount_95d88_36 : decode cJ13_bitCount_95d88 36 = .ok (.bipush 8, 2) := by decide +kernel
theorem dJ13_bitCount_95d88_38 : decode cJ13_bitCount_95d88 38 = .ok (.lushr, 1) := by decide +kernel
theorem dJ13_bitCount_95d88_39 : decode cJ13_bitCount_95d88 39 = .ok (.ladd, 1) := by decide +kernel
theorem dJ13_bitCount_95d88_40 : decode cJ13_bitCount_95d88 40 = .ok (.lstore_n 0, 1) := by decide +kernel
theorem dJ13_bitCount_95d88_41 : decode cJ13_bitCount_95d88 41 = .ok (.lload_n 0, 1) := by decide +kernel
theorem dJ13_bitCount_95d88_42 : decode cJ13_bitCount_95d88 42 = .ok (.lload_n 0, 1) := by decide +kernel
theorem dJ13_bitCount_95d88_43 : decode cJ13_bitCount_95d88 43 = .ok (.bipush 16, 2) := by decide +kernel
theorem dJ13_bitCount_95d88_45 : decode cJ13_bitCount_95d88 45 = .ok (.lushr, 1) := by decide +kernel
theorem dJ13_bitCount_95d88_46 : decode cJ13_bitCount_95d88 46 = .ok (.ladd, 1) := by decide +kernel
theorem dJ13_bitCount_95d88_47 : decode cJ13_bitCount_95d88 47 = .ok (.lstore_n 0, 1) := by decide +kernel
theorem dJ13_bitCount_95d88_48 : decode cJ13_bitCount_95d88 48 = .ok (.lload_n 0, 1) := by decide +kernel
theorem dJ13_bitCount_95d88_49 : decode cJ13_bitCount_95d88 49 = .ok (.lload_n 0, 1) := by decide +kernel
theorem dJ13_bitCount_95d88_50 : decode cJ13_bitCount_95d88 50 = .ok (.bipush 32, 2) := by decide +kernel
theorem dJ13_bitCount_95d88_52 : decode cJ13_bitCount_95d88 52 = .ok (.lushr, 1) := by decide +kernel
theorem dJ13_bitCount_95d88_53 : decode cJ13_bitCount_95d88 53 = .ok (.ladd, 1) := by decide +kernel
theorem dJ13_bitCount_95d88_54 : decode cJ13_bitCount_95d88 54 = .ok (.lstore_n 0, 1) := by decide +kernel
theorem dJ13_bitCount_95d88_55 : decode cJ13_bitCount_95d88 55 = .ok (.lload_n 0, 1) := by decide +kernel
theorem dJ13_bitCount_95d88_56 : decode cJ13_bitCount_95d88 56 = .ok (.l2i, 1) := by decide +kernel
theorem dJ13_bitCount_95d88_57 : decode cJ13_bitCount_95d88 57 = .ok (.bipush 127, 2) := by decide +kernel
theorem dJ13_bitCount_95d88_59 : decode cJ13_bitCount_95d88 59 = .ok (.iand, 1) := by decide +kernel
theorem dJ13_bitCount_95d88_60 : decode cJ13_bitCount_95d88 60 = .ok (.ireturn, 1) := by decide +kernel
theorem dJ9_floorMod_f86c9_0 : decode cJ9_floorMod_f86c9 0 = .ok (.lload_n 0, 1) := by decide +kernel
theorem dJ9_floorMod_f86c9_1 : decode cJ9_floorMod_f86c9 1 = .ok (.lload_n 2, 1) := by decide +kernel
theorem dJ9_floorMod_f86c9_2 : decode cJ9_floorMod_f86c9 2 = .ok (.lrem, 1) := by decide +kernel
theorem dJ9_floorMod_f86c9_3 : decode cJ9_floorMod_f86c9 3 = .ok (.lstore 4, 2) := by decide +kernel
theorem dJ9_floorMod_f86c9_5 : decode cJ9_floorMod_f86c9 5 = .ok (.lload_n 0, 1) := by decide +kernel
theorem dJ9_floorMod_f86c9_6 : decode cJ9_floorMod_f86c9 6 = .ok (.lload_n 2, 1) := by decide +kernel
theorem dJ9_floorMod_f86c9_7 : decode cJ9_floorMod_f86c9 7 = .ok (.lxor, 1) := by decide +kernel
theorem dJ9_floorMod_f86c9_8 : decode cJ9_floorMod_f86c9 8 = .ok (.lconst 0, 1) := by decide +kernel
theorem dJ9_floorMod_f86c9_9 : decode cJ9_floorMod_f86c9 9 = .ok (.lcmp, 1) := by decide +kernel
theorem dJ9_floorMod_f86c9_10 : decode cJ9_floorMod_f86c9 10 = .ok (.ifCond .ge 15, 3) := by decide +kernel
theorem dJ9_floorMod_f86c9_13 : decode cJ9_floorMod_f86c9 13 = .ok (.lload 4, 2) := by decide +kernel
theorem dJ9_floorMod_f86c9_15 : decode cJ9_floorMod_f86c9 15 = .ok (.lconst 0, 1) := by decide +kernel
theorem dJ9_floorMod_f86c9_16 : decode cJ9_floorMod_f86c9 16 = .ok (.lcmp, 1) := by decide +kernel
theorem dJ9_floorMod_f86c9_17 : decode cJ9_floorMod_f86c9 17 = .ok (.ifCond .eq 8, 3) := by decide +kernel
theorem dJ9_floorMod_f86c9_20 : decode cJ9_floorMod_f86c9 20 = .ok (.lload 4, 2) := by decide +kernel
theorem dJ9_floorMod_f86c9_22 : decode cJ9_floorMod_f86c9 22 = .ok (.lload_n 2, 1) := by decide +kernel
theorem dJ9_floorMod_f86c9_23 : decode cJ9_floorMod_f86c9 23 = .ok (.ladd, 1) := by decide +kernel
theorem dJ9_floorMod_f86c9_24 : decode cJ9_floorMod_f86c9 24 = .ok (.lreturn, 1) := by decide +kernel
theorem dJ9_floorMod_f86c9_25 : decode cJ9_floorMod_f86c9 25 = .ok (.lload 4, 2) := by decide +kernel
theorem dJ9_floorMod_f86c9_27 : decode cJ9_floorMod_f86c9 27 = .ok (.lreturn, 1) := by decide +kernel
end
section
set_option maxRecDepth 20000 in
theorem ggX3_init_X3_clearRows : GoodIn wsX3_init wsX3_clearRows := goodIn_r _ [11, 5, 12, 6, 13, 14, 15, 16, 17] (by decide +kernel) (by decide +kernel)
set_option maxRecDepth 20000 in
theorem gX3_init_X3_clearRows : GoodIn wsX3_init (wsV RX3 16 RX3 yX3_clearRows wsX3_clearRows) := goodIn_app (goodIn_of _ (by decide +kernel)) ggX3_init_X3_clearRows
theorem dX3_init_0 : decode cX3_init 0 = .ok (.aload_n 0, 1) := by decide +kernel
theorem dX3_init_1 : decode cX3_init 1 = .ok (.invokespecial 3, 3) := by decide +kernel
theorem dX3_init_4 : decode cX3_init 4 = .ok (.aload_n 0, 1) := by decide +kernel
theorem dX3_init_5 : decode cX3_init 5 = .ok (.bipush 16, 2) := by decide +kernel
theorem dX3_init_7 : decode cX3_init 7 = .ok (.newarray .long, 2) := by decide +kernel
theorem dX3_init_9 : decode cX3_init 9 = .ok (.putfield 9, 3) := by decide +kernel
theorem dX3_init_12 : decode cX3_init 12 = .ok (.aload_n 0, 1) := by decide +kernel
theorem dX3_init_13 : decode cX3_init 13 = .ok (.bipush 8, 2) := by decide +kernel
theorem dX3_init_15 : decode cX3_init 15 = .ok (.newarray .long, 2) := by decide +kernel
theorem dX3_init_17 : decode cX3_init 17 = .ok (.putfield 13, 3) := by decide +kernel
theorem dX3_init_20 : decode cX3_init 20 = .ok (.aload_n 0, 1) := by decide +kernel
theorem dX3_init_21 : decode cX3_init 21 = .ok (.invokevirtual 16, 3) := by decide +kernel
theorem dX3_init_24 : decode cX3_init 24 = .ok (.return_, 1) := by decide +kernel
set_option maxRecDepth 20000 in
theorem ggX3_field_X3_fitTogether : GoodIn wsX3_field wsX3_fitTogether := goodIn_r _ [16, 17, 18, 15, 19, 20, 21] (by decide +kernel) (by decide +kernel)
set_option maxRecDepth 20000 in
theorem gX3_field_X3_fitTogether : GoodIn wsX3_field (va_wsS RX3 19 yX3_fitTogether wsX3_fitTogether) := goodIn_app (goodIn_of _ (by decide +kernel)) ggX3_field_X3_fitTogether
set_option maxRecDepth 20000 in
theorem ggX3_field_X2_init : GoodIn wsX3_field wsX2_init := goodIn_r _ [24, 25, 26, 27, 28, 125] (by decide +kernel) (by decide +kernel)
set_option maxRecDepth 20000 in
theorem gX3_field_X2_init : GoodIn wsX3_field (wsX2_init) := ggX3_field_X2_init
set_option maxRecDepth 20000 in
theorem ggX3_field_X0_init : GoodIn wsX3_field wsX0_init := goodIn_r _ [31, 32, 26, 27, 33, 34, 35, 36, 37, 38, 39, 40, 41, 3, 42, 43, 44, 45, 46, 47, 48, 49, 50, 51, 52, 53, 54, 55, 56, 6, 57, 28, 58, 59, 60, 61, 62, 63, 64, 65, 66, 15, 67, 68, 69, 70, 71, 72, 73, 74, 75, 76, 77, 78, 79, 80, 81, 82, 83, 84, 85, 86, 87, 88, 89, 90, 91, 92, 93, 94, 95, 96, 97, 98, 99, 100, 101, 119, 120, 121, 122, 123, 124, 125] (by decide +kernel) (by decide +kernel)
set_option maxRecDepth 20000 in
theorem gX3_field_X0_init : GoodIn wsX3_field (wsX0_init) := ggX3_field_X0_init
set_option maxRecDepth 20000 in
theorem ggX3_field_X1_init : GoodIn wsX3_field wsX1_init := goodIn_r _ [104, 105, 26, 27, 106, 107, 108, 109, 110, 130, 131, 132, 119, 120, 121, 122, 123, 124] (by decide +kernel) (by decide +kernel)
set_option maxRecDepth 20000 in
theorem gX3_field_X1_init : GoodIn wsX3_field (wsX1_init) := ggX3_field_X1_init
set_option maxRecDepth 20000 in
theorem ggX3_field_X3_clearRows : GoodIn wsX3_field wsX3_clearRows := goodIn_r _ [114, 115, 116, 117, 118, 126, 127, 128, 129] (by decide +kernel) (by decide +kernel)
set_option maxRecDepth 20000 in
theorem gX3_field_X3_clearRows : GoodIn wsX3_field (wsV RX3 16 RX3 yX3_clearRows wsX3_clearRows) := goodIn_app (goodIn_of _ (by decide +kernel)) ggX3_field_X3_clearRows
theorem dX3_field_0 : decode cX3_field 0 = .ok (.iload_n 1, 1) := by decide +kernel
theorem dX3_field_1 : decode cX3_field 1 = .ok (.iload_n 2, 1) := by decide +kernel
theorem dX3_field_2 : decode cX3_field 2 = .ok (.invokestatic 19, 3) := by decide +kernel
theorem dX3_field_5 : decode cX3_field 5 = .ok (.ifCond .ne 6, 3) := by decide +kernel
theorem dX3_field_8 : decode cX3_field 8 = .ok (.bipush (-2), 2) := by decide +kernel
theorem dX3_field_10 : decode cX3_field 10 = .ok (.ireturn, 1) := by decide +kernel
theorem dX3_field_11 : decode cX3_field 11 = .ok (.aload_n 0, 1) := by decide +kernel
theorem dX3_field_12 : decode cX3_field 12 = .ok (.new 23, 3) := by decide +kernel
theorem dX3_field_15 : decode cX3_field 15 = .ok (.dup, 1) := by decide +kernel
theorem dX3_field_16 : decode cX3_field 16 = .ok (.new 25, 3) := by decide +kernel
theorem dX3_field_19 : decode cX3_field 19 = .ok (.dup, 1) := by decide +kernel
theorem dX3_field_20 : decode cX3_field 20 = .ok (.iload_n 1, 1) := by decide +kernel
theorem dX3_field_21 : decode cX3_field 21 = .ok (.i2l, 1) := by decide +kernel
theorem dX3_field_22 : decode cX3_field 22 = .ok (.invokespecial 27, 3) := by decide +kernel
theorem dX3_field_25 : decode cX3_field 25 = .ok (.iload_n 2, 1) := by decide +kernel
theorem dX3_field_26 : decode cX3_field 26 = .ok (.i2l, 1) := by decide +kernel
theorem dX3_field_27 : decode cX3_field 27 = .ok (.invokespecial 30, 3) := by decide +kernel
theorem dX3_field_30 : decode cX3_field 30 = .ok (.putfield 33, 3) := by decide +kernel
theorem dX3_field_33 : decode cX3_field 33 = .ok (.aload_n 0, 1) := by decide +kernel
theorem dX3_field_34 : decode cX3_field 34 = .ok (.new 37, 3) := by decide +kernel
theorem dX3_field_37 : decode cX3_field 37 = .ok (.dup, 1) := by decide +kernel
theorem dX3_field_38 : decode cX3_field 38 = .ok (.aload_n 0, 1) := by decide +kernel
theorem dX3_field_39 : decode cX3_field 39 = .ok (.getfield 33, 3) := by decide +kernel
theorem dX3_field_42 : decode cX3_field 42 = .ok (.invokespecial 39, 3) := by decide +kernel
theorem dX3_field_45 : decode cX3_field 45 = .ok (.putfield 42, 3) := by decide +kernel
theorem dX3_field_48 : decode cX3_field 48 = .ok (.aload_n 0, 1) := by decide +kernel
theorem dX3_field_49 : decode cX3_field 49 = .ok (.invokevirtual 16, 3) := by decide +kernel
theorem dX3_field_52 : decode cX3_field 52 = .ok (.aload_n 0, 1) := by decide +kernel
theorem dX3_field_53 : decode cX3_field 53 = .ok (.getfield 33, 3) := by decide +kernel
theorem dX3_field_56 : decode cX3_field 56 = .ok (.getfield 46, 3) := by decide +kernel
theorem dX3_field_59 : decode cX3_field 59 = .ok (.l2i, 1) := by decide +kernel
theorem dX3_field_60 : decode cX3_field 60 = .ok (.ireturn, 1) := by decide +kernel
theorem dX3_told_0 : decode cX3_told 0 = .ok (.iload_n 1, 1) := by decide +kernel
theorem dX3_told_1 : decode cX3_told 1 = .ok (.ifCond .lt 8, 3) := by decide +kernel
theorem dX3_told_4 : decode cX3_told 4 = .ok (.iload_n 1, 1) := by decide +kernel
theorem dX3_told_5 : decode cX3_told 5 = .ok (.iconst 2, 1) := by decide +kernel
theorem dX3_told_6 : decode cX3_told 6 = .ok (.if_icmp .le 6, 3) := by decide +kernel
theorem dX3_told_9 : decode cX3_told 9 = .ok (.bipush (-2), 2) := by decide +kernel
theorem dX3_told_11 : decode cX3_told 11 = .ok (.ireturn, 1) := by decide +kernel
theorem dX3_told_12 : decode cX3_told 12 = .ok (.aload_n 0, 1) := by decide +kernel
theorem dX3_told_13 : decode cX3_told 13 = .ok (.getfield 33, 3) := by decide +kernel
theorem dX3_told_16 : decode cX3_told 16 = .ok (.ifnonnull 6, 3) := by decide +kernel
theorem dX3_told_19 : decode cX3_told 19 = .ok (.bipush (-3), 2) := by decide +kernel
theorem dX3_told_21 : decode cX3_told 21 = .ok (.ireturn, 1) := by decide +kernel
theorem dX3_told_22 : decode cX3_told 22 = .ok (.iload_n 1, 1) := by decide +kernel
theorem dX3_told_23 : decode cX3_told 23 = .ok (.ifCond .ne 13, 3) := by decide +kernel
theorem dX3_told_26 : decode cX3_told 26 = .ok (.aload_n 0, 1) := by decide +kernel
theorem dX3_told_27 : decode cX3_told 27 = .ok (.getfield 33, 3) := by decide +kernel
theorem dX3_told_30 : decode cX3_told 30 = .ok (.getfield 50, 3) := by decide +kernel
theorem dX3_told_33 : decode cX3_told 33 = .ok (.goto 25, 3) := by decide +kernel
theorem dX3_told_36 : decode cX3_told 36 = .ok (.iload_n 1, 1) := by decide +kernel
theorem dX3_told_37 : decode cX3_told 37 = .ok (.iconst 1, 1) := by decide +kernel
theorem dX3_told_38 : decode cX3_told 38 = .ok (.if_icmp .ne 13, 3) := by decide +kernel
theorem dX3_told_41 : decode cX3_told 41 = .ok (.aload_n 0, 1) := by decide +kernel
theorem dX3_told_42 : decode cX3_told 42 = .ok (.getfield 33, 3) := by decide +kernel
theorem dX3_told_45 : decode cX3_told 45 = .ok (.getfield 53, 3) := by decide +kernel
theorem dX3_told_48 : decode cX3_told 48 = .ok (.goto 10, 3) := by decide +kernel
theorem dX3_told_51 : decode cX3_told 51 = .ok (.aload_n 0, 1) := by decide +kernel
theorem dX3_told_52 : decode cX3_told 52 = .ok (.getfield 33, 3) := by decide +kernel
theorem dX3_told_55 : decode cX3_told 55 = .ok (.getfield 46, 3) := by decide +kernel
theorem dX3_told_58 : decode cX3_told 58 = .ok (.l2i, 1) := by decide +kernel
theorem dX3_told_59 : decode cX3_told 59 = .ok (.ireturn, 1) := by decide +kernel
set_option maxRecDepth 20000 in
theorem ggX3_root_X2_has : GoodIn wsX3_root wsX2_has := goodIn_r _ [7, 8, 30] (by decide +kernel) (by decide +kernel)
set_option maxRecDepth 20000 in
theorem gX3_root_X2_has : GoodIn wsX3_root (wsV RX3 60 RX2 yX2_has wsX2_has) := goodIn_app (goodIn_of _ (by decide +kernel)) ggX3_root_X2_has
set_option maxRecDepth 20000 in
theorem ggX3_root_X2_evenRoot : GoodIn wsX3_root wsX2_evenRoot := goodIn_r _ [12, 8, 13, 14, 15, 16, 17, 18, 6, 19, 30] (by decide +kernel) (by decide +kernel)
set_option maxRecDepth 20000 in
theorem gX3_root_X2_evenRoot : GoodIn wsX3_root (wsV RX3 64 RX2 yX2_evenRoot wsX2_evenRoot) := goodIn_app (goodIn_of _ (by decide +kernel)) ggX3_root_X2_evenRoot
theorem dX3_root_0 : decode cX3_root 0 = .ok (.aload_n 0, 1) := by decide +kernel
theorem dX3_root_1 : decode cX3_root 1 = .ok (.getfield 33, 3) := by decide +kernel
theorem dX3_root_4 : decode cX3_root 4 = .ok (.ifnonnull 6, 3) := by decide +kernel
theorem dX3_root_7 : decode cX3_root 7 = .ok (.bipush (-3), 2) := by decide +kernel
theorem dX3_root_9 : decode cX3_root 9 = .ok (.ireturn, 1) := by decide +kernel
theorem dX3_root_10 : decode cX3_root 10 = .ok (.aload_n 0, 1) := by decide +kernel
theorem dX3_root_11 : decode cX3_root 11 = .ok (.getfield 33, 3) := by decide +kernel
theorem dX3_root_14 : decode cX3_root 14 = .ok (.getfield 56, 3) := by decide +kernel
theorem dX3_root_17 : decode cX3_root 17 = .ok (.iload_n 1, 1) := by decide +kernel
theorem dX3_root_18 : decode cX3_root 18 = .ok (.invokevirtual 60, 3) := by decide +kernel
theorem dX3_root_21 : decode cX3_root 21 = .ok (.ifCond .ne 6, 3) := by decide +kernel
theorem dX3_root_24 : decode cX3_root 24 = .ok (.bipush (-2), 2) := by decide +kernel
theorem dX3_root_26 : decode cX3_root 26 = .ok (.ireturn, 1) := by decide +kernel
theorem dX3_root_27 : decode cX3_root 27 = .ok (.aload_n 0, 1) := by decide +kernel
theorem dX3_root_28 : decode cX3_root 28 = .ok (.getfield 33, 3) := by decide +kernel
theorem dX3_root_31 : decode cX3_root 31 = .ok (.getfield 56, 3) := by decide +kernel
theorem dX3_root_34 : decode cX3_root 34 = .ok (.iload_n 1, 1) := by decide +kernel
theorem dX3_root_35 : decode cX3_root 35 = .ok (.i2l, 1) := by decide +kernel
theorem dX3_root_36 : decode cX3_root 36 = .ok (.invokevirtual 64, 3) := by decide +kernel
theorem dX3_root_39 : decode cX3_root 39 = .ok (.l2i, 1) := by decide +kernel
theorem dX3_root_40 : decode cX3_root 40 = .ok (.ireturn, 1) := by decide +kernel
set_option maxRecDepth 20000 in
theorem ggX3_point_X3_isSlot : GoodIn wsX3_point wsX3_isSlot := goodIn_r _ [7] (by decide +kernel) (by decide +kernel)
set_option maxRecDepth 20000 in
theorem gX3_point_X3_isSlot : GoodIn wsX3_point (va_wsS RX3 68 yX3_isSlot wsX3_isSlot) := goodIn_app (goodIn_of _ (by decide +kernel)) ggX3_point_X3_isSlot
set_option maxRecDepth 20000 in
theorem ggX3_point_X2_has : GoodIn wsX3_point wsX2_has := goodIn_r _ [12, 13, 42] (by decide +kernel) (by decide +kernel)
set_option maxRecDepth 20000 in
theorem gX3_point_X2_has : GoodIn wsX3_point (wsV RX3 60 RX2 yX2_has wsX2_has) := goodIn_app (goodIn_of _ (by decide +kernel)) ggX3_point_X2_has
set_option maxRecDepth 20000 in
theorem ggX3_point_X0_passes : GoodIn wsX3_point wsX0_passes := goodIn_r _ [18, 19, 20, 21, 22, 11, 23, 13, 24, 25, 26, 17, 27, 28, 36, 37, 38, 39, 40, 41, 42] (by decide +kernel) (by decide +kernel)
set_option maxRecDepth 20000 in
theorem gX3_point_X0_passes : GoodIn wsX3_point (wsV RX3 71 RX0 yX0_passes wsX0_passes) := goodIn_app (goodIn_of _ (by decide +kernel)) ggX3_point_X0_passes
set_option maxRecDepth 20000 in
theorem ggX3_point_X3_joined : GoodIn wsX3_point wsX3_joined := goodIn_r _ [31] (by decide +kernel) (by decide +kernel)
set_option maxRecDepth 20000 in
theorem gX3_point_X3_joined : GoodIn wsX3_point (va_wsS RX3 75 yX3_joined wsX3_joined) := goodIn_app (goodIn_of _ (by decide +kernel)) ggX3_point_X3_joined
theorem dX3_point_0 : decode cX3_point 0 = .ok (.aload_n 0, 1) := by decide +kernel
theorem dX3_point_1 : decode cX3_point 1 = .ok (.getfield 33, 3) := by decide +kernel
theorem dX3_point_4 : decode cX3_point 4 = .ok (.ifnonnull 6, 3) := by decide +kernel
theorem dX3_point_7 : decode cX3_point 7 = .ok (.bipush (-3), 2) := by decide +kernel
theorem dX3_point_9 : decode cX3_point 9 = .ok (.ireturn, 1) := by decide +kernel
theorem dX3_point_10 : decode cX3_point 10 = .ok (.iload_n 1, 1) := by decide +kernel
theorem dX3_point_11 : decode cX3_point 11 = .ok (.invokestatic 68, 3) := by decide +kernel
theorem dX3_point_14 : decode cX3_point 14 = .ok (.ifCond .eq 31, 3) := by decide +kernel
theorem dX3_point_17 : decode cX3_point 17 = .ok (.aload_n 0, 1) := by decide +kernel
theorem dX3_point_18 : decode cX3_point 18 = .ok (.getfield 33, 3) := by decide +kernel
theorem dX3_point_21 : decode cX3_point 21 = .ok (.getfield 56, 3) := by decide +kernel
theorem dX3_point_24 : decode cX3_point 24 = .ok (.iload_n 2, 1) := by decide +kernel
theorem dX3_point_25 : decode cX3_point 25 = .ok (.invokevirtual 60, 3) := by decide +kernel
theorem dX3_point_28 : decode cX3_point 28 = .ok (.ifCond .eq 17, 3) := by decide +kernel
theorem dX3_point_31 : decode cX3_point 31 = .ok (.aload_n 0, 1) := by decide +kernel
theorem dX3_point_32 : decode cX3_point 32 = .ok (.getfield 33, 3) := by decide +kernel
theorem dX3_point_35 : decode cX3_point 35 = .ok (.getfield 56, 3) := by decide +kernel
theorem dX3_point_38 : decode cX3_point 38 = .ok (.iload_n 3, 1) := by decide +kernel
theorem dX3_point_39 : decode cX3_point 39 = .ok (.invokevirtual 60, 3) := by decide +kernel
theorem dX3_point_42 : decode cX3_point 42 = .ok (.ifCond .ne 6, 3) := by decide +kernel
theorem dX3_point_45 : decode cX3_point 45 = .ok (.bipush (-2), 2) := by decide +kernel
theorem dX3_point_47 : decode cX3_point 47 = .ok (.ireturn, 1) := by decide +kernel
theorem dX3_point_48 : decode cX3_point 48 = .ok (.aload_n 0, 1) := by decide +kernel
theorem dX3_point_49 : decode cX3_point 49 = .ok (.getfield 33, 3) := by decide +kernel
theorem dX3_point_52 : decode cX3_point 52 = .ok (.iload_n 2, 1) := by decide +kernel
theorem dX3_point_53 : decode cX3_point 53 = .ok (.i2l, 1) := by decide +kernel
theorem dX3_point_54 : decode cX3_point 54 = .ok (.iload_n 3, 1) := by decide +kernel
theorem dX3_point_55 : decode cX3_point 55 = .ok (.i2l, 1) := by decide +kernel
theorem dX3_point_56 : decode cX3_point 56 = .ok (.invokevirtual 71, 3) := by decide +kernel
theorem dX3_point_59 : decode cX3_point 59 = .ok (.ifCond .ne 5, 3) := by decide +kernel
theorem dX3_point_62 : decode cX3_point 62 = .ok (.iconst (-1), 1) := by decide +kernel
theorem dX3_point_63 : decode cX3_point 63 = .ok (.ireturn, 1) := by decide +kernel
theorem dX3_point_64 : decode cX3_point 64 = .ok (.aload_n 0, 1) := by decide +kernel
theorem dX3_point_65 : decode cX3_point 65 = .ok (.getfield 9, 3) := by decide +kernel
theorem dX3_point_68 : decode cX3_point 68 = .ok (.iload_n 1, 1) := by decide +kernel
theorem dX3_point_69 : decode cX3_point 69 = .ok (.iload_n 2, 1) := by decide +kernel
theorem dX3_point_70 : decode cX3_point 70 = .ok (.i2l, 1) := by decide +kernel
theorem dX3_point_71 : decode cX3_point 71 = .ok (.iload_n 3, 1) := by decide +kernel
theorem dX3_point_72 : decode cX3_point 72 = .ok (.i2l, 1) := by decide +kernel
theorem dX3_point_73 : decode cX3_point 73 = .ok (.invokestatic 75, 3) := by decide +kernel
theorem dX3_point_76 : decode cX3_point 76 = .ok (.lastore, 1) := by decide +kernel
theorem dX3_point_77 : decode cX3_point 77 = .ok (.iconst 1, 1) := by decide +kernel
theorem dX3_point_78 : decode cX3_point 78 = .ok (.ireturn, 1) := by decide +kernel
set_option maxRecDepth 20000 in
theorem ggX3_nowhere_X3_isSlot : GoodIn wsX3_nowhere wsX3_isSlot := goodIn_r _ [7] (by decide +kernel) (by decide +kernel)
set_option maxRecDepth 20000 in
theorem gX3_nowhere_X3_isSlot : GoodIn wsX3_nowhere (va_wsS RX3 68 yX3_isSlot wsX3_isSlot) := goodIn_app (goodIn_of _ (by decide +kernel)) ggX3_nowhere_X3_isSlot
theorem dX3_nowhere_0 : decode cX3_nowhere 0 = .ok (.aload_n 0, 1) := by decide +kernel
theorem dX3_nowhere_1 : decode cX3_nowhere 1 = .ok (.getfield 33, 3) := by decide +kernel
theorem dX3_nowhere_4 : decode cX3_nowhere 4 = .ok (.ifnonnull 6, 3) := by decide +kernel
theorem dX3_nowhere_7 : decode cX3_nowhere 7 = .ok (.bipush (-3), 2) := by decide +kernel
theorem dX3_nowhere_9 : decode cX3_nowhere 9 = .ok (.ireturn, 1) := by decide +kernel
theorem dX3_nowhere_10 : decode cX3_nowhere 10 = .ok (.iload_n 1, 1) := by decide +kernel
theorem dX3_nowhere_11 : decode cX3_nowhere 11 = .ok (.invokestatic 68, 3) := by decide +kernel
theorem dX3_nowhere_14 : decode cX3_nowhere 14 = .ok (.ifCond .ne 6, 3) := by decide +kernel
theorem dX3_nowhere_17 : decode cX3_nowhere 17 = .ok (.bipush (-2), 2) := by decide +kernel
theorem dX3_nowhere_19 : decode cX3_nowhere 19 = .ok (.ireturn, 1) := by decide +kernel
theorem dX3_nowhere_20 : decode cX3_nowhere 20 = .ok (.aload_n 0, 1) := by decide +kernel
theorem dX3_nowhere_21 : decode cX3_nowhere 21 = .ok (.getfield 9, 3) := by decide +kernel
theorem dX3_nowhere_24 : decode cX3_nowhere 24 = .ok (.iload_n 1, 1) := by decide +kernel
theorem dX3_nowhere_25 : decode cX3_nowhere 25 = .ok (.ldc2_w 79, 3) := by decide +kernel
theorem dX3_nowhere_28 : decode cX3_nowhere 28 = .ok (.lastore, 1) := by decide +kernel
theorem dX3_nowhere_29 : decode cX3_nowhere 29 = .ok (.iconst 1, 1) := by decide +kernel
theorem dX3_nowhere_30 : decode cX3_nowhere 30 = .ok (.ireturn, 1) := by decide +kernel
set_option maxRecDepth 20000 in
theorem ggX3_turn_X3_isSlot : GoodIn wsX3_turn wsX3_isSlot := goodIn_r _ [7] (by decide +kernel) (by decide +kernel)
set_option maxRecDepth 20000 in
theorem gX3_turn_X3_isSlot : GoodIn wsX3_turn (va_wsS RX3 68 yX3_isSlot wsX3_isSlot) := goodIn_app (goodIn_of _ (by decide +kernel)) ggX3_turn_X3_isSlot
set_option maxRecDepth 20000 in
theorem ggX3_turn_X0_turned : GoodIn wsX3_turn wsX0_turned := goodIn_r _ [12, 13, 14, 15, 16, 17, 18, 19, 20, 11, 21, 22, 23, 24, 25, 26, 27, 28, 29, 30, 31, 32, 33, 34, 35, 36, 37, 38, 39, 40, 41, 6, 42, 43, 44, 45, 46, 47, 48, 49, 50, 51, 52, 53, 54, 55, 56, 57, 58, 59, 60, 61, 62, 63, 64, 65, 66, 67, 68, 69, 70, 71, 72, 73, 74, 75, 76, 81, 82, 83, 84, 85, 86, 87] (by decide +kernel) (by decide +kernel)
set_option maxRecDepth 20000 in
theorem gX3_turn_X0_turned : GoodIn wsX3_turn (wsV RX3 81 RX0 yX0_turned wsX0_turned) := goodIn_app (goodIn_of _ (by decide +kernel)) ggX3_turn_X0_turned
theorem dX3_turn_0 : decode cX3_turn 0 = .ok (.aload_n 0, 1) := by decide +kernel
theorem dX3_turn_1 : decode cX3_turn 1 = .ok (.getfield 33, 3) := by decide +kernel
theorem dX3_turn_4 : decode cX3_turn 4 = .ok (.ifnonnull 6, 3) := by decide +kernel
theorem dX3_turn_7 : decode cX3_turn 7 = .ok (.bipush (-3), 2) := by decide +kernel
theorem dX3_turn_9 : decode cX3_turn 9 = .ok (.ireturn, 1) := by decide +kernel
theorem dX3_turn_10 : decode cX3_turn 10 = .ok (.iload_n 1, 1) := by decide +kernel
theorem dX3_turn_11 : decode cX3_turn 11 = .ok (.invokestatic 68, 3) := by decide +kernel
theorem dX3_turn_14 : decode cX3_turn 14 = .ok (.ifCond .ne 6, 3) := by decide +kernel
theorem dX3_turn_17 : decode cX3_turn 17 = .ok (.bipush (-2), 2) := by decide +kernel
theorem dX3_turn_19 : decode cX3_turn 19 = .ok (.ireturn, 1) := by decide +kernel
theorem dX3_turn_20 : decode cX3_turn 20 = .ok (.aload_n 0, 1) := by decide +kernel
theorem dX3_turn_21 : decode cX3_turn 21 = .ok (.getfield 9, 3) := by decide +kernel
theorem dX3_turn_24 : decode cX3_turn 24 = .ok (.iload_n 1, 1) := by decide +kernel
theorem dX3_turn_25 : decode cX3_turn 25 = .ok (.aload_n 0, 1) := by decide +kernel
theorem dX3_turn_26 : decode cX3_turn 26 = .ok (.getfield 33, 3) := by decide +kernel
theorem dX3_turn_29 : decode cX3_turn 29 = .ok (.lload_n 2, 1) := by decide +kernel
theorem dX3_turn_30 : decode cX3_turn 30 = .ok (.invokevirtual 81, 3) := by decide +kernel
theorem dX3_turn_33 : decode cX3_turn 33 = .ok (.lastore, 1) := by decide +kernel
theorem dX3_turn_34 : decode cX3_turn 34 = .ok (.aload_n 0, 1) := by decide +kernel
theorem dX3_turn_35 : decode cX3_turn 35 = .ok (.getfield 33, 3) := by decide +kernel
theorem dX3_turn_38 : decode cX3_turn 38 = .ok (.getfield 84, 3) := by decide +kernel
theorem dX3_turn_41 : decode cX3_turn 41 = .ok (.ireturn, 1) := by decide +kernel
set_option maxRecDepth 20000 in
theorem ggX3_add_X3_isSlot : GoodIn wsX3_add wsX3_isSlot := goodIn_r _ [7] (by decide +kernel) (by decide +kernel)
set_option maxRecDepth 20000 in
theorem gX3_add_X3_isSlot : GoodIn wsX3_add (va_wsS RX3 68 yX3_isSlot wsX3_isSlot) := goodIn_app (goodIn_of _ (by decide +kernel)) ggX3_add_X3_isSlot
set_option maxRecDepth 20000 in
theorem ggX3_add_X0_sum : GoodIn wsX3_add wsX0_sum := goodIn_r _ [12, 13, 14, 15, 16, 17, 11, 18, 19, 20, 6, 21, 22, 23, 24, 25, 26, 27, 28, 29, 30, 31, 32, 33, 34, 35, 36, 37, 38, 39, 40, 41, 42, 43, 44, 45, 46, 51, 52, 53, 54, 55, 56, 57] (by decide +kernel) (by decide +kernel)
set_option maxRecDepth 20000 in
theorem gX3_add_X0_sum : GoodIn wsX3_add (wsV RX3 88 RX0 yX0_sum wsX0_sum) := goodIn_app (goodIn_of _ (by decide +kernel)) ggX3_add_X0_sum
theorem dX3_add_0 : decode cX3_add 0 = .ok (.aload_n 0, 1) := by decide +kernel
theorem dX3_add_1 : decode cX3_add 1 = .ok (.getfield 33, 3) := by decide +kernel
theorem dX3_add_4 : decode cX3_add 4 = .ok (.ifnonnull 6, 3) := by decide +kernel
theorem dX3_add_7 : decode cX3_add 7 = .ok (.bipush (-3), 2) := by decide +kernel
theorem dX3_add_9 : decode cX3_add 9 = .ok (.ireturn, 1) := by decide +kernel
theorem dX3_add_10 : decode cX3_add 10 = .ok (.iload_n 1, 1) := by decide +kernel
theorem dX3_add_11 : decode cX3_add 11 = .ok (.invokestatic 68, 3) := by decide +kernel
theorem dX3_add_14 : decode cX3_add 14 = .ok (.ifCond .eq 17, 3) := by decide +kernel
theorem dX3_add_17 : decode cX3_add 17 = .ok (.iload_n 2, 1) := by decide +kernel
theorem dX3_add_18 : decode cX3_add 18 = .ok (.invokestatic 68, 3) := by decide +kernel
theorem dX3_add_21 : decode cX3_add 21 = .ok (.ifCond .eq 10, 3) := by decide +kernel
theorem dX3_add_24 : decode cX3_add 24 = .ok (.iload_n 3, 1) := by decide +kernel
theorem dX3_add_25 : decode cX3_add 25 = .ok (.invokestatic 68, 3) := by decide +kernel
theorem dX3_add_28 : decode cX3_add 28 = .ok (.ifCond .ne 6, 3) := by decide +kernel
theorem dX3_add_31 : decode cX3_add 31 = .ok (.bipush (-2), 2) := by decide +kernel
theorem dX3_add_33 : decode cX3_add 33 = .ok (.ireturn, 1) := by decide +kernel
theorem dX3_add_34 : decode cX3_add 34 = .ok (.aload_n 0, 1) := by decide +kernel
theorem dX3_add_35 : decode cX3_add 35 = .ok (.getfield 9, 3) := by decide +kernel
theorem dX3_add_38 : decode cX3_add 38 = .ok (.iload_n 1, 1) := by decide +kernel
theorem dX3_add_39 : decode cX3_add 39 = .ok (.aload_n 0, 1) := by decide +kernel
theorem dX3_add_40 : decode cX3_add 40 = .ok (.getfield 33, 3) := by decide +kernel
theorem dX3_add_43 : decode cX3_add 43 = .ok (.aload_n 0, 1) := by decide +kernel
theorem dX3_add_44 : decode cX3_add 44 = .ok (.getfield 9, 3) := by decide +kernel
theorem dX3_add_47 : decode cX3_add 47 = .ok (.iload_n 2, 1) := by decide +kernel
theorem dX3_add_48 : decode cX3_add 48 = .ok (.laload, 1) := by decide +kernel
theorem dX3_add_49 : decode cX3_add 49 = .ok (.aload_n 0, 1) := by decide +kernel
theorem dX3_add_50 : decode cX3_add 50 = .ok (.getfield 9, 3) := by decide +kernel
theorem dX3_add_53 : decode cX3_add 53 = .ok (.iload_n 3, 1) := by decide +kernel
theorem dX3_add_54 : decode cX3_add 54 = .ok (.laload, 1) := by decide +kernel
theorem dX3_add_55 : decode cX3_add 55 = .ok (.invokevirtual 88, 3) := by decide +kernel
theorem dX3_add_58 : decode cX3_add 58 = .ok (.lastore, 1) := by decide +kernel
theorem dX3_add_59 : decode cX3_add 59 = .ok (.aload_n 0, 1) := by decide +kernel
theorem dX3_add_60 : decode cX3_add 60 = .ok (.getfield 9, 3) := by decide +kernel
theorem dX3_add_63 : decode cX3_add 63 = .ok (.iload_n 1, 1) := by decide +kernel
theorem dX3_add_64 : decode cX3_add 64 = .ok (.laload, 1) := by decide +kernel
theorem dX3_add_65 : decode cX3_add 65 = .ok (.ldc2_w 79, 3) := by decide +kernel
theorem dX3_add_68 : decode cX3_add 68 = .ok (.lcmp, 1) := by decide +kernel
theorem dX3_add_69 : decode cX3_add 69 = .ok (.ifCond .ne 7, 3) := by decide +kernel
theorem dX3_add_72 : decode cX3_add 72 = .ok (.iconst 0, 1) := by decide +kernel
theorem dX3_add_73 : decode cX3_add 73 = .ok (.goto 4, 3) := by decide +kernel
theorem dX3_add_76 : decode cX3_add 76 = .ok (.iconst 1, 1) := by decide +kernel
theorem dX3_add_77 : decode cX3_add 77 = .ok (.ireturn, 1) := by decide +kernel
set_option maxRecDepth 20000 in
theorem ggX3_times_X3_isSlot : GoodIn wsX3_times wsX3_isSlot := goodIn_r _ [7] (by decide +kernel) (by decide +kernel)
set_option maxRecDepth 20000 in
theorem gX3_times_X3_isSlot : GoodIn wsX3_times (va_wsS RX3 68 yX3_isSlot wsX3_isSlot) := goodIn_app (goodIn_of _ (by decide +kernel)) ggX3_times_X3_isSlot
set_option maxRecDepth 20000 in
theorem ggX3_times_X0_multiple : GoodIn wsX3_times wsX0_multiple := goodIn_r _ [12, 13, 14, 15, 16, 17, 18, 19, 20, 21, 22, 11, 23, 24, 25, 26, 27, 28, 29, 6, 30, 31, 32, 33, 34, 35, 36, 37, 38, 39, 40, 41, 42, 43, 44, 45, 46, 47, 48, 49, 50, 51, 52, 53, 54, 59, 60, 61, 62, 63, 64, 65] (by decide +kernel) (by decide +kernel)
set_option maxRecDepth 20000 in
theorem gX3_times_X0_multiple : GoodIn wsX3_times (wsV RX3 91 RX0 yX0_multiple wsX0_multiple) := goodIn_app (goodIn_of _ (by decide +kernel)) ggX3_times_X0_multiple
theorem dX3_times_0 : decode cX3_times 0 = .ok (.aload_n 0, 1) := by decide +kernel
theorem dX3_times_1 : decode cX3_times 1 = .ok (.getfield 33, 3) := by decide +kernel
theorem dX3_times_4 : decode cX3_times 4 = .ok (.ifnonnull 6, 3) := by decide +kernel
theorem dX3_times_7 : decode cX3_times 7 = .ok (.bipush (-3), 2) := by decide +kernel
theorem dX3_times_9 : decode cX3_times 9 = .ok (.ireturn, 1) := by decide +kernel
theorem dX3_times_10 : decode cX3_times 10 = .ok (.iload_n 1, 1) := by decide +kernel
theorem dX3_times_11 : decode cX3_times 11 = .ok (.invokestatic 68, 3) := by decide +kernel
theorem dX3_times_14 : decode cX3_times 14 = .ok (.ifCond .eq 10, 3) := by decide +kernel
theorem dX3_times_17 : decode cX3_times 17 = .ok (.iload_n 2, 1) := by decide +kernel
theorem dX3_times_18 : decode cX3_times 18 = .ok (.invokestatic 68, 3) := by decide +kernel
theorem dX3_times_21 : decode cX3_times 21 = .ok (.ifCond .ne 6, 3) := by decide +kernel
theorem dX3_times_24 : decode cX3_times 24 = .ok (.bipush (-2), 2) := by decide +kernel
theorem dX3_times_26 : decode cX3_times 26 = .ok (.ireturn, 1) := by decide +kernel
theorem dX3_times_27 : decode cX3_times 27 = .ok (.aload_n 0, 1) := by decide +kernel
theorem dX3_times_28 : decode cX3_times 28 = .ok (.getfield 9, 3) := by decide +kernel
theorem dX3_times_31 : decode cX3_times 31 = .ok (.iload_n 1, 1) := by decide +kernel
theorem dX3_times_32 : decode cX3_times 32 = .ok (.aload_n 0, 1) := by decide +kernel
theorem dX3_times_33 : decode cX3_times 33 = .ok (.getfield 33, 3) := by decide +kernel
theorem dX3_times_36 : decode cX3_times 36 = .ok (.lload_n 3, 1) := by decide +kernel
theorem dX3_times_37 : decode cX3_times 37 = .ok (.aload_n 0, 1) := by decide +kernel
theorem dX3_times_38 : decode cX3_times 38 = .ok (.getfield 9, 3) := by decide +kernel
theorem dX3_times_41 : decode cX3_times 41 = .ok (.iload_n 2, 1) := by decide +kernel
theorem dX3_times_42 : decode cX3_times 42 = .ok (.laload, 1) := by decide +kernel
theorem dX3_times_43 : decode cX3_times 43 = .ok (.invokevirtual 91, 3) := by decide +kernel
theorem dX3_times_46 : decode cX3_times 46 = .ok (.lastore, 1) := by decide +kernel
theorem dX3_times_47 : decode cX3_times 47 = .ok (.aload_n 0, 1) := by decide +kernel
theorem dX3_times_48 : decode cX3_times 48 = .ok (.getfield 9, 3) := by decide +kernel
theorem dX3_times_51 : decode cX3_times 51 = .ok (.iload_n 1, 1) := by decide +kernel
theorem dX3_times_52 : decode cX3_times 52 = .ok (.laload, 1) := by decide +kernel
theorem dX3_times_53 : decode cX3_times 53 = .ok (.ldc2_w 79, 3) := by decide +kernel
theorem dX3_times_56 : decode cX3_times 56 = .ok (.lcmp, 1) := by decide +kernel
theorem dX3_times_57 : decode cX3_times 57 = .ok (.ifCond .ne 7, 3) := by decide +kernel
theorem dX3_times_60 : decode cX3_times 60 = .ok (.iconst 0, 1) := by decide +kernel
theorem dX3_times_61 : decode cX3_times 61 = .ok (.goto 4, 3) := by decide +kernel
theorem dX3_times_64 : decode cX3_times 64 = .ok (.iconst 1, 1) := by decide +kernel
theorem dX3_times_65 : decode cX3_times 65 = .ok (.ireturn, 1) := by decide +kernel
set_option maxRecDepth 20000 in
theorem ggX3_at_X3_isSlot : GoodIn wsX3_at wsX3_isSlot := goodIn_r _ [7] (by decide +kernel) (by decide +kernel)
set_option maxRecDepth 20000 in
theorem gX3_at_X3_isSlot : GoodIn wsX3_at (va_wsS RX3 68 yX3_isSlot wsX3_isSlot) := goodIn_app (goodIn_of _ (by decide +kernel)) ggX3_at_X3_isSlot
set_option maxRecDepth 20000 in
theorem ggX3_at_X3_isHalf : GoodIn wsX3_at wsX3_isHalf := goodIn_r _ [10] (by decide +kernel) (by decide +kernel)
set_option maxRecDepth 20000 in
theorem gX3_at_X3_isHalf : GoodIn wsX3_at (va_wsS RX3 94 yX3_isHalf wsX3_isHalf) := goodIn_app (goodIn_of _ (by decide +kernel)) ggX3_at_X3_isHalf
set_option maxRecDepth 20000 in
theorem ggX3_at_X3_half : GoodIn wsX3_at wsX3_half := goodIn_r _ [13, 14, 15, 6, 16, 17, 18, 19, 20] (by decide +kernel) (by decide +kernel)
set_option maxRecDepth 20000 in
theorem gX3_at_X3_half : GoodIn wsX3_at (va_wsS RX3 97 yX3_half wsX3_half) := goodIn_app (goodIn_of _ (by decide +kernel)) ggX3_at_X3_half
theorem dX3_at_0 : decode cX3_at 0 = .ok (.aload_n 0, 1) := by decide +kernel
theorem dX3_at_1 : decode cX3_at 1 = .ok (.getfield 33, 3) := by decide +kernel
theorem dX3_at_4 : decode cX3_at 4 = .ok (.ifnonnull 6, 3) := by decide +kernel
theorem dX3_at_7 : decode cX3_at 7 = .ok (.bipush (-3), 2) := by decide +kernel
theorem dX3_at_9 : decode cX3_at 9 = .ok (.ireturn, 1) := by decide +kernel
theorem dX3_at_10 : decode cX3_at 10 = .ok (.iload_n 1, 1) := by decide +kernel
theorem dX3_at_11 : decode cX3_at 11 = .ok (.invokestatic 68, 3) := by decide +kernel
theorem dX3_at_14 : decode cX3_at 14 = .ok (.ifCond .eq 10, 3) := by decide +kernel
theorem dX3_at_17 : decode cX3_at 17 = .ok (.iload_n 2, 1) := by decide +kernel
theorem dX3_at_18 : decode cX3_at 18 = .ok (.invokestatic 94, 3) := by decide +kernel
theorem dX3_at_21 : decode cX3_at 21 = .ok (.ifCond .ne 6, 3) := by decide +kernel
theorem dX3_at_24 : decode cX3_at 24 = .ok (.bipush (-2), 2) := by decide +kernel
theorem dX3_at_26 : decode cX3_at 26 = .ok (.ireturn, 1) := by decide +kernel
theorem dX3_at_27 : decode cX3_at 27 = .ok (.aload_n 0, 1) := by decide +kernel
theorem dX3_at_28 : decode cX3_at 28 = .ok (.getfield 9, 3) := by decide +kernel
theorem dX3_at_31 : decode cX3_at 31 = .ok (.iload_n 1, 1) := by decide +kernel
theorem dX3_at_32 : decode cX3_at 32 = .ok (.laload, 1) := by decide +kernel
theorem dX3_at_33 : decode cX3_at 33 = .ok (.ldc2_w 79, 3) := by decide +kernel
theorem dX3_at_36 : decode cX3_at 36 = .ok (.lcmp, 1) := by decide +kernel
theorem dX3_at_37 : decode cX3_at 37 = .ok (.ifCond .ne 7, 3) := by decide +kernel
theorem dX3_at_40 : decode cX3_at 40 = .ok (.iconst (-1), 1) := by decide +kernel
theorem dX3_at_41 : decode cX3_at 41 = .ok (.goto 13, 3) := by decide +kernel
theorem dX3_at_44 : decode cX3_at 44 = .ok (.aload_n 0, 1) := by decide +kernel
theorem dX3_at_45 : decode cX3_at 45 = .ok (.getfield 9, 3) := by decide +kernel
theorem dX3_at_48 : decode cX3_at 48 = .ok (.iload_n 1, 1) := by decide +kernel
theorem dX3_at_49 : decode cX3_at 49 = .ok (.laload, 1) := by decide +kernel
theorem dX3_at_50 : decode cX3_at 50 = .ok (.iload_n 2, 1) := by decide +kernel
theorem dX3_at_51 : decode cX3_at 51 = .ok (.invokestatic 97, 3) := by decide +kernel
theorem dX3_at_54 : decode cX3_at 54 = .ok (.ireturn, 1) := by decide +kernel
set_option maxRecDepth 20000 in
theorem ggX3_order_X3_isSlot : GoodIn wsX3_order wsX3_isSlot := goodIn_r _ [6] (by decide +kernel) (by decide +kernel)
set_option maxRecDepth 20000 in
theorem gX3_order_X3_isSlot : GoodIn wsX3_order (va_wsS RX3 68 yX3_isSlot wsX3_isSlot) := goodIn_app (goodIn_of _ (by decide +kernel)) ggX3_order_X3_isSlot
set_option maxRecDepth 20000 in
theorem ggX3_order_X0_orderOf : GoodIn wsX3_order wsX0_orderOf := goodIn_r _ [11, 12, 13, 14, 15, 16, 10, 17, 18, 19, 20, 21, 22, 23, 24, 25, 26, 27, 28, 29, 30, 31, 32, 33, 34, 35, 36, 5, 37, 38, 39, 40, 41, 42, 43, 44, 45, 46, 47, 48, 49, 50, 51, 52, 53, 54, 55, 56, 57, 58, 59, 60, 61, 66, 67, 68, 69, 70, 71, 72] (by decide +kernel) (by decide +kernel)
set_option maxRecDepth 20000 in
theorem gX3_order_X0_orderOf : GoodIn wsX3_order (wsV RX3 101 RX0 yX0_orderOf wsX0_orderOf) := goodIn_app (goodIn_of _ (by decide +kernel)) ggX3_order_X0_orderOf
theorem dX3_order_0 : decode cX3_order 0 = .ok (.aload_n 0, 1) := by decide +kernel
theorem dX3_order_1 : decode cX3_order 1 = .ok (.getfield 33, 3) := by decide +kernel
theorem dX3_order_4 : decode cX3_order 4 = .ok (.ifnonnull 6, 3) := by decide +kernel
theorem dX3_order_7 : decode cX3_order 7 = .ok (.bipush (-3), 2) := by decide +kernel
theorem dX3_order_9 : decode cX3_order 9 = .ok (.ireturn, 1) := by decide +kernel
theorem dX3_order_10 : decode cX3_order 10 = .ok (.iload_n 1, 1) := by decide +kernel
theorem dX3_order_11 : decode cX3_order 11 = .ok (.invokestatic 68, 3) := by decide +kernel
theorem dX3_order_14 : decode cX3_order 14 = .ok (.ifCond .ne 6, 3) := by decide +kernel
theorem dX3_order_17 : decode cX3_order 17 = .ok (.bipush (-2), 2) := by decide +kernel
theorem dX3_order_19 : decode cX3_order 19 = .ok (.ireturn, 1) := by decide +kernel
theorem dX3_order_20 : decode cX3_order 20 = .ok (.aload_n 0, 1) := by decide +kernel
theorem dX3_order_21 : decode cX3_order 21 = .ok (.getfield 33, 3) := by decide +kernel
theorem dX3_order_24 : decode cX3_order 24 = .ok (.aload_n 0, 1) := by decide +kernel
theorem dX3_order_25 : decode cX3_order 25 = .ok (.getfield 9, 3) := by decide +kernel
theorem dX3_order_28 : decode cX3_order 28 = .ok (.iload_n 1, 1) := by decide +kernel
theorem dX3_order_29 : decode cX3_order 29 = .ok (.laload, 1) := by decide +kernel
theorem dX3_order_30 : decode cX3_order 30 = .ok (.invokevirtual 101, 3) := by decide +kernel
theorem dX3_order_33 : decode cX3_order 33 = .ok (.l2i, 1) := by decide +kernel
theorem dX3_order_34 : decode cX3_order 34 = .ok (.ireturn, 1) := by decide +kernel
set_option maxRecDepth 20000 in
theorem ggX3_write_X3_isSlot : GoodIn wsX3_write wsX3_isSlot := goodIn_r _ [8] (by decide +kernel) (by decide +kernel)
set_option maxRecDepth 20000 in
theorem gX3_write_X3_isSlot : GoodIn wsX3_write (va_wsS RX3 68 yX3_isSlot wsX3_isSlot) := goodIn_app (goodIn_of _ (by decide +kernel)) ggX3_write_X3_isSlot
set_option maxRecDepth 20000 in
theorem ggX3_write_X3_written : GoodIn wsX3_write wsX3_written := goodIn_r _ [11, 12, 13, 14, 15, 7, 16, 17, 18, 19, 20] (by decide +kernel) (by decide +kernel)
set_option maxRecDepth 20000 in
theorem gX3_write_X3_written : GoodIn wsX3_write (va_wsS RX3 108 yX3_written wsX3_written) := goodIn_app (goodIn_of _ (by decide +kernel)) ggX3_write_X3_written
theorem dX3_write_0 : decode cX3_write 0 = .ok (.aload_n 0, 1) := by decide +kernel
theorem dX3_write_1 : decode cX3_write 1 = .ok (.getfield 33, 3) := by decide +kernel
theorem dX3_write_4 : decode cX3_write 4 = .ok (.ifnonnull 7, 3) := by decide +kernel
theorem dX3_write_7 : decode cX3_write 7 = .ok (.ldc2_w 104, 3) := by decide +kernel
theorem dX3_write_10 : decode cX3_write 10 = .ok (.lreturn, 1) := by decide +kernel
theorem dX3_write_11 : decode cX3_write 11 = .ok (.iload_n 1, 1) := by decide +kernel
theorem dX3_write_12 : decode cX3_write 12 = .ok (.invokestatic 68, 3) := by decide +kernel
theorem dX3_write_15 : decode cX3_write 15 = .ok (.ifCond .ne 7, 3) := by decide +kernel
theorem dX3_write_18 : decode cX3_write 18 = .ok (.ldc2_w 106, 3) := by decide +kernel
theorem dX3_write_21 : decode cX3_write 21 = .ok (.lreturn, 1) := by decide +kernel
theorem dX3_write_22 : decode cX3_write 22 = .ok (.aload_n 0, 1) := by decide +kernel
theorem dX3_write_23 : decode cX3_write 23 = .ok (.getfield 9, 3) := by decide +kernel
theorem dX3_write_26 : decode cX3_write 26 = .ok (.iload_n 1, 1) := by decide +kernel
theorem dX3_write_27 : decode cX3_write 27 = .ok (.laload, 1) := by decide +kernel
theorem dX3_write_28 : decode cX3_write 28 = .ok (.invokestatic 108, 3) := by decide +kernel
theorem dX3_write_31 : decode cX3_write 31 = .ok (.lreturn, 1) := by decide +kernel
set_option maxRecDepth 20000 in
theorem ggX3_read_X3_isSlot : GoodIn wsX3_read wsX3_isSlot := goodIn_r _ [7] (by decide +kernel) (by decide +kernel)
set_option maxRecDepth 20000 in
theorem gX3_read_X3_isSlot : GoodIn wsX3_read (va_wsS RX3 68 yX3_isSlot wsX3_isSlot) := goodIn_app (goodIn_of _ (by decide +kernel)) ggX3_read_X3_isSlot
set_option maxRecDepth 20000 in
theorem ggX3_read_X0_pointWritten : GoodIn wsX3_read wsX0_pointWritten := goodIn_r _ [12, 13, 14, 15, 16, 17, 18, 19, 20, 11, 21, 22, 23, 24, 25, 26, 27, 28, 29, 30, 31, 32, 33, 34, 35, 36, 6, 37, 42, 43, 44, 45, 46, 47, 48] (by decide +kernel) (by decide +kernel)
set_option maxRecDepth 20000 in
theorem gX3_read_X0_pointWritten : GoodIn wsX3_read (wsV RX3 111 RX0 yX0_pointWritten wsX0_pointWritten) := goodIn_app (goodIn_of _ (by decide +kernel)) ggX3_read_X0_pointWritten
theorem dX3_read_0 : decode cX3_read 0 = .ok (.aload_n 0, 1) := by decide +kernel
theorem dX3_read_1 : decode cX3_read 1 = .ok (.getfield 33, 3) := by decide +kernel
theorem dX3_read_4 : decode cX3_read 4 = .ok (.ifnonnull 6, 3) := by decide +kernel
theorem dX3_read_7 : decode cX3_read 7 = .ok (.bipush (-3), 2) := by decide +kernel
theorem dX3_read_9 : decode cX3_read 9 = .ok (.ireturn, 1) := by decide +kernel
theorem dX3_read_10 : decode cX3_read 10 = .ok (.iload_n 1, 1) := by decide +kernel
theorem dX3_read_11 : decode cX3_read 11 = .ok (.invokestatic 68, 3) := by decide +kernel
theorem dX3_read_14 : decode cX3_read 14 = .ok (.ifCond .ne 6, 3) := by decide +kernel
theorem dX3_read_17 : decode cX3_read 17 = .ok (.bipush (-2), 2) := by decide +kernel
theorem dX3_read_19 : decode cX3_read 19 = .ok (.ireturn, 1) := by decide +kernel
theorem dX3_read_20 : decode cX3_read 20 = .ok (.aload_n 0, 1) := by decide +kernel
theorem dX3_read_21 : decode cX3_read 21 = .ok (.getfield 33, 3) := by decide +kernel
theorem dX3_read_24 : decode cX3_read 24 = .ok (.lload_n 2, 1) := by decide +kernel
theorem dX3_read_25 : decode cX3_read 25 = .ok (.invokevirtual 111, 3) := by decide +kernel
theorem dX3_read_28 : decode cX3_read 28 = .ok (.lstore 4, 2) := by decide +kernel
theorem dX3_read_30 : decode cX3_read 30 = .ok (.lload 4, 2) := by decide +kernel
theorem dX3_read_32 : decode cX3_read 32 = .ok (.ldc2_w 106, 3) := by decide +kernel
theorem dX3_read_35 : decode cX3_read 35 = .ok (.lcmp, 1) := by decide +kernel
theorem dX3_read_36 : decode cX3_read 36 = .ok (.ifCond .ne 5, 3) := by decide +kernel
theorem dX3_read_39 : decode cX3_read 39 = .ok (.iconst (-1), 1) := by decide +kernel
theorem dX3_read_40 : decode cX3_read 40 = .ok (.ireturn, 1) := by decide +kernel
theorem dX3_read_41 : decode cX3_read 41 = .ok (.aload_n 0, 1) := by decide +kernel
theorem dX3_read_42 : decode cX3_read 42 = .ok (.getfield 9, 3) := by decide +kernel
theorem dX3_read_45 : decode cX3_read 45 = .ok (.iload_n 1, 1) := by decide +kernel
theorem dX3_read_46 : decode cX3_read 46 = .ok (.lload 4, 2) := by decide +kernel
theorem dX3_read_48 : decode cX3_read 48 = .ok (.lastore, 1) := by decide +kernel
theorem dX3_read_49 : decode cX3_read 49 = .ok (.iconst 1, 1) := by decide +kernel
theorem dX3_read_50 : decode cX3_read 50 = .ok (.ireturn, 1) := by decide +kernel
set_option maxRecDepth 20000 in
theorem ggX3_pair_X3_isValue : GoodIn wsX3_pair wsX3_isValue := goodIn_r _ [7] (by decide +kernel) (by decide +kernel)
set_option maxRecDepth 20000 in
theorem gX3_pair_X3_isValue : GoodIn wsX3_pair (va_wsS RX3 114 yX3_isValue wsX3_isValue) := goodIn_app (goodIn_of _ (by decide +kernel)) ggX3_pair_X3_isValue
set_option maxRecDepth 20000 in
theorem ggX3_pair_X3_isSlot : GoodIn wsX3_pair wsX3_isSlot := goodIn_r _ [10] (by decide +kernel) (by decide +kernel)
set_option maxRecDepth 20000 in
theorem gX3_pair_X3_isSlot : GoodIn wsX3_pair (va_wsS RX3 68 yX3_isSlot wsX3_isSlot) := goodIn_app (goodIn_of _ (by decide +kernel)) ggX3_pair_X3_isSlot
set_option maxRecDepth 20000 in
theorem ggX3_pair_X1_takes : GoodIn wsX3_pair wsX1_takes := goodIn_r _ [15, 16, 17, 18, 19, 20, 21, 22, 23, 24, 25, 26, 27, 28, 29, 30, 31, 32, 33, 34, 35, 36, 37, 38, 39, 40, 6, 41, 42, 43, 44, 45, 46, 47, 48, 49, 50, 51, 52, 53, 54, 55, 56, 57, 58, 59, 60, 61, 62, 63, 64, 65, 119, 120, 121, 122, 123, 124, 125, 126, 127, 128] (by decide +kernel) (by decide +kernel)
set_option maxRecDepth 20000 in
theorem gX3_pair_X1_takes : GoodIn wsX3_pair (wsV RX3 117 RX1 yX1_takes wsX1_takes) := goodIn_app (goodIn_of _ (by decide +kernel)) ggX3_pair_X1_takes
set_option maxRecDepth 20000 in
theorem ggX3_pair_X1_of : GoodIn wsX3_pair wsX1_of := goodIn_r _ [69, 18, 70, 16, 17, 71, 72, 73, 74, 14, 75, 76, 77, 78, 79, 80, 81, 82, 83, 84, 85, 86, 87, 88, 40, 6, 41, 42, 43, 44, 89, 28, 29, 30, 64, 65, 90, 91, 92, 93, 94, 95, 61, 62, 53, 63, 55, 96, 37, 38, 22, 39, 25, 97, 46, 47, 48, 49, 35, 26, 50, 51, 52, 54, 56, 57, 58, 59, 60, 98, 99, 32, 33, 34, 24, 36, 45, 100, 101, 102, 103, 104, 119, 120, 121, 122, 123, 124, 125, 126, 127, 128] (by decide +kernel) (by decide +kernel)
set_option maxRecDepth 20000 in
theorem gX3_pair_X1_of : GoodIn wsX3_pair (wsV RX3 121 RX1 yX1_of wsX1_of) := goodIn_app (goodIn_of _ (by decide +kernel)) ggX3_pair_X1_of
set_option maxRecDepth 20000 in
theorem ggX3_pair_X1_linesOf : GoodIn wsX3_pair wsX1_linesOf := goodIn_r _ [108, 18, 17, 72, 73, 74, 14, 75, 76, 77, 78, 79, 80, 81, 82, 83, 84, 109, 110, 111, 112, 113, 114, 119, 120, 121] (by decide +kernel) (by decide +kernel)
set_option maxRecDepth 20000 in
theorem gX3_pair_X1_linesOf : GoodIn wsX3_pair (wsV RX3 124 RX1 yX1_linesOf wsX1_linesOf) := goodIn_app (goodIn_of _ (by decide +kernel)) ggX3_pair_X1_linesOf
theorem dX3_pair_0 : decode cX3_pair 0 = .ok (.aload_n 0, 1) := by decide +kernel
theorem dX3_pair_1 : decode cX3_pair 1 = .ok (.getfield 42, 3) := by decide +kernel
theorem dX3_pair_4 : decode cX3_pair 4 = .ok (.ifnonnull 6, 3) := by decide +kernel
theorem dX3_pair_7 : decode cX3_pair 7 = .ok (.bipush (-3), 2) := by decide +kernel
theorem dX3_pair_9 : decode cX3_pair 9 = .ok (.ireturn, 1) := by decide +kernel
theorem dX3_pair_10 : decode cX3_pair 10 = .ok (.iload_n 1, 1) := by decide +kernel
theorem dX3_pair_11 : decode cX3_pair 11 = .ok (.invokestatic 114, 3) := by decide +kernel
theorem dX3_pair_14 : decode cX3_pair 14 = .ok (.ifCond .eq 17, 3) := by decide +kernel
theorem dX3_pair_17 : decode cX3_pair 17 = .ok (.iload_n 2, 1) := by decide +kernel
theorem dX3_pair_18 : decode cX3_pair 18 = .ok (.invokestatic 68, 3) := by decide +kernel
theorem dX3_pair_21 : decode cX3_pair 21 = .ok (.ifCond .eq 10, 3) := by decide +kernel
theorem dX3_pair_24 : decode cX3_pair 24 = .ok (.iload_n 3, 1) := by decide +kernel
theorem dX3_pair_25 : decode cX3_pair 25 = .ok (.invokestatic 68, 3) := by decide +kernel
theorem dX3_pair_28 : decode cX3_pair 28 = .ok (.ifCond .ne 6, 3) := by decide +kernel
theorem dX3_pair_31 : decode cX3_pair 31 = .ok (.bipush (-2), 2) := by decide +kernel
theorem dX3_pair_33 : decode cX3_pair 33 = .ok (.ireturn, 1) := by decide +kernel
theorem dX3_pair_34 : decode cX3_pair 34 = .ok (.aload_n 0, 1) := by decide +kernel
theorem dX3_pair_35 : decode cX3_pair 35 = .ok (.getfield 42, 3) := by decide +kernel
theorem dX3_pair_38 : decode cX3_pair 38 = .ok (.aload_n 0, 1) := by decide +kernel
theorem dX3_pair_39 : decode cX3_pair 39 = .ok (.getfield 9, 3) := by decide +kernel
theorem dX3_pair_42 : decode cX3_pair 42 = .ok (.iload_n 2, 1) := by decide +kernel
theorem dX3_pair_43 : decode cX3_pair 43 = .ok (.laload, 1) := by decide +kernel
theorem dX3_pair_44 : decode cX3_pair 44 = .ok (.invokevirtual 117, 3) := by decide +kernel
theorem dX3_pair_47 : decode cX3_pair 47 = .ok (.ifCond .eq 19, 3) := by decide +kernel
theorem dX3_pair_50 : decode cX3_pair 50 = .ok (.aload_n 0, 1) := by decide +kernel
theorem dX3_pair_51 : decode cX3_pair 51 = .ok (.getfield 42, 3) := by decide +kernel
theorem dX3_pair_54 : decode cX3_pair 54 = .ok (.aload_n 0, 1) := by decide +kernel
theorem dX3_pair_55 : decode cX3_pair 55 = .ok (.getfield 9, 3) := by decide +kernel
theorem dX3_pair_58 : decode cX3_pair 58 = .ok (.iload_n 3, 1) := by decide +kernel
theorem dX3_pair_59 : decode cX3_pair 59 = .ok (.laload, 1) := by decide +kernel
theorem dX3_pair_60 : decode cX3_pair 60 = .ok (.invokevirtual 117, 3) := by decide +kernel
theorem dX3_pair_63 : decode cX3_pair 63 = .ok (.ifCond .ne 5, 3) := by decide +kernel
theorem dX3_pair_66 : decode cX3_pair 66 = .ok (.iconst (-1), 1) := by decide +kernel
theorem dX3_pair_67 : decode cX3_pair 67 = .ok (.ireturn, 1) := by decide +kernel
theorem dX3_pair_68 : decode cX3_pair 68 = .ok (.aload_n 0, 1) := by decide +kernel
theorem dX3_pair_69 : decode cX3_pair 69 = .ok (.getfield 13, 3) := by decide +kernel
theorem dX3_pair_72 : decode cX3_pair 72 = .ok (.iload_n 1, 1) := by decide +kernel
theorem dX3_pair_73 : decode cX3_pair 73 = .ok (.aload_n 0, 1) := by decide +kernel
theorem dX3_pair_74 : decode cX3_pair 74 = .ok (.getfield 42, 3) := by decide +kernel
theorem dX3_pair_77 : decode cX3_pair 77 = .ok (.aload_n 0, 1) := by decide +kernel
theorem dX3_pair_78 : decode cX3_pair 78 = .ok (.getfield 9, 3) := by decide +kernel
theorem dX3_pair_81 : decode cX3_pair 81 = .ok (.iload_n 2, 1) := by decide +kernel
theorem dX3_pair_82 : decode cX3_pair 82 = .ok (.laload, 1) := by decide +kernel
theorem dX3_pair_83 : decode cX3_pair 83 = .ok (.aload_n 0, 1) := by decide +kernel
theorem dX3_pair_84 : decode cX3_pair 84 = .ok (.getfield 9, 3) := by decide +kernel
theorem dX3_pair_87 : decode cX3_pair 87 = .ok (.iload_n 3, 1) := by decide +kernel
theorem dX3_pair_88 : decode cX3_pair 88 = .ok (.laload, 1) := by decide +kernel
theorem dX3_pair_89 : decode cX3_pair 89 = .ok (.invokevirtual 121, 3) := by decide +kernel
theorem dX3_pair_92 : decode cX3_pair 92 = .ok (.lastore, 1) := by decide +kernel
theorem dX3_pair_93 : decode cX3_pair 93 = .ok (.aload_n 0, 1) := by decide +kernel
theorem dX3_pair_94 : decode cX3_pair 94 = .ok (.getfield 42, 3) := by decide +kernel
theorem dX3_pair_97 : decode cX3_pair 97 = .ok (.aload_n 0, 1) := by decide +kernel
theorem dX3_pair_98 : decode cX3_pair 98 = .ok (.getfield 9, 3) := by decide +kernel
theorem dX3_pair_101 : decode cX3_pair 101 = .ok (.iload_n 2, 1) := by decide +kernel
theorem dX3_pair_102 : decode cX3_pair 102 = .ok (.laload, 1) := by decide +kernel
theorem dX3_pair_103 : decode cX3_pair 103 = .ok (.aload_n 0, 1) := by decide +kernel
theorem dX3_pair_104 : decode cX3_pair 104 = .ok (.getfield 9, 3) := by decide +kernel
theorem dX3_pair_107 : decode cX3_pair 107 = .ok (.iload_n 3, 1) := by decide +kernel
theorem dX3_pair_108 : decode cX3_pair 108 = .ok (.laload, 1) := by decide +kernel
theorem dX3_pair_109 : decode cX3_pair 109 = .ok (.invokevirtual 124, 3) := by decide +kernel
theorem dX3_pair_112 : decode cX3_pair 112 = .ok (.ireturn, 1) := by decide +kernel
set_option maxRecDepth 20000 in
theorem ggX3_multiply_X3_isValue : GoodIn wsX3_multiply wsX3_isValue := goodIn_r _ [7] (by decide +kernel) (by decide +kernel)
set_option maxRecDepth 20000 in
theorem gX3_multiply_X3_isValue : GoodIn wsX3_multiply (va_wsS RX3 114 yX3_isValue wsX3_isValue) := goodIn_app (goodIn_of _ (by decide +kernel)) ggX3_multiply_X3_isValue
set_option maxRecDepth 20000 in
theorem ggX3_multiply_X1_product : GoodIn wsX3_multiply wsX1_product := goodIn_r _ [12, 13, 14, 6, 15, 16, 17, 18, 19, 20, 21, 22, 23, 24, 29, 30, 31] (by decide +kernel) (by decide +kernel)
set_option maxRecDepth 20000 in
theorem gX3_multiply_X1_product : GoodIn wsX3_multiply (wsV RX3 128 RX1 yX1_product wsX1_product) := goodIn_app (goodIn_of _ (by decide +kernel)) ggX3_multiply_X1_product
theorem dX3_multiply_0 : decode cX3_multiply 0 = .ok (.aload_n 0, 1) := by decide +kernel
theorem dX3_multiply_1 : decode cX3_multiply 1 = .ok (.getfield 42, 3) := by decide +kernel
theorem dX3_multiply_4 : decode cX3_multiply 4 = .ok (.ifnonnull 6, 3) := by decide +kernel
theorem dX3_multiply_7 : decode cX3_multiply 7 = .ok (.bipush (-3), 2) := by decide +kernel
theorem dX3_multiply_9 : decode cX3_multiply 9 = .ok (.ireturn, 1) := by decide +kernel
theorem dX3_multiply_10 : decode cX3_multiply 10 = .ok (.iload_n 1, 1) := by decide +kernel
theorem dX3_multiply_11 : decode cX3_multiply 11 = .ok (.invokestatic 114, 3) := by decide +kernel
theorem dX3_multiply_14 : decode cX3_multiply 14 = .ok (.ifCond .eq 17, 3) := by decide +kernel
theorem dX3_multiply_17 : decode cX3_multiply 17 = .ok (.iload_n 2, 1) := by decide +kernel
theorem dX3_multiply_18 : decode cX3_multiply 18 = .ok (.invokestatic 114, 3) := by decide +kernel
theorem dX3_multiply_21 : decode cX3_multiply 21 = .ok (.ifCond .eq 10, 3) := by decide +kernel
theorem dX3_multiply_24 : decode cX3_multiply 24 = .ok (.iload_n 3, 1) := by decide +kernel
theorem dX3_multiply_25 : decode cX3_multiply 25 = .ok (.invokestatic 114, 3) := by decide +kernel
theorem dX3_multiply_28 : decode cX3_multiply 28 = .ok (.ifCond .ne 6, 3) := by decide +kernel
theorem dX3_multiply_31 : decode cX3_multiply 31 = .ok (.bipush (-2), 2) := by decide +kernel
theorem dX3_multiply_33 : decode cX3_multiply 33 = .ok (.ireturn, 1) := by decide +kernel
theorem dX3_multiply_34 : decode cX3_multiply 34 = .ok (.aload_n 0, 1) := by decide +kernel
theorem dX3_multiply_35 : decode cX3_multiply 35 = .ok (.getfield 13, 3) := by decide +kernel
theorem dX3_multiply_38 : decode cX3_multiply 38 = .ok (.iload_n 1, 1) := by decide +kernel
theorem dX3_multiply_39 : decode cX3_multiply 39 = .ok (.aload_n 0, 1) := by decide +kernel
theorem dX3_multiply_40 : decode cX3_multiply 40 = .ok (.getfield 42, 3) := by decide +kernel
theorem dX3_multiply_43 : decode cX3_multiply 43 = .ok (.aload_n 0, 1) := by decide +kernel
theorem dX3_multiply_44 : decode cX3_multiply 44 = .ok (.getfield 13, 3) := by decide +kernel
theorem dX3_multiply_47 : decode cX3_multiply 47 = .ok (.iload_n 2, 1) := by decide +kernel
theorem dX3_multiply_48 : decode cX3_multiply 48 = .ok (.laload, 1) := by decide +kernel
theorem dX3_multiply_49 : decode cX3_multiply 49 = .ok (.aload_n 0, 1) := by decide +kernel
theorem dX3_multiply_50 : decode cX3_multiply 50 = .ok (.getfield 13, 3) := by decide +kernel
theorem dX3_multiply_53 : decode cX3_multiply 53 = .ok (.iload_n 3, 1) := by decide +kernel
theorem dX3_multiply_54 : decode cX3_multiply 54 = .ok (.laload, 1) := by decide +kernel
theorem dX3_multiply_55 : decode cX3_multiply 55 = .ok (.invokevirtual 128, 3) := by decide +kernel
theorem dX3_multiply_58 : decode cX3_multiply 58 = .ok (.lastore, 1) := by decide +kernel
theorem dX3_multiply_59 : decode cX3_multiply 59 = .ok (.aload_n 0, 1) := by decide +kernel
theorem dX3_multiply_60 : decode cX3_multiply 60 = .ok (.getfield 13, 3) := by decide +kernel
theorem dX3_multiply_63 : decode cX3_multiply 63 = .ok (.iload_n 1, 1) := by decide +kernel
theorem dX3_multiply_64 : decode cX3_multiply 64 = .ok (.laload, 1) := by decide +kernel
theorem dX3_multiply_65 : decode cX3_multiply 65 = .ok (.ldc2_w 131, 3) := by decide +kernel
theorem dX3_multiply_68 : decode cX3_multiply 68 = .ok (.lcmp, 1) := by decide +kernel
theorem dX3_multiply_69 : decode cX3_multiply 69 = .ok (.ifCond .ne 7, 3) := by decide +kernel
theorem dX3_multiply_72 : decode cX3_multiply 72 = .ok (.iconst 1, 1) := by decide +kernel
theorem dX3_multiply_73 : decode cX3_multiply 73 = .ok (.goto 4, 3) := by decide +kernel
theorem dX3_multiply_76 : decode cX3_multiply 76 = .ok (.iconst 0, 1) := by decide +kernel
theorem dX3_multiply_77 : decode cX3_multiply 77 = .ok (.ireturn, 1) := by decide +kernel
set_option maxRecDepth 20000 in
theorem ggX3_power_X3_isValue : GoodIn wsX3_power wsX3_isValue := goodIn_r _ [7] (by decide +kernel) (by decide +kernel)
set_option maxRecDepth 20000 in
theorem gX3_power_X3_isValue : GoodIn wsX3_power (va_wsS RX3 114 yX3_isValue wsX3_isValue) := goodIn_app (goodIn_of _ (by decide +kernel)) ggX3_power_X3_isValue
set_option maxRecDepth 20000 in
theorem ggX3_power_X1_raised : GoodIn wsX3_power wsX1_raised := goodIn_r _ [12, 13, 14, 15, 16, 17, 11, 18, 19, 20, 6, 21, 22, 23, 24, 25, 26, 27, 28, 29, 30, 35, 36, 37] (by decide +kernel) (by decide +kernel)
set_option maxRecDepth 20000 in
theorem gX3_power_X1_raised : GoodIn wsX3_power (wsV RX3 133 RX1 yX1_raised wsX1_raised) := goodIn_app (goodIn_of _ (by decide +kernel)) ggX3_power_X1_raised
theorem dX3_power_0 : decode cX3_power 0 = .ok (.aload_n 0, 1) := by decide +kernel
theorem dX3_power_1 : decode cX3_power 1 = .ok (.getfield 42, 3) := by decide +kernel
theorem dX3_power_4 : decode cX3_power 4 = .ok (.ifnonnull 6, 3) := by decide +kernel
theorem dX3_power_7 : decode cX3_power 7 = .ok (.bipush (-3), 2) := by decide +kernel
theorem dX3_power_9 : decode cX3_power 9 = .ok (.ireturn, 1) := by decide +kernel
theorem dX3_power_10 : decode cX3_power 10 = .ok (.iload_n 1, 1) := by decide +kernel
theorem dX3_power_11 : decode cX3_power 11 = .ok (.invokestatic 114, 3) := by decide +kernel
theorem dX3_power_14 : decode cX3_power 14 = .ok (.ifCond .eq 16, 3) := by decide +kernel
theorem dX3_power_17 : decode cX3_power 17 = .ok (.iload_n 2, 1) := by decide +kernel
theorem dX3_power_18 : decode cX3_power 18 = .ok (.invokestatic 114, 3) := by decide +kernel
theorem dX3_power_21 : decode cX3_power 21 = .ok (.ifCond .eq 9, 3) := by decide +kernel
theorem dX3_power_24 : decode cX3_power 24 = .ok (.lload_n 3, 1) := by decide +kernel
theorem dX3_power_25 : decode cX3_power 25 = .ok (.lconst 0, 1) := by decide +kernel
theorem dX3_power_26 : decode cX3_power 26 = .ok (.lcmp, 1) := by decide +kernel
theorem dX3_power_27 : decode cX3_power 27 = .ok (.ifCond .ge 6, 3) := by decide +kernel
theorem dX3_power_30 : decode cX3_power 30 = .ok (.bipush (-2), 2) := by decide +kernel
theorem dX3_power_32 : decode cX3_power 32 = .ok (.ireturn, 1) := by decide +kernel
theorem dX3_power_33 : decode cX3_power 33 = .ok (.aload_n 0, 1) := by decide +kernel
theorem dX3_power_34 : decode cX3_power 34 = .ok (.getfield 13, 3) := by decide +kernel
theorem dX3_power_37 : decode cX3_power 37 = .ok (.iload_n 1, 1) := by decide +kernel
theorem dX3_power_38 : decode cX3_power 38 = .ok (.aload_n 0, 1) := by decide +kernel
theorem dX3_power_39 : decode cX3_power 39 = .ok (.getfield 42, 3) := by decide +kernel
theorem dX3_power_42 : decode cX3_power 42 = .ok (.aload_n 0, 1) := by decide +kernel
theorem dX3_power_43 : decode cX3_power 43 = .ok (.getfield 13, 3) := by decide +kernel
theorem dX3_power_46 : decode cX3_power 46 = .ok (.iload_n 2, 1) := by decide +kernel
theorem dX3_power_47 : decode cX3_power 47 = .ok (.laload, 1) := by decide +kernel
theorem dX3_power_48 : decode cX3_power 48 = .ok (.lload_n 3, 1) := by decide +kernel
theorem dX3_power_49 : decode cX3_power 49 = .ok (.invokevirtual 133, 3) := by decide +kernel
theorem dX3_power_52 : decode cX3_power 52 = .ok (.lastore, 1) := by decide +kernel
theorem dX3_power_53 : decode cX3_power 53 = .ok (.aload_n 0, 1) := by decide +kernel
theorem dX3_power_54 : decode cX3_power 54 = .ok (.getfield 13, 3) := by decide +kernel
theorem dX3_power_57 : decode cX3_power 57 = .ok (.iload_n 1, 1) := by decide +kernel
theorem dX3_power_58 : decode cX3_power 58 = .ok (.laload, 1) := by decide +kernel
theorem dX3_power_59 : decode cX3_power 59 = .ok (.ldc2_w 131, 3) := by decide +kernel
theorem dX3_power_62 : decode cX3_power 62 = .ok (.lcmp, 1) := by decide +kernel
theorem dX3_power_63 : decode cX3_power 63 = .ok (.ifCond .ne 7, 3) := by decide +kernel
theorem dX3_power_66 : decode cX3_power 66 = .ok (.iconst 1, 1) := by decide +kernel
theorem dX3_power_67 : decode cX3_power 67 = .ok (.goto 4, 3) := by decide +kernel
theorem dX3_power_70 : decode cX3_power 70 = .ok (.iconst 0, 1) := by decide +kernel
theorem dX3_power_71 : decode cX3_power 71 = .ok (.ireturn, 1) := by decide +kernel
set_option maxRecDepth 20000 in
theorem ggX3_value_X3_isValue : GoodIn wsX3_value wsX3_isValue := goodIn_r _ [6] (by decide +kernel) (by decide +kernel)
set_option maxRecDepth 20000 in
theorem gX3_value_X3_isValue : GoodIn wsX3_value (va_wsS RX3 114 yX3_isValue wsX3_isValue) := goodIn_app (goodIn_of _ (by decide +kernel)) ggX3_value_X3_isValue
set_option maxRecDepth 20000 in
theorem ggX3_value_X3_isHalf : GoodIn wsX3_value wsX3_isHalf := goodIn_r _ [9] (by decide +kernel) (by decide +kernel)
set_option maxRecDepth 20000 in
theorem gX3_value_X3_isHalf : GoodIn wsX3_value (va_wsS RX3 94 yX3_isHalf wsX3_isHalf) := goodIn_app (goodIn_of _ (by decide +kernel)) ggX3_value_X3_isHalf
set_option maxRecDepth 20000 in
theorem ggX3_value_X3_half : GoodIn wsX3_value wsX3_half := goodIn_r _ [12, 13, 14, 5, 15, 16, 17, 18, 19] (by decide +kernel) (by decide +kernel)
set_option maxRecDepth 20000 in
theorem gX3_value_X3_half : GoodIn wsX3_value (va_wsS RX3 97 yX3_half wsX3_half) := goodIn_app (goodIn_of _ (by decide +kernel)) ggX3_value_X3_half
theorem dX3_value_0 : decode cX3_value 0 = .ok (.aload_n 0, 1) := by decide +kernel
theorem dX3_value_1 : decode cX3_value 1 = .ok (.getfield 42, 3) := by decide +kernel
theorem dX3_value_4 : decode cX3_value 4 = .ok (.ifnonnull 6, 3) := by decide +kernel
theorem dX3_value_7 : decode cX3_value 7 = .ok (.bipush (-3), 2) := by decide +kernel
theorem dX3_value_9 : decode cX3_value 9 = .ok (.ireturn, 1) := by decide +kernel
theorem dX3_value_10 : decode cX3_value 10 = .ok (.iload_n 1, 1) := by decide +kernel
theorem dX3_value_11 : decode cX3_value 11 = .ok (.invokestatic 114, 3) := by decide +kernel
theorem dX3_value_14 : decode cX3_value 14 = .ok (.ifCond .eq 10, 3) := by decide +kernel
theorem dX3_value_17 : decode cX3_value 17 = .ok (.iload_n 2, 1) := by decide +kernel
theorem dX3_value_18 : decode cX3_value 18 = .ok (.invokestatic 94, 3) := by decide +kernel
theorem dX3_value_21 : decode cX3_value 21 = .ok (.ifCond .ne 6, 3) := by decide +kernel
theorem dX3_value_24 : decode cX3_value 24 = .ok (.bipush (-2), 2) := by decide +kernel
theorem dX3_value_26 : decode cX3_value 26 = .ok (.ireturn, 1) := by decide +kernel
theorem dX3_value_27 : decode cX3_value 27 = .ok (.aload_n 0, 1) := by decide +kernel
theorem dX3_value_28 : decode cX3_value 28 = .ok (.getfield 13, 3) := by decide +kernel
theorem dX3_value_31 : decode cX3_value 31 = .ok (.iload_n 1, 1) := by decide +kernel
theorem dX3_value_32 : decode cX3_value 32 = .ok (.laload, 1) := by decide +kernel
theorem dX3_value_33 : decode cX3_value 33 = .ok (.iload_n 2, 1) := by decide +kernel
theorem dX3_value_34 : decode cX3_value 34 = .ok (.invokestatic 97, 3) := by decide +kernel
theorem dX3_value_37 : decode cX3_value 37 = .ok (.ireturn, 1) := by decide +kernel
set_option maxRecDepth 20000 in
theorem ggX3_open_X3_isSlot : GoodIn wsX3_open wsX3_isSlot := goodIn_r _ [7] (by decide +kernel) (by decide +kernel)
set_option maxRecDepth 20000 in
theorem gX3_open_X3_isSlot : GoodIn wsX3_open (va_wsS RX3 68 yX3_isSlot wsX3_isSlot) := goodIn_app (goodIn_of _ (by decide +kernel)) ggX3_open_X3_isSlot
set_option maxRecDepth 20000 in
theorem ggX3_open_X0_isKey : GoodIn wsX3_open wsX0_isKey := goodIn_r _ [12, 13, 64, 65, 66, 67, 68, 69] (by decide +kernel) (by decide +kernel)
set_option maxRecDepth 20000 in
theorem gX3_open_X0_isKey : GoodIn wsX3_open (wsV RX3 136 RX0 yX0_isKey wsX0_isKey) := goodIn_app (goodIn_of _ (by decide +kernel)) ggX3_open_X0_isKey
set_option maxRecDepth 20000 in
theorem ggX3_open_X0_multiple : GoodIn wsX3_open wsX0_multiple := goodIn_r _ [17, 18, 19, 20, 21, 22, 23, 24, 25, 26, 27, 11, 28, 29, 30, 31, 32, 33, 34, 6, 35, 36, 37, 38, 39, 40, 41, 42, 43, 44, 45, 46, 47, 48, 49, 50, 51, 52, 53, 54, 55, 56, 57, 58, 59, 64, 65, 66, 67, 68, 69, 70] (by decide +kernel) (by decide +kernel)
set_option maxRecDepth 20000 in
theorem gX3_open_X0_multiple : GoodIn wsX3_open (wsV RX3 91 RX0 yX0_multiple wsX0_multiple) := goodIn_app (goodIn_of _ (by decide +kernel)) ggX3_open_X0_multiple
theorem dX3_open_0 : decode cX3_open 0 = .ok (.aload_n 0, 1) := by decide +kernel
theorem dX3_open_1 : decode cX3_open 1 = .ok (.getfield 33, 3) := by decide +kernel
theorem dX3_open_4 : decode cX3_open 4 = .ok (.ifnonnull 6, 3) := by decide +kernel
theorem dX3_open_7 : decode cX3_open 7 = .ok (.bipush (-3), 2) := by decide +kernel
theorem dX3_open_9 : decode cX3_open 9 = .ok (.ireturn, 1) := by decide +kernel
theorem dX3_open_10 : decode cX3_open 10 = .ok (.iload_n 1, 1) := by decide +kernel
theorem dX3_open_11 : decode cX3_open 11 = .ok (.invokestatic 68, 3) := by decide +kernel
theorem dX3_open_14 : decode cX3_open 14 = .ok (.ifCond .eq 14, 3) := by decide +kernel
theorem dX3_open_17 : decode cX3_open 17 = .ok (.aload_n 0, 1) := by decide +kernel
theorem dX3_open_18 : decode cX3_open 18 = .ok (.getfield 33, 3) := by decide +kernel
theorem dX3_open_21 : decode cX3_open 21 = .ok (.iload_n 2, 1) := by decide +kernel
theorem dX3_open_22 : decode cX3_open 22 = .ok (.invokevirtual 136, 3) := by decide +kernel
theorem dX3_open_25 : decode cX3_open 25 = .ok (.ifCond .ne 6, 3) := by decide +kernel
theorem dX3_open_28 : decode cX3_open 28 = .ok (.bipush (-2), 2) := by decide +kernel
theorem dX3_open_30 : decode cX3_open 30 = .ok (.ireturn, 1) := by decide +kernel
theorem dX3_open_31 : decode cX3_open 31 = .ok (.aload_n 0, 1) := by decide +kernel
theorem dX3_open_32 : decode cX3_open 32 = .ok (.getfield 9, 3) := by decide +kernel
theorem dX3_open_35 : decode cX3_open 35 = .ok (.iload_n 1, 1) := by decide +kernel
theorem dX3_open_36 : decode cX3_open 36 = .ok (.aload_n 0, 1) := by decide +kernel
theorem dX3_open_37 : decode cX3_open 37 = .ok (.getfield 33, 3) := by decide +kernel
theorem dX3_open_40 : decode cX3_open 40 = .ok (.iload_n 2, 1) := by decide +kernel
theorem dX3_open_41 : decode cX3_open 41 = .ok (.i2l, 1) := by decide +kernel
theorem dX3_open_42 : decode cX3_open 42 = .ok (.aload_n 0, 1) := by decide +kernel
theorem dX3_open_43 : decode cX3_open 43 = .ok (.getfield 33, 3) := by decide +kernel
theorem dX3_open_46 : decode cX3_open 46 = .ok (.getfield 139, 3) := by decide +kernel
theorem dX3_open_49 : decode cX3_open 49 = .ok (.invokevirtual 91, 3) := by decide +kernel
theorem dX3_open_52 : decode cX3_open 52 = .ok (.lastore, 1) := by decide +kernel
theorem dX3_open_53 : decode cX3_open 53 = .ok (.iconst 1, 1) := by decide +kernel
theorem dX3_open_54 : decode cX3_open 54 = .ok (.ireturn, 1) := by decide +kernel
set_option maxRecDepth 20000 in
theorem ggX3_sign_X3_isSlot : GoodIn wsX3_sign wsX3_isSlot := goodIn_r _ [6] (by decide +kernel) (by decide +kernel)
set_option maxRecDepth 20000 in
theorem gX3_sign_X3_isSlot : GoodIn wsX3_sign (va_wsS RX3 68 yX3_isSlot wsX3_isSlot) := goodIn_app (goodIn_of _ (by decide +kernel)) ggX3_sign_X3_isSlot
set_option maxRecDepth 20000 in
theorem ggX3_sign_X0_isKey : GoodIn wsX3_sign wsX0_isKey := goodIn_r _ [11, 12, 86, 87, 88, 89, 90, 91] (by decide +kernel) (by decide +kernel)
set_option maxRecDepth 20000 in
theorem gX3_sign_X0_isKey : GoodIn wsX3_sign (wsV RX3 136 RX0 yX0_isKey wsX0_isKey) := goodIn_app (goodIn_of _ (by decide +kernel)) ggX3_sign_X0_isKey
set_option maxRecDepth 20000 in
theorem ggX3_sign_X0_turned : GoodIn wsX3_sign wsX0_turned := goodIn_r _ [16, 17, 18, 19, 20, 21, 22, 23, 24, 10, 25, 26, 27, 28, 29, 30, 31, 32, 33, 34, 35, 36, 37, 38, 39, 40, 41, 42, 43, 44, 45, 5, 46, 47, 48, 49, 50, 51, 52, 53, 54, 55, 56, 57, 58, 59, 60, 61, 62, 63, 64, 65, 66, 67, 68, 69, 70, 71, 72, 73, 74, 75, 76, 77, 78, 79, 80, 86, 87, 88, 89, 90, 91, 92] (by decide +kernel) (by decide +kernel)
set_option maxRecDepth 20000 in
theorem gX3_sign_X0_turned : GoodIn wsX3_sign (wsV RX3 81 RX0 yX0_turned wsX0_turned) := goodIn_app (goodIn_of _ (by decide +kernel)) ggX3_sign_X0_turned
set_option maxRecDepth 20000 in
theorem ggX3_sign_X0_multiple : GoodIn wsX3_sign wsX0_multiple := goodIn_r _ [50, 20, 21, 26, 51, 52, 53, 54, 55, 56, 57, 10, 58, 18, 59, 60, 61, 62, 63, 5, 64, 65, 66, 67, 68, 69, 70, 71, 72, 31, 32, 33, 34, 35, 36, 73, 74, 75, 76, 77, 78, 79, 80, 45, 46, 86, 87, 88, 89, 90, 91, 92] (by decide +kernel) (by decide +kernel)
set_option maxRecDepth 20000 in
theorem gX3_sign_X0_multiple : GoodIn wsX3_sign (wsV RX3 91 RX0 yX0_multiple wsX0_multiple) := goodIn_app (goodIn_of _ (by decide +kernel)) ggX3_sign_X0_multiple
theorem dX3_sign_0 : decode cX3_sign 0 = .ok (.aload_n 0, 1) := by decide +kernel
theorem dX3_sign_1 : decode cX3_sign 1 = .ok (.getfield 33, 3) := by decide +kernel
theorem dX3_sign_4 : decode cX3_sign 4 = .ok (.ifnonnull 6, 3) := by decide +kernel
theorem dX3_sign_7 : decode cX3_sign 7 = .ok (.bipush (-3), 2) := by decide +kernel
theorem dX3_sign_9 : decode cX3_sign 9 = .ok (.ireturn, 1) := by decide +kernel
theorem dX3_sign_10 : decode cX3_sign 10 = .ok (.iload_n 1, 1) := by decide +kernel
theorem dX3_sign_11 : decode cX3_sign 11 = .ok (.invokestatic 68, 3) := by decide +kernel
theorem dX3_sign_14 : decode cX3_sign 14 = .ok (.ifCond .eq 14, 3) := by decide +kernel
theorem dX3_sign_17 : decode cX3_sign 17 = .ok (.aload_n 0, 1) := by decide +kernel
theorem dX3_sign_18 : decode cX3_sign 18 = .ok (.getfield 33, 3) := by decide +kernel
theorem dX3_sign_21 : decode cX3_sign 21 = .ok (.iload_n 2, 1) := by decide +kernel
theorem dX3_sign_22 : decode cX3_sign 22 = .ok (.invokevirtual 136, 3) := by decide +kernel
theorem dX3_sign_25 : decode cX3_sign 25 = .ok (.ifCond .ne 6, 3) := by decide +kernel
theorem dX3_sign_28 : decode cX3_sign 28 = .ok (.bipush (-2), 2) := by decide +kernel
theorem dX3_sign_30 : decode cX3_sign 30 = .ok (.ireturn, 1) := by decide +kernel
theorem dX3_sign_31 : decode cX3_sign 31 = .ok (.aload_n 0, 1) := by decide +kernel
theorem dX3_sign_32 : decode cX3_sign 32 = .ok (.getfield 9, 3) := by decide +kernel
theorem dX3_sign_35 : decode cX3_sign 35 = .ok (.iload_n 1, 1) := by decide +kernel
theorem dX3_sign_36 : decode cX3_sign 36 = .ok (.aload_n 0, 1) := by decide +kernel
theorem dX3_sign_37 : decode cX3_sign 37 = .ok (.getfield 33, 3) := by decide +kernel
theorem dX3_sign_40 : decode cX3_sign 40 = .ok (.iload_n 2, 1) := by decide +kernel
theorem dX3_sign_41 : decode cX3_sign 41 = .ok (.i2l, 1) := by decide +kernel
theorem dX3_sign_42 : decode cX3_sign 42 = .ok (.aload_n 0, 1) := by decide +kernel
theorem dX3_sign_43 : decode cX3_sign 43 = .ok (.getfield 33, 3) := by decide +kernel
theorem dX3_sign_46 : decode cX3_sign 46 = .ok (.lload_n 3, 1) := by decide +kernel
theorem dX3_sign_47 : decode cX3_sign 47 = .ok (.invokevirtual 81, 3) := by decide +kernel
theorem dX3_sign_50 : decode cX3_sign 50 = .ok (.invokevirtual 91, 3) := by decide +kernel
theorem dX3_sign_53 : decode cX3_sign 53 = .ok (.lastore, 1) := by decide +kernel
theorem dX3_sign_54 : decode cX3_sign 54 = .ok (.iconst 1, 1) := by decide +kernel
theorem dX3_sign_55 : decode cX3_sign 55 = .ok (.ireturn, 1) := by decide +kernel
set_option maxRecDepth 20000 in
theorem ggX3_holds_X3_isSlot : GoodIn wsX3_holds wsX3_isSlot := goodIn_r _ [6] (by decide +kernel) (by decide +kernel)
set_option maxRecDepth 20000 in
theorem gX3_holds_X3_isSlot : GoodIn wsX3_holds (va_wsS RX3 68 yX3_isSlot wsX3_isSlot) := goodIn_app (goodIn_of _ (by decide +kernel)) ggX3_holds_X3_isSlot
set_option maxRecDepth 20000 in
theorem ggX3_holds_X1_agree : GoodIn wsX3_holds wsX1_agree := goodIn_r _ [11, 12, 13, 14, 15, 16, 17, 10, 18, 19, 20, 21, 22, 23, 24, 25, 26, 27, 28, 29, 30, 31, 32, 33, 34, 35, 36, 37, 38, 39, 40, 41, 42, 5, 43, 44, 45, 46, 47, 48, 49, 50, 51, 52, 53, 54, 55, 56, 57, 58, 59, 60, 61, 62, 63, 64, 65, 66, 67, 68, 69, 70, 71, 72, 73, 74, 75, 76, 77, 78, 79, 80, 81, 82, 83, 84, 85, 86, 87, 88, 89, 90, 91, 92, 93, 94, 95, 96, 97, 98, 99, 100, 101, 102, 103, 104, 105, 106, 107, 108, 109, 110, 111, 112, 113, 114, 115, 116, 117, 118, 119, 120, 121, 122, 123, 124, 125, 126, 127, 128, 129, 130, 131, 132, 137, 138, 139, 140, 141, 142, 143, 144, 145, 146] (by decide +kernel) (by decide +kernel)
set_option maxRecDepth 20000 in
theorem gX3_holds_X1_agree : GoodIn wsX3_holds (wsV RX3 142 RX1 yX1_agree wsX1_agree) := goodIn_app (goodIn_of _ (by decide +kernel)) ggX3_holds_X1_agree
theorem dX3_holds_0 : decode cX3_holds 0 = .ok (.aload_n 0, 1) := by decide +kernel
theorem dX3_holds_1 : decode cX3_holds 1 = .ok (.getfield 42, 3) := by decide +kernel
theorem dX3_holds_4 : decode cX3_holds 4 = .ok (.ifnonnull 6, 3) := by decide +kernel
theorem dX3_holds_7 : decode cX3_holds 7 = .ok (.bipush (-3), 2) := by decide +kernel
theorem dX3_holds_9 : decode cX3_holds 9 = .ok (.ireturn, 1) := by decide +kernel
theorem dX3_holds_10 : decode cX3_holds 10 = .ok (.iload_n 1, 1) := by decide +kernel
theorem dX3_holds_11 : decode cX3_holds 11 = .ok (.invokestatic 68, 3) := by decide +kernel
theorem dX3_holds_14 : decode cX3_holds 14 = .ok (.ifCond .eq 11, 3) := by decide +kernel
theorem dX3_holds_17 : decode cX3_holds 17 = .ok (.iload 4, 2) := by decide +kernel
theorem dX3_holds_19 : decode cX3_holds 19 = .ok (.invokestatic 68, 3) := by decide +kernel
theorem dX3_holds_22 : decode cX3_holds 22 = .ok (.ifCond .ne 6, 3) := by decide +kernel
theorem dX3_holds_25 : decode cX3_holds 25 = .ok (.bipush (-2), 2) := by decide +kernel
theorem dX3_holds_27 : decode cX3_holds 27 = .ok (.ireturn, 1) := by decide +kernel
theorem dX3_holds_28 : decode cX3_holds 28 = .ok (.aload_n 0, 1) := by decide +kernel
theorem dX3_holds_29 : decode cX3_holds 29 = .ok (.getfield 42, 3) := by decide +kernel
theorem dX3_holds_32 : decode cX3_holds 32 = .ok (.aload_n 0, 1) := by decide +kernel
theorem dX3_holds_33 : decode cX3_holds 33 = .ok (.getfield 9, 3) := by decide +kernel
theorem dX3_holds_36 : decode cX3_holds 36 = .ok (.iload 4, 2) := by decide +kernel
theorem dX3_holds_38 : decode cX3_holds 38 = .ok (.laload, 1) := by decide +kernel
theorem dX3_holds_39 : decode cX3_holds 39 = .ok (.aload_n 0, 1) := by decide +kernel
theorem dX3_holds_40 : decode cX3_holds 40 = .ok (.getfield 9, 3) := by decide +kernel
theorem dX3_holds_43 : decode cX3_holds 43 = .ok (.iload_n 1, 1) := by decide +kernel
theorem dX3_holds_44 : decode cX3_holds 44 = .ok (.iconst 1, 1) := by decide +kernel
theorem dX3_holds_45 : decode cX3_holds 45 = .ok (.lload_n 2, 1) := by decide +kernel
theorem dX3_holds_46 : decode cX3_holds 46 = .ok (.invokevirtual 142, 3) := by decide +kernel
theorem dX3_holds_49 : decode cX3_holds 49 = .ok (.ifCond .eq 7, 3) := by decide +kernel
theorem dX3_holds_52 : decode cX3_holds 52 = .ok (.iconst 1, 1) := by decide +kernel
theorem dX3_holds_53 : decode cX3_holds 53 = .ok (.goto 4, 3) := by decide +kernel
theorem dX3_holds_56 : decode cX3_holds 56 = .ok (.iconst 0, 1) := by decide +kernel
theorem dX3_holds_57 : decode cX3_holds 57 = .ok (.ireturn, 1) := by decide +kernel
set_option maxRecDepth 20000 in
theorem ggX3_holdsAll_X3_isSlot : GoodIn wsX3_holdsAll wsX3_isSlot := goodIn_r _ [6] (by decide +kernel) (by decide +kernel)
set_option maxRecDepth 20000 in
theorem gX3_holdsAll_X3_isSlot : GoodIn wsX3_holdsAll (va_wsS RX3 68 yX3_isSlot wsX3_isSlot) := goodIn_app (goodIn_of _ (by decide +kernel)) ggX3_holdsAll_X3_isSlot
set_option maxRecDepth 20000 in
theorem ggX3_holdsAll_X1_agree : GoodIn wsX3_holdsAll wsX1_agree := goodIn_r _ [11, 12, 13, 14, 15, 16, 17, 10, 18, 19, 20, 21, 22, 23, 24, 25, 26, 27, 28, 29, 30, 31, 32, 33, 34, 35, 36, 37, 38, 39, 40, 41, 42, 5, 43, 44, 45, 46, 47, 48, 49, 50, 51, 52, 53, 54, 55, 56, 57, 58, 59, 60, 61, 62, 63, 64, 65, 66, 67, 68, 69, 70, 71, 72, 73, 74, 75, 76, 77, 78, 79, 80, 81, 82, 83, 84, 85, 86, 87, 88, 89, 90, 91, 92, 93, 94, 95, 96, 97, 98, 99, 100, 101, 102, 103, 104, 105, 106, 107, 108, 109, 110, 111, 112, 113, 114, 115, 116, 117, 118, 119, 120, 121, 122, 123, 124, 125, 126, 127, 128, 129, 130, 131, 132, 137, 138, 139, 140, 141, 142, 143, 144, 145, 146] (by decide +kernel) (by decide +kernel)
set_option maxRecDepth 20000 in
theorem gX3_holdsAll_X1_agree : GoodIn wsX3_holdsAll (wsV RX3 142 RX1 yX1_agree wsX1_agree) := goodIn_app (goodIn_of _ (by decide +kernel)) ggX3_holdsAll_X1_agree
theorem dX3_holdsAll_0 : decode cX3_holdsAll 0 = .ok (.aload_n 0, 1) := by decide +kernel
theorem dX3_holdsAll_1 : decode cX3_holdsAll 1 = .ok (.getfield 42, 3) := by decide +kernel
theorem dX3_holdsAll_4 : decode cX3_holdsAll 4 = .ok (.ifnonnull 6, 3) := by decide +kernel
theorem dX3_holdsAll_7 : decode cX3_holdsAll 7 = .ok (.bipush (-3), 2) := by decide +kernel
theorem dX3_holdsAll_9 : decode cX3_holdsAll 9 = .ok (.ireturn, 1) := by decide +kernel
theorem dX3_holdsAll_10 : decode cX3_holdsAll 10 = .ok (.iload_n 1, 1) := by decide +kernel
theorem dX3_holdsAll_11 : decode cX3_holdsAll 11 = .ok (.invokestatic 68, 3) := by decide +kernel
theorem dX3_holdsAll_14 : decode cX3_holdsAll 14 = .ok (.ifCond .eq 30, 3) := by decide +kernel
theorem dX3_holdsAll_17 : decode cX3_holdsAll 17 = .ok (.iload_n 2, 1) := by decide +kernel
theorem dX3_holdsAll_18 : decode cX3_holdsAll 18 = .ok (.iconst 1, 1) := by decide +kernel
theorem dX3_holdsAll_19 : decode cX3_holdsAll 19 = .ok (.if_icmp .lt 25, 3) := by decide +kernel
theorem dX3_holdsAll_22 : decode cX3_holdsAll 22 = .ok (.iload_n 2, 1) := by decide +kernel
theorem dX3_holdsAll_23 : decode cX3_holdsAll 23 = .ok (.bipush 8, 2) := by decide +kernel
theorem dX3_holdsAll_25 : decode cX3_holdsAll 25 = .ok (.if_icmp .gt 19, 3) := by decide +kernel
theorem dX3_holdsAll_28 : decode cX3_holdsAll 28 = .ok (.iload_n 1, 1) := by decide +kernel
theorem dX3_holdsAll_29 : decode cX3_holdsAll 29 = .ok (.iload_n 2, 1) := by decide +kernel
theorem dX3_holdsAll_30 : decode cX3_holdsAll 30 = .ok (.iadd, 1) := by decide +kernel
theorem dX3_holdsAll_31 : decode cX3_holdsAll 31 = .ok (.bipush 16, 2) := by decide +kernel
theorem dX3_holdsAll_33 : decode cX3_holdsAll 33 = .ok (.if_icmp .gt 11, 3) := by decide +kernel
theorem dX3_holdsAll_36 : decode cX3_holdsAll 36 = .ok (.iload 5, 2) := by decide +kernel
theorem dX3_holdsAll_38 : decode cX3_holdsAll 38 = .ok (.invokestatic 68, 3) := by decide +kernel
theorem dX3_holdsAll_41 : decode cX3_holdsAll 41 = .ok (.ifCond .ne 6, 3) := by decide +kernel
theorem dX3_holdsAll_44 : decode cX3_holdsAll 44 = .ok (.bipush (-2), 2) := by decide +kernel
theorem dX3_holdsAll_46 : decode cX3_holdsAll 46 = .ok (.ireturn, 1) := by decide +kernel
theorem dX3_holdsAll_47 : decode cX3_holdsAll 47 = .ok (.aload_n 0, 1) := by decide +kernel
theorem dX3_holdsAll_48 : decode cX3_holdsAll 48 = .ok (.getfield 42, 3) := by decide +kernel
theorem dX3_holdsAll_51 : decode cX3_holdsAll 51 = .ok (.aload_n 0, 1) := by decide +kernel
theorem dX3_holdsAll_52 : decode cX3_holdsAll 52 = .ok (.getfield 9, 3) := by decide +kernel
theorem dX3_holdsAll_55 : decode cX3_holdsAll 55 = .ok (.iload 5, 2) := by decide +kernel
theorem dX3_holdsAll_57 : decode cX3_holdsAll 57 = .ok (.laload, 1) := by decide +kernel
theorem dX3_holdsAll_58 : decode cX3_holdsAll 58 = .ok (.aload_n 0, 1) := by decide +kernel
theorem dX3_holdsAll_59 : decode cX3_holdsAll 59 = .ok (.getfield 9, 3) := by decide +kernel
theorem dX3_holdsAll_62 : decode cX3_holdsAll 62 = .ok (.iload_n 1, 1) := by decide +kernel
theorem dX3_holdsAll_63 : decode cX3_holdsAll 63 = .ok (.iload_n 2, 1) := by decide +kernel
theorem dX3_holdsAll_64 : decode cX3_holdsAll 64 = .ok (.lload_n 3, 1) := by decide +kernel
theorem dX3_holdsAll_65 : decode cX3_holdsAll 65 = .ok (.invokevirtual 142, 3) := by decide +kernel
theorem dX3_holdsAll_68 : decode cX3_holdsAll 68 = .ok (.ifCond .eq 7, 3) := by decide +kernel
theorem dX3_holdsAll_71 : decode cX3_holdsAll 71 = .ok (.iconst 1, 1) := by decide +kernel
theorem dX3_holdsAll_72 : decode cX3_holdsAll 72 = .ok (.goto 4, 3) := by decide +kernel
theorem dX3_holdsAll_75 : decode cX3_holdsAll 75 = .ok (.iconst 0, 1) := by decide +kernel
theorem dX3_holdsAll_76 : decode cX3_holdsAll 76 = .ok (.ireturn, 1) := by decide +kernel
set_option maxRecDepth 20000 in
theorem ggX3_digest_X3_written : GoodIn wsX3_digest wsX3_written := goodIn_r _ [10, 11, 12, 13, 14, 9, 15, 16, 17, 18, 19] (by decide +kernel) (by decide +kernel)
set_option maxRecDepth 20000 in
theorem gX3_digest_X3_written : GoodIn wsX3_digest (va_wsS RX3 108 yX3_written wsX3_written) := goodIn_app (goodIn_of _ (by decide +kernel)) ggX3_digest_X3_written
set_option maxRecDepth 20000 in
theorem ggX3_digest_X3_upper : GoodIn wsX3_digest wsX3_upper := goodIn_r _ [15] (by decide +kernel) (by decide +kernel)
set_option maxRecDepth 20000 in
theorem gX3_digest_X3_upper : GoodIn wsX3_digest (va_wsS RX3 150 yX3_upper wsX3_upper) := goodIn_app (goodIn_of _ (by decide +kernel)) ggX3_digest_X3_upper
set_option maxRecDepth 20000 in
theorem ggX3_digest_X3_lower : GoodIn wsX3_digest wsX3_lower := goodIn_r _ [18, 19] (by decide +kernel) (by decide +kernel)
set_option maxRecDepth 20000 in
theorem gX3_digest_X3_lower : GoodIn wsX3_digest (va_wsS RX3 153 yX3_lower wsX3_lower) := goodIn_app (goodIn_of _ (by decide +kernel)) ggX3_digest_X3_lower
theorem dX3_digest_0 : decode cX3_digest 0 = .ok (.aload_n 0, 1) := by decide +kernel
theorem dX3_digest_1 : decode cX3_digest 1 = .ok (.getfield 33, 3) := by decide +kernel
theorem dX3_digest_4 : decode cX3_digest 4 = .ok (.ifnonnull 7, 3) := by decide +kernel
theorem dX3_digest_7 : decode cX3_digest 7 = .ok (.ldc2_w 104, 3) := by decide +kernel
theorem dX3_digest_10 : decode cX3_digest 10 = .ok (.lreturn, 1) := by decide +kernel
theorem dX3_digest_11 : decode cX3_digest 11 = .ok (.ldc2_w 146, 3) := by decide +kernel
theorem dX3_digest_14 : decode cX3_digest 14 = .ok (.lstore_n 1, 1) := by decide +kernel
theorem dX3_digest_15 : decode cX3_digest 15 = .ok (.iconst 0, 1) := by decide +kernel
theorem dX3_digest_16 : decode cX3_digest 16 = .ok (.istore_n 3, 1) := by decide +kernel
theorem dX3_digest_17 : decode cX3_digest 17 = .ok (.iload_n 3, 1) := by decide +kernel
theorem dX3_digest_18 : decode cX3_digest 18 = .ok (.bipush 16, 2) := by decide +kernel
theorem dX3_digest_20 : decode cX3_digest 20 = .ok (.if_icmp .ge 25, 3) := by decide +kernel
theorem dX3_digest_23 : decode cX3_digest 23 = .ok (.ldc2_w 148, 3) := by decide +kernel
theorem dX3_digest_26 : decode cX3_digest 26 = .ok (.lload_n 1, 1) := by decide +kernel
theorem dX3_digest_27 : decode cX3_digest 27 = .ok (.lmul, 1) := by decide +kernel
theorem dX3_digest_28 : decode cX3_digest 28 = .ok (.aload_n 0, 1) := by decide +kernel
theorem dX3_digest_29 : decode cX3_digest 29 = .ok (.getfield 9, 3) := by decide +kernel
theorem dX3_digest_32 : decode cX3_digest 32 = .ok (.iload_n 3, 1) := by decide +kernel
theorem dX3_digest_33 : decode cX3_digest 33 = .ok (.laload, 1) := by decide +kernel
theorem dX3_digest_34 : decode cX3_digest 34 = .ok (.invokestatic 108, 3) := by decide +kernel
theorem dX3_digest_37 : decode cX3_digest 37 = .ok (.ladd, 1) := by decide +kernel
theorem dX3_digest_38 : decode cX3_digest 38 = .ok (.lstore_n 1, 1) := by decide +kernel
theorem dX3_digest_39 : decode cX3_digest 39 = .ok (.iinc 3 1, 3) := by decide +kernel
theorem dX3_digest_42 : decode cX3_digest 42 = .ok (.goto (-25), 3) := by decide +kernel
theorem dX3_digest_45 : decode cX3_digest 45 = .ok (.iconst 0, 1) := by decide +kernel
theorem dX3_digest_46 : decode cX3_digest 46 = .ok (.istore_n 3, 1) := by decide +kernel
theorem dX3_digest_47 : decode cX3_digest 47 = .ok (.iload_n 3, 1) := by decide +kernel
theorem dX3_digest_48 : decode cX3_digest 48 = .ok (.bipush 8, 2) := by decide +kernel
theorem dX3_digest_50 : decode cX3_digest 50 = .ok (.if_icmp .ge 41, 3) := by decide +kernel
theorem dX3_digest_53 : decode cX3_digest 53 = .ok (.ldc2_w 148, 3) := by decide +kernel
theorem dX3_digest_56 : decode cX3_digest 56 = .ok (.lload_n 1, 1) := by decide +kernel
theorem dX3_digest_57 : decode cX3_digest 57 = .ok (.lmul, 1) := by decide +kernel
theorem dX3_digest_58 : decode cX3_digest 58 = .ok (.aload_n 0, 1) := by decide +kernel
theorem dX3_digest_59 : decode cX3_digest 59 = .ok (.getfield 13, 3) := by decide +kernel
theorem dX3_digest_62 : decode cX3_digest 62 = .ok (.iload_n 3, 1) := by decide +kernel
theorem dX3_digest_63 : decode cX3_digest 63 = .ok (.laload, 1) := by decide +kernel
theorem dX3_digest_64 : decode cX3_digest 64 = .ok (.invokestatic 150, 3) := by decide +kernel
theorem dX3_digest_67 : decode cX3_digest 67 = .ok (.ladd, 1) := by decide +kernel
theorem dX3_digest_68 : decode cX3_digest 68 = .ok (.lstore_n 1, 1) := by decide +kernel
theorem dX3_digest_69 : decode cX3_digest 69 = .ok (.ldc2_w 148, 3) := by decide +kernel
theorem dX3_digest_72 : decode cX3_digest 72 = .ok (.lload_n 1, 1) := by decide +kernel
theorem dX3_digest_73 : decode cX3_digest 73 = .ok (.lmul, 1) := by decide +kernel
theorem dX3_digest_74 : decode cX3_digest 74 = .ok (.aload_n 0, 1) := by decide +kernel
theorem dX3_digest_75 : decode cX3_digest 75 = .ok (.getfield 13, 3) := by decide +kernel
theorem dX3_digest_78 : decode cX3_digest 78 = .ok (.iload_n 3, 1) := by decide +kernel
theorem dX3_digest_79 : decode cX3_digest 79 = .ok (.laload, 1) := by decide +kernel
theorem dX3_digest_80 : decode cX3_digest 80 = .ok (.invokestatic 153, 3) := by decide +kernel
theorem dX3_digest_83 : decode cX3_digest 83 = .ok (.ladd, 1) := by decide +kernel
theorem dX3_digest_84 : decode cX3_digest 84 = .ok (.lstore_n 1, 1) := by decide +kernel
theorem dX3_digest_85 : decode cX3_digest 85 = .ok (.iinc 3 1, 3) := by decide +kernel
theorem dX3_digest_88 : decode cX3_digest 88 = .ok (.goto (-41), 3) := by decide +kernel
theorem dX3_digest_91 : decode cX3_digest 91 = .ok (.lload_n 1, 1) := by decide +kernel
theorem dX3_digest_92 : decode cX3_digest 92 = .ok (.lreturn, 1) := by decide +kernel
theorem dX3_clearRows_0 : decode cX3_clearRows 0 = .ok (.iconst 0, 1) := by decide +kernel
theorem dX3_clearRows_1 : decode cX3_clearRows 1 = .ok (.istore_n 1, 1) := by decide +kernel
theorem dX3_clearRows_2 : decode cX3_clearRows 2 = .ok (.iload_n 1, 1) := by decide +kernel
theorem dX3_clearRows_3 : decode cX3_clearRows 3 = .ok (.bipush 16, 2) := by decide +kernel
theorem dX3_clearRows_5 : decode cX3_clearRows 5 = .ok (.if_icmp .ge 18, 3) := by decide +kernel
theorem dX3_clearRows_8 : decode cX3_clearRows 8 = .ok (.aload_n 0, 1) := by decide +kernel
theorem dX3_clearRows_9 : decode cX3_clearRows 9 = .ok (.getfield 9, 3) := by decide +kernel
theorem dX3_clearRows_12 : decode cX3_clearRows 12 = .ok (.iload_n 1, 1) := by decide +kernel
theorem dX3_clearRows_13 : decode cX3_clearRows 13 = .ok (.ldc2_w 79, 3) := by decide +kernel
theorem dX3_clearRows_16 : decode cX3_clearRows 16 = .ok (.lastore, 1) := by decide +kernel
theorem dX3_clearRows_17 : decode cX3_clearRows 17 = .ok (.iinc 1 1, 3) := by decide +kernel
theorem dX3_clearRows_20 : decode cX3_clearRows 20 = .ok (.goto (-18), 3) := by decide +kernel
theorem dX3_clearRows_23 : decode cX3_clearRows 23 = .ok (.iconst 0, 1) := by decide +kernel
theorem dX3_clearRows_24 : decode cX3_clearRows 24 = .ok (.istore_n 1, 1) := by decide +kernel
theorem dX3_clearRows_25 : decode cX3_clearRows 25 = .ok (.iload_n 1, 1) := by decide +kernel
theorem dX3_clearRows_26 : decode cX3_clearRows 26 = .ok (.bipush 8, 2) := by decide +kernel
theorem dX3_clearRows_28 : decode cX3_clearRows 28 = .ok (.if_icmp .ge 18, 3) := by decide +kernel
theorem dX3_clearRows_31 : decode cX3_clearRows 31 = .ok (.aload_n 0, 1) := by decide +kernel
theorem dX3_clearRows_32 : decode cX3_clearRows 32 = .ok (.getfield 13, 3) := by decide +kernel
theorem dX3_clearRows_35 : decode cX3_clearRows 35 = .ok (.iload_n 1, 1) := by decide +kernel
theorem dX3_clearRows_36 : decode cX3_clearRows 36 = .ok (.ldc2_w 131, 3) := by decide +kernel
theorem dX3_clearRows_39 : decode cX3_clearRows 39 = .ok (.lastore, 1) := by decide +kernel
theorem dX3_clearRows_40 : decode cX3_clearRows 40 = .ok (.iinc 1 1, 3) := by decide +kernel
theorem dX3_clearRows_43 : decode cX3_clearRows 43 = .ok (.goto (-18), 3) := by decide +kernel
theorem dX3_clearRows_46 : decode cX3_clearRows 46 = .ok (.return_, 1) := by decide +kernel
theorem dX3_isSlot_0 : decode cX3_isSlot 0 = .ok (.iload_n 0, 1) := by decide +kernel
theorem dX3_isSlot_1 : decode cX3_isSlot 1 = .ok (.ifCond .lt 13, 3) := by decide +kernel
theorem dX3_isSlot_4 : decode cX3_isSlot 4 = .ok (.iload_n 0, 1) := by decide +kernel
theorem dX3_isSlot_5 : decode cX3_isSlot 5 = .ok (.bipush 16, 2) := by decide +kernel
theorem dX3_isSlot_7 : decode cX3_isSlot 7 = .ok (.if_icmp .ge 7, 3) := by decide +kernel
theorem dX3_isSlot_10 : decode cX3_isSlot 10 = .ok (.iconst 1, 1) := by decide +kernel
theorem dX3_isSlot_11 : decode cX3_isSlot 11 = .ok (.goto 4, 3) := by decide +kernel
theorem dX3_isSlot_14 : decode cX3_isSlot 14 = .ok (.iconst 0, 1) := by decide +kernel
theorem dX3_isSlot_15 : decode cX3_isSlot 15 = .ok (.ireturn, 1) := by decide +kernel
theorem dX3_isValue_0 : decode cX3_isValue 0 = .ok (.iload_n 0, 1) := by decide +kernel
theorem dX3_isValue_1 : decode cX3_isValue 1 = .ok (.ifCond .lt 13, 3) := by decide +kernel
theorem dX3_isValue_4 : decode cX3_isValue 4 = .ok (.iload_n 0, 1) := by decide +kernel
theorem dX3_isValue_5 : decode cX3_isValue 5 = .ok (.bipush 8, 2) := by decide +kernel
theorem dX3_isValue_7 : decode cX3_isValue 7 = .ok (.if_icmp .ge 7, 3) := by decide +kernel
theorem dX3_isValue_10 : decode cX3_isValue 10 = .ok (.iconst 1, 1) := by decide +kernel
theorem dX3_isValue_11 : decode cX3_isValue 11 = .ok (.goto 4, 3) := by decide +kernel
theorem dX3_isValue_14 : decode cX3_isValue 14 = .ok (.iconst 0, 1) := by decide +kernel
theorem dX3_isValue_15 : decode cX3_isValue 15 = .ok (.ireturn, 1) := by decide +kernel
theorem dX3_isHalf_0 : decode cX3_isHalf 0 = .ok (.iload_n 0, 1) := by decide +kernel
theorem dX3_isHalf_1 : decode cX3_isHalf 1 = .ok (.ifCond .eq 8, 3) := by decide +kernel
theorem dX3_isHalf_4 : decode cX3_isHalf 4 = .ok (.iload_n 0, 1) := by decide +kernel
theorem dX3_isHalf_5 : decode cX3_isHalf 5 = .ok (.iconst 1, 1) := by decide +kernel
theorem dX3_isHalf_6 : decode cX3_isHalf 6 = .ok (.if_icmp .ne 7, 3) := by decide +kernel
theorem dX3_isHalf_9 : decode cX3_isHalf 9 = .ok (.iconst 1, 1) := by decide +kernel
theorem dX3_isHalf_10 : decode cX3_isHalf 10 = .ok (.goto 4, 3) := by decide +kernel
theorem dX3_isHalf_13 : decode cX3_isHalf 13 = .ok (.iconst 0, 1) := by decide +kernel
theorem dX3_isHalf_14 : decode cX3_isHalf 14 = .ok (.ireturn, 1) := by decide +kernel
set_option maxRecDepth 20000 in
theorem ggX3_fitTogether_X3_isOddPrime : GoodIn wsX3_fitTogether wsX3_isOddPrime := goodIn_r _ [4, 5, 6] (by decide +kernel) (by decide +kernel)
set_option maxRecDepth 20000 in
theorem gX3_fitTogether_X3_isOddPrime : GoodIn wsX3_fitTogether (va_wsS RX3 156 yX3_isOddPrime wsX3_isOddPrime) := goodIn_app (goodIn_of _ (by decide +kernel)) ggX3_fitTogether_X3_isOddPrime
theorem dX3_fitTogether_0 : decode cX3_fitTogether 0 = .ok (.iload_n 0, 1) := by decide +kernel
theorem dX3_fitTogether_1 : decode cX3_fitTogether 1 = .ok (.bipush 11, 2) := by decide +kernel
theorem dX3_fitTogether_3 : decode cX3_fitTogether 3 = .ok (.if_icmp .lt 15, 3) := by decide +kernel
theorem dX3_fitTogether_6 : decode cX3_fitTogether 6 = .ok (.iload_n 0, 1) := by decide +kernel
theorem dX3_fitTogether_7 : decode cX3_fitTogether 7 = .ok (.iconst 4, 1) := by decide +kernel
theorem dX3_fitTogether_8 : decode cX3_fitTogether 8 = .ok (.irem, 1) := by decide +kernel
theorem dX3_fitTogether_9 : decode cX3_fitTogether 9 = .ok (.iconst 3, 1) := by decide +kernel
theorem dX3_fitTogether_10 : decode cX3_fitTogether 10 = .ok (.if_icmp .ne 8, 3) := by decide +kernel
theorem dX3_fitTogether_13 : decode cX3_fitTogether 13 = .ok (.iload_n 1, 1) := by decide +kernel
theorem dX3_fitTogether_14 : decode cX3_fitTogether 14 = .ok (.iconst 2, 1) := by decide +kernel
theorem dX3_fitTogether_15 : decode cX3_fitTogether 15 = .ok (.if_icmp .gt 5, 3) := by decide +kernel
theorem dX3_fitTogether_18 : decode cX3_fitTogether 18 = .ok (.iconst 0, 1) := by decide +kernel
theorem dX3_fitTogether_19 : decode cX3_fitTogether 19 = .ok (.ireturn, 1) := by decide +kernel
theorem dX3_fitTogether_20 : decode cX3_fitTogether 20 = .ok (.iload_n 0, 1) := by decide +kernel
theorem dX3_fitTogether_21 : decode cX3_fitTogether 21 = .ok (.i2l, 1) := by decide +kernel
theorem dX3_fitTogether_22 : decode cX3_fitTogether 22 = .ok (.lconst 1, 1) := by decide +kernel
theorem dX3_fitTogether_23 : decode cX3_fitTogether 23 = .ok (.ladd, 1) := by decide +kernel
theorem dX3_fitTogether_24 : decode cX3_fitTogether 24 = .ok (.lstore_n 2, 1) := by decide +kernel
theorem dX3_fitTogether_25 : decode cX3_fitTogether 25 = .ok (.lload_n 2, 1) := by decide +kernel
theorem dX3_fitTogether_26 : decode cX3_fitTogether 26 = .ok (.iload_n 1, 1) := by decide +kernel
theorem dX3_fitTogether_27 : decode cX3_fitTogether 27 = .ok (.i2l, 1) := by decide +kernel
theorem dX3_fitTogether_28 : decode cX3_fitTogether 28 = .ok (.lrem, 1) := by decide +kernel
theorem dX3_fitTogether_29 : decode cX3_fitTogether 29 = .ok (.lconst 0, 1) := by decide +kernel
theorem dX3_fitTogether_30 : decode cX3_fitTogether 30 = .ok (.lcmp, 1) := by decide +kernel
theorem dX3_fitTogether_31 : decode cX3_fitTogether 31 = .ok (.ifCond .ne 15, 3) := by decide +kernel
theorem dX3_fitTogether_34 : decode cX3_fitTogether 34 = .ok (.lload_n 2, 1) := by decide +kernel
theorem dX3_fitTogether_35 : decode cX3_fitTogether 35 = .ok (.iload_n 1, 1) := by decide +kernel
theorem dX3_fitTogether_36 : decode cX3_fitTogether 36 = .ok (.i2l, 1) := by decide +kernel
theorem dX3_fitTogether_37 : decode cX3_fitTogether 37 = .ok (.ldiv, 1) := by decide +kernel
theorem dX3_fitTogether_38 : decode cX3_fitTogether 38 = .ok (.iload_n 1, 1) := by decide +kernel
theorem dX3_fitTogether_39 : decode cX3_fitTogether 39 = .ok (.i2l, 1) := by decide +kernel
theorem dX3_fitTogether_40 : decode cX3_fitTogether 40 = .ok (.lrem, 1) := by decide +kernel
theorem dX3_fitTogether_41 : decode cX3_fitTogether 41 = .ok (.lconst 0, 1) := by decide +kernel
theorem dX3_fitTogether_42 : decode cX3_fitTogether 42 = .ok (.lcmp, 1) := by decide +kernel
theorem dX3_fitTogether_43 : decode cX3_fitTogether 43 = .ok (.ifCond .ne 5, 3) := by decide +kernel
theorem dX3_fitTogether_46 : decode cX3_fitTogether 46 = .ok (.iconst 0, 1) := by decide +kernel
theorem dX3_fitTogether_47 : decode cX3_fitTogether 47 = .ok (.ireturn, 1) := by decide +kernel
theorem dX3_fitTogether_48 : decode cX3_fitTogether 48 = .ok (.iload_n 0, 1) := by decide +kernel
theorem dX3_fitTogether_49 : decode cX3_fitTogether 49 = .ok (.i2l, 1) := by decide +kernel
theorem dX3_fitTogether_50 : decode cX3_fitTogether 50 = .ok (.invokestatic 156, 3) := by decide +kernel
theorem dX3_fitTogether_53 : decode cX3_fitTogether 53 = .ok (.ifCond .eq 15, 3) := by decide +kernel
theorem dX3_fitTogether_56 : decode cX3_fitTogether 56 = .ok (.iload_n 1, 1) := by decide +kernel
theorem dX3_fitTogether_57 : decode cX3_fitTogether 57 = .ok (.i2l, 1) := by decide +kernel
theorem dX3_fitTogether_58 : decode cX3_fitTogether 58 = .ok (.invokestatic 156, 3) := by decide +kernel
theorem dX3_fitTogether_61 : decode cX3_fitTogether 61 = .ok (.ifCond .eq 7, 3) := by decide +kernel
theorem dX3_fitTogether_64 : decode cX3_fitTogether 64 = .ok (.iconst 1, 1) := by decide +kernel
theorem dX3_fitTogether_65 : decode cX3_fitTogether 65 = .ok (.goto 4, 3) := by decide +kernel
theorem dX3_fitTogether_68 : decode cX3_fitTogether 68 = .ok (.iconst 0, 1) := by decide +kernel
theorem dX3_fitTogether_69 : decode cX3_fitTogether 69 = .ok (.ireturn, 1) := by decide +kernel
theorem dX3_isOddPrime_0 : decode cX3_isOddPrime 0 = .ok (.lload_n 0, 1) := by decide +kernel
theorem dX3_isOddPrime_1 : decode cX3_isOddPrime 1 = .ok (.ldc2_w 159, 3) := by decide +kernel
theorem dX3_isOddPrime_4 : decode cX3_isOddPrime 4 = .ok (.lrem, 1) := by decide +kernel
theorem dX3_isOddPrime_5 : decode cX3_isOddPrime 5 = .ok (.lconst 0, 1) := by decide +kernel
theorem dX3_isOddPrime_6 : decode cX3_isOddPrime 6 = .ok (.lcmp, 1) := by decide +kernel
theorem dX3_isOddPrime_7 : decode cX3_isOddPrime 7 = .ok (.ifCond .ne 5, 3) := by decide +kernel
theorem dX3_isOddPrime_10 : decode cX3_isOddPrime 10 = .ok (.iconst 0, 1) := by decide +kernel
theorem dX3_isOddPrime_11 : decode cX3_isOddPrime 11 = .ok (.ireturn, 1) := by decide +kernel
theorem dX3_isOddPrime_12 : decode cX3_isOddPrime 12 = .ok (.ldc2_w 161, 3) := by decide +kernel
theorem dX3_isOddPrime_15 : decode cX3_isOddPrime 15 = .ok (.lstore_n 2, 1) := by decide +kernel
theorem dX3_isOddPrime_16 : decode cX3_isOddPrime 16 = .ok (.lload_n 2, 1) := by decide +kernel
theorem dX3_isOddPrime_17 : decode cX3_isOddPrime 17 = .ok (.lload_n 2, 1) := by decide +kernel
theorem dX3_isOddPrime_18 : decode cX3_isOddPrime 18 = .ok (.lmul, 1) := by decide +kernel
theorem dX3_isOddPrime_19 : decode cX3_isOddPrime 19 = .ok (.lload_n 0, 1) := by decide +kernel
theorem dX3_isOddPrime_20 : decode cX3_isOddPrime 20 = .ok (.lcmp, 1) := by decide +kernel
theorem dX3_isOddPrime_21 : decode cX3_isOddPrime 21 = .ok (.ifCond .gt 22, 3) := by decide +kernel
theorem dX3_isOddPrime_24 : decode cX3_isOddPrime 24 = .ok (.lload_n 0, 1) := by decide +kernel
theorem dX3_isOddPrime_25 : decode cX3_isOddPrime 25 = .ok (.lload_n 2, 1) := by decide +kernel
theorem dX3_isOddPrime_26 : decode cX3_isOddPrime 26 = .ok (.lrem, 1) := by decide +kernel
theorem dX3_isOddPrime_27 : decode cX3_isOddPrime 27 = .ok (.lconst 0, 1) := by decide +kernel
theorem dX3_isOddPrime_28 : decode cX3_isOddPrime 28 = .ok (.lcmp, 1) := by decide +kernel
theorem dX3_isOddPrime_29 : decode cX3_isOddPrime 29 = .ok (.ifCond .ne 5, 3) := by decide +kernel
theorem dX3_isOddPrime_32 : decode cX3_isOddPrime 32 = .ok (.iconst 0, 1) := by decide +kernel
theorem dX3_isOddPrime_33 : decode cX3_isOddPrime 33 = .ok (.ireturn, 1) := by decide +kernel
theorem dX3_isOddPrime_34 : decode cX3_isOddPrime 34 = .ok (.lload_n 2, 1) := by decide +kernel
theorem dX3_isOddPrime_35 : decode cX3_isOddPrime 35 = .ok (.ldc2_w 159, 3) := by decide +kernel
theorem dX3_isOddPrime_38 : decode cX3_isOddPrime 38 = .ok (.ladd, 1) := by decide +kernel
theorem dX3_isOddPrime_39 : decode cX3_isOddPrime 39 = .ok (.lstore_n 2, 1) := by decide +kernel
theorem dX3_isOddPrime_40 : decode cX3_isOddPrime 40 = .ok (.goto (-24), 3) := by decide +kernel
theorem dX3_isOddPrime_43 : decode cX3_isOddPrime 43 = .ok (.iconst 1, 1) := by decide +kernel
theorem dX3_isOddPrime_44 : decode cX3_isOddPrime 44 = .ok (.ireturn, 1) := by decide +kernel
theorem dX3_joined_0 : decode cX3_joined 0 = .ok (.lload_n 0, 1) := by decide +kernel
theorem dX3_joined_1 : decode cX3_joined 1 = .ok (.bipush 31, 2) := by decide +kernel
theorem dX3_joined_3 : decode cX3_joined 3 = .ok (.lshl, 1) := by decide +kernel
theorem dX3_joined_4 : decode cX3_joined 4 = .ok (.lload_n 2, 1) := by decide +kernel
theorem dX3_joined_5 : decode cX3_joined 5 = .ok (.lor, 1) := by decide +kernel
theorem dX3_joined_6 : decode cX3_joined 6 = .ok (.lreturn, 1) := by decide +kernel
theorem dX3_upper_0 : decode cX3_upper 0 = .ok (.lload_n 0, 1) := by decide +kernel
theorem dX3_upper_1 : decode cX3_upper 1 = .ok (.bipush 31, 2) := by decide +kernel
theorem dX3_upper_3 : decode cX3_upper 3 = .ok (.lshr, 1) := by decide +kernel
theorem dX3_upper_4 : decode cX3_upper 4 = .ok (.lreturn, 1) := by decide +kernel
theorem dX3_lower_0 : decode cX3_lower 0 = .ok (.lload_n 0, 1) := by decide +kernel
theorem dX3_lower_1 : decode cX3_lower 1 = .ok (.ldc2_w 163, 3) := by decide +kernel
theorem dX3_lower_4 : decode cX3_lower 4 = .ok (.land, 1) := by decide +kernel
theorem dX3_lower_5 : decode cX3_lower 5 = .ok (.lreturn, 1) := by decide +kernel
set_option maxRecDepth 20000 in
theorem ggX3_half_X3_upper : GoodIn wsX3_half wsX3_upper := goodIn_r _ [4] (by decide +kernel) (by decide +kernel)
set_option maxRecDepth 20000 in
theorem gX3_half_X3_upper : GoodIn wsX3_half (va_wsS RX3 150 yX3_upper wsX3_upper) := goodIn_app (goodIn_of _ (by decide +kernel)) ggX3_half_X3_upper
set_option maxRecDepth 20000 in
theorem ggX3_half_X3_lower : GoodIn wsX3_half wsX3_lower := goodIn_r _ [7, 8] (by decide +kernel) (by decide +kernel)
set_option maxRecDepth 20000 in
theorem gX3_half_X3_lower : GoodIn wsX3_half (va_wsS RX3 153 yX3_lower wsX3_lower) := goodIn_app (goodIn_of _ (by decide +kernel)) ggX3_half_X3_lower
theorem dX3_half_0 : decode cX3_half 0 = .ok (.iload_n 2, 1) := by decide +kernel
theorem dX3_half_1 : decode cX3_half 1 = .ok (.ifCond .ne 10, 3) := by decide +kernel
theorem dX3_half_4 : decode cX3_half 4 = .ok (.lload_n 0, 1) := by decide +kernel
theorem dX3_half_5 : decode cX3_half 5 = .ok (.invokestatic 150, 3) := by decide +kernel
theorem dX3_half_8 : decode cX3_half 8 = .ok (.goto 7, 3) := by decide +kernel
theorem dX3_half_11 : decode cX3_half 11 = .ok (.lload_n 0, 1) := by decide +kernel
theorem dX3_half_12 : decode cX3_half 12 = .ok (.invokestatic 153, 3) := by decide +kernel
theorem dX3_half_15 : decode cX3_half 15 = .ok (.l2i, 1) := by decide +kernel
theorem dX3_half_16 : decode cX3_half 16 = .ok (.ireturn, 1) := by decide +kernel
set_option maxRecDepth 20000 in
theorem ggX3_written_X3_upper : GoodIn wsX3_written wsX3_upper := goodIn_r _ [6] (by decide +kernel) (by decide +kernel)
set_option maxRecDepth 20000 in
theorem gX3_written_X3_upper : GoodIn wsX3_written (va_wsS RX3 150 yX3_upper wsX3_upper) := goodIn_app (goodIn_of _ (by decide +kernel)) ggX3_written_X3_upper
set_option maxRecDepth 20000 in
theorem ggX3_written_X3_lower : GoodIn wsX3_written wsX3_lower := goodIn_r _ [9, 10] (by decide +kernel) (by decide +kernel)
set_option maxRecDepth 20000 in
theorem gX3_written_X3_lower : GoodIn wsX3_written (va_wsS RX3 153 yX3_lower wsX3_lower) := goodIn_app (goodIn_of _ (by decide +kernel)) ggX3_written_X3_lower
theorem dX3_written_0 : decode cX3_written 0 = .ok (.lload_n 0, 1) := by decide +kernel
theorem dX3_written_1 : decode cX3_written 1 = .ok (.ldc2_w 79, 3) := by decide +kernel
theorem dX3_written_4 : decode cX3_written 4 = .ok (.lcmp, 1) := by decide +kernel
theorem dX3_written_5 : decode cX3_written 5 = .ok (.ifCond .ne 9, 3) := by decide +kernel
theorem dX3_written_8 : decode cX3_written 8 = .ok (.ldc2_w 79, 3) := by decide +kernel
theorem dX3_written_11 : decode cX3_written 11 = .ok (.goto 20, 3) := by decide +kernel
theorem dX3_written_14 : decode cX3_written 14 = .ok (.ldc2_w 159, 3) := by decide +kernel
theorem dX3_written_17 : decode cX3_written 17 = .ok (.lload_n 0, 1) := by decide +kernel
theorem dX3_written_18 : decode cX3_written 18 = .ok (.invokestatic 150, 3) := by decide +kernel
theorem dX3_written_21 : decode cX3_written 21 = .ok (.lmul, 1) := by decide +kernel
theorem dX3_written_22 : decode cX3_written 22 = .ok (.lload_n 0, 1) := by decide +kernel
theorem dX3_written_23 : decode cX3_written 23 = .ok (.invokestatic 153, 3) := by decide +kernel
theorem dX3_written_26 : decode cX3_written 26 = .ok (.ldc2_w 159, 3) := by decide +kernel
theorem dX3_written_29 : decode cX3_written 29 = .ok (.lrem, 1) := by decide +kernel
theorem dX3_written_30 : decode cX3_written 30 = .ok (.ladd, 1) := by decide +kernel
theorem dX3_written_31 : decode cX3_written 31 = .ok (.lreturn, 1) := by decide +kernel
end
section
theorem dX4_init_0 : decode cX4_init 0 = .ok (.aload_n 0, 1) := by decide +kernel
theorem dX4_init_1 : decode cX4_init 1 = .ok (.invokespecial 1, 3) := by decide +kernel
theorem dX4_init_4 : decode cX4_init 4 = .ok (.aload_n 0, 1) := by decide +kernel
theorem dX4_init_5 : decode cX4_init 5 = .ok (.bipush 16, 2) := by decide +kernel
theorem dX4_init_7 : decode cX4_init 7 = .ok (.newarray .long, 2) := by decide +kernel
theorem dX4_init_9 : decode cX4_init 9 = .ok (.putfield 7, 3) := by decide +kernel
theorem dX4_init_12 : decode cX4_init 12 = .ok (.aload_n 0, 1) := by decide +kernel
theorem dX4_init_13 : decode cX4_init 13 = .ok (.bipush 16, 2) := by decide +kernel
theorem dX4_init_15 : decode cX4_init 15 = .ok (.newarray .long, 2) := by decide +kernel
theorem dX4_init_17 : decode cX4_init 17 = .ok (.putfield 13, 3) := by decide +kernel
theorem dX4_init_20 : decode cX4_init 20 = .ok (.aload_n 0, 1) := by decide +kernel
theorem dX4_init_21 : decode cX4_init 21 = .ok (.bipush 16, 2) := by decide +kernel
theorem dX4_init_23 : decode cX4_init 23 = .ok (.newarray .boolean, 2) := by decide +kernel
theorem dX4_init_25 : decode cX4_init 25 = .ok (.putfield 16, 3) := by decide +kernel
theorem dX4_init_28 : decode cX4_init 28 = .ok (.aload_n 0, 1) := by decide +kernel
theorem dX4_init_29 : decode cX4_init 29 = .ok (.bipush 8, 2) := by decide +kernel
theorem dX4_init_31 : decode cX4_init 31 = .ok (.newarray .long, 2) := by decide +kernel
theorem dX4_init_33 : decode cX4_init 33 = .ok (.putfield 20, 3) := by decide +kernel
theorem dX4_init_36 : decode cX4_init 36 = .ok (.aload_n 0, 1) := by decide +kernel
theorem dX4_init_37 : decode cX4_init 37 = .ok (.bipush 8, 2) := by decide +kernel
theorem dX4_init_39 : decode cX4_init 39 = .ok (.newarray .long, 2) := by decide +kernel
theorem dX4_init_41 : decode cX4_init 41 = .ok (.putfield 23, 3) := by decide +kernel
theorem dX4_init_44 : decode cX4_init 44 = .ok (.return_, 1) := by decide +kernel
theorem dX4_in_0 : decode cX4_in 0 = .ok (.lload_n 0, 1) := by decide +kernel
theorem dX4_in_1 : decode cX4_in 1 = .ok (.lload_n 2, 1) := by decide +kernel
theorem dX4_in_2 : decode cX4_in 2 = .ok (.lcmp, 1) := by decide +kernel
theorem dX4_in_3 : decode cX4_in 3 = .ok (.ifCond .lt 14, 3) := by decide +kernel
theorem dX4_in_6 : decode cX4_in 6 = .ok (.lload_n 0, 1) := by decide +kernel
theorem dX4_in_7 : decode cX4_in 7 = .ok (.lload 4, 2) := by decide +kernel
theorem dX4_in_9 : decode cX4_in 9 = .ok (.lcmp, 1) := by decide +kernel
theorem dX4_in_10 : decode cX4_in 10 = .ok (.ifCond .gt 7, 3) := by decide +kernel
theorem dX4_in_13 : decode cX4_in 13 = .ok (.iconst 1, 1) := by decide +kernel
theorem dX4_in_14 : decode cX4_in 14 = .ok (.goto 4, 3) := by decide +kernel
theorem dX4_in_17 : decode cX4_in 17 = .ok (.iconst 0, 1) := by decide +kernel
theorem dX4_in_18 : decode cX4_in 18 = .ok (.ireturn, 1) := by decide +kernel
theorem dX4_isPrime_0 : decode cX4_isPrime 0 = .ok (.lload_n 0, 1) := by decide +kernel
theorem dX4_isPrime_1 : decode cX4_isPrime 1 = .ok (.ldc2_w 26, 3) := by decide +kernel
theorem dX4_isPrime_4 : decode cX4_isPrime 4 = .ok (.lcmp, 1) := by decide +kernel
theorem dX4_isPrime_5 : decode cX4_isPrime 5 = .ok (.ifCond .ge 5, 3) := by decide +kernel
theorem dX4_isPrime_8 : decode cX4_isPrime 8 = .ok (.iconst 0, 1) := by decide +kernel
theorem dX4_isPrime_9 : decode cX4_isPrime 9 = .ok (.ireturn, 1) := by decide +kernel
theorem dX4_isPrime_10 : decode cX4_isPrime 10 = .ok (.ldc2_w 26, 3) := by decide +kernel
theorem dX4_isPrime_13 : decode cX4_isPrime 13 = .ok (.lstore_n 2, 1) := by decide +kernel
theorem dX4_isPrime_14 : decode cX4_isPrime 14 = .ok (.lload_n 2, 1) := by decide +kernel
theorem dX4_isPrime_15 : decode cX4_isPrime 15 = .ok (.lload_n 2, 1) := by decide +kernel
theorem dX4_isPrime_16 : decode cX4_isPrime 16 = .ok (.lmul, 1) := by decide +kernel
theorem dX4_isPrime_17 : decode cX4_isPrime 17 = .ok (.lload_n 0, 1) := by decide +kernel
theorem dX4_isPrime_18 : decode cX4_isPrime 18 = .ok (.lcmp, 1) := by decide +kernel
theorem dX4_isPrime_19 : decode cX4_isPrime 19 = .ok (.ifCond .gt 20, 3) := by decide +kernel
theorem dX4_isPrime_22 : decode cX4_isPrime 22 = .ok (.lload_n 0, 1) := by decide +kernel
theorem dX4_isPrime_23 : decode cX4_isPrime 23 = .ok (.lload_n 2, 1) := by decide +kernel
theorem dX4_isPrime_24 : decode cX4_isPrime 24 = .ok (.lrem, 1) := by decide +kernel
theorem dX4_isPrime_25 : decode cX4_isPrime 25 = .ok (.lconst 0, 1) := by decide +kernel
theorem dX4_isPrime_26 : decode cX4_isPrime 26 = .ok (.lcmp, 1) := by decide +kernel
theorem dX4_isPrime_27 : decode cX4_isPrime 27 = .ok (.ifCond .ne 5, 3) := by decide +kernel
theorem dX4_isPrime_30 : decode cX4_isPrime 30 = .ok (.iconst 0, 1) := by decide +kernel
theorem dX4_isPrime_31 : decode cX4_isPrime 31 = .ok (.ireturn, 1) := by decide +kernel
theorem dX4_isPrime_32 : decode cX4_isPrime 32 = .ok (.lload_n 2, 1) := by decide +kernel
theorem dX4_isPrime_33 : decode cX4_isPrime 33 = .ok (.lconst 1, 1) := by decide +kernel
theorem dX4_isPrime_34 : decode cX4_isPrime 34 = .ok (.ladd, 1) := by decide +kernel
theorem dX4_isPrime_35 : decode cX4_isPrime 35 = .ok (.lstore_n 2, 1) := by decide +kernel
theorem dX4_isPrime_36 : decode cX4_isPrime 36 = .ok (.goto (-22), 3) := by decide +kernel
theorem dX4_isPrime_39 : decode cX4_isPrime 39 = .ok (.iconst 1, 1) := by decide +kernel
theorem dX4_isPrime_40 : decode cX4_isPrime 40 = .ok (.ireturn, 1) := by decide +kernel
theorem dX4_fit_0 : decode cX4_fit 0 = .ok (.lload_n 1, 1) := by decide +kernel
theorem dX4_fit_1 : decode cX4_fit 1 = .ok (.aload_n 0, 1) := by decide +kernel
theorem dX4_fit_2 : decode cX4_fit 2 = .ok (.getfield 28, 3) := by decide +kernel
theorem dX4_fit_5 : decode cX4_fit 5 = .ok (.lrem, 1) := by decide +kernel
theorem dX4_fit_6 : decode cX4_fit 6 = .ok (.lstore_n 3, 1) := by decide +kernel
theorem dX4_fit_7 : decode cX4_fit 7 = .ok (.lload_n 3, 1) := by decide +kernel
theorem dX4_fit_8 : decode cX4_fit 8 = .ok (.lconst 0, 1) := by decide +kernel
theorem dX4_fit_9 : decode cX4_fit 9 = .ok (.lcmp, 1) := by decide +kernel
theorem dX4_fit_10 : decode cX4_fit 10 = .ok (.ifCond .ge 12, 3) := by decide +kernel
theorem dX4_fit_13 : decode cX4_fit 13 = .ok (.lload_n 3, 1) := by decide +kernel
theorem dX4_fit_14 : decode cX4_fit 14 = .ok (.aload_n 0, 1) := by decide +kernel
theorem dX4_fit_15 : decode cX4_fit 15 = .ok (.getfield 28, 3) := by decide +kernel
theorem dX4_fit_18 : decode cX4_fit 18 = .ok (.ladd, 1) := by decide +kernel
theorem dX4_fit_19 : decode cX4_fit 19 = .ok (.goto 4, 3) := by decide +kernel
theorem dX4_fit_22 : decode cX4_fit 22 = .ok (.lload_n 3, 1) := by decide +kernel
theorem dX4_fit_23 : decode cX4_fit 23 = .ok (.lreturn, 1) := by decide +kernel
set_option maxRecDepth 20000 in
theorem ggX4_raised_X4_fit : GoodIn wsX4_raised wsX4_fit := goodIn_r _ [6, 1, 7, 8, 9, 10, 11, 12, 13, 14, 15, 16, 17, 18, 19, 20] (by decide +kernel) (by decide +kernel)
set_option maxRecDepth 20000 in
theorem gX4_raised_X4_fit : GoodIn wsX4_raised (wsV RX4 32 RX4 yX4_fit wsX4_fit) := goodIn_app (goodIn_of _ (by decide +kernel)) ggX4_raised_X4_fit
theorem dX4_raised_0 : decode cX4_raised 0 = .ok (.lconst 1, 1) := by decide +kernel
theorem dX4_raised_1 : decode cX4_raised 1 = .ok (.lstore 5, 2) := by decide +kernel
theorem dX4_raised_3 : decode cX4_raised 3 = .ok (.aload_n 0, 1) := by decide +kernel
theorem dX4_raised_4 : decode cX4_raised 4 = .ok (.lload_n 1, 1) := by decide +kernel
theorem dX4_raised_5 : decode cX4_raised 5 = .ok (.invokevirtual 32, 3) := by decide +kernel
theorem dX4_raised_8 : decode cX4_raised 8 = .ok (.lstore 7, 2) := by decide +kernel
theorem dX4_raised_10 : decode cX4_raised 10 = .ok (.lload_n 3, 1) := by decide +kernel
theorem dX4_raised_11 : decode cX4_raised 11 = .ok (.lstore 9, 2) := by decide +kernel
theorem dX4_raised_13 : decode cX4_raised 13 = .ok (.lload 9, 2) := by decide +kernel
theorem dX4_raised_15 : decode cX4_raised 15 = .ok (.lconst 0, 1) := by decide +kernel
theorem dX4_raised_16 : decode cX4_raised 16 = .ok (.lcmp, 1) := by decide +kernel
theorem dX4_raised_17 : decode cX4_raised 17 = .ok (.ifCond .le 50, 3) := by decide +kernel
theorem dX4_raised_20 : decode cX4_raised 20 = .ok (.lload 9, 2) := by decide +kernel
theorem dX4_raised_22 : decode cX4_raised 22 = .ok (.lconst 1, 1) := by decide +kernel
theorem dX4_raised_23 : decode cX4_raised 23 = .ok (.land, 1) := by decide +kernel
theorem dX4_raised_24 : decode cX4_raised 24 = .ok (.lconst 1, 1) := by decide +kernel
theorem dX4_raised_25 : decode cX4_raised 25 = .ok (.lcmp, 1) := by decide +kernel
theorem dX4_raised_26 : decode cX4_raised 26 = .ok (.ifCond .ne 16, 3) := by decide +kernel
theorem dX4_raised_29 : decode cX4_raised 29 = .ok (.lload 5, 2) := by decide +kernel
theorem dX4_raised_31 : decode cX4_raised 31 = .ok (.lload 7, 2) := by decide +kernel
theorem dX4_raised_33 : decode cX4_raised 33 = .ok (.lmul, 1) := by decide +kernel
theorem dX4_raised_34 : decode cX4_raised 34 = .ok (.aload_n 0, 1) := by decide +kernel
theorem dX4_raised_35 : decode cX4_raised 35 = .ok (.getfield 28, 3) := by decide +kernel
theorem dX4_raised_38 : decode cX4_raised 38 = .ok (.lrem, 1) := by decide +kernel
theorem dX4_raised_39 : decode cX4_raised 39 = .ok (.goto 5, 3) := by decide +kernel
theorem dX4_raised_42 : decode cX4_raised 42 = .ok (.lload 5, 2) := by decide +kernel
theorem dX4_raised_44 : decode cX4_raised 44 = .ok (.lstore 5, 2) := by decide +kernel
theorem dX4_raised_46 : decode cX4_raised 46 = .ok (.lload 7, 2) := by decide +kernel
theorem dX4_raised_48 : decode cX4_raised 48 = .ok (.lload 7, 2) := by decide +kernel
theorem dX4_raised_50 : decode cX4_raised 50 = .ok (.lmul, 1) := by decide +kernel
theorem dX4_raised_51 : decode cX4_raised 51 = .ok (.aload_n 0, 1) := by decide +kernel
theorem dX4_raised_52 : decode cX4_raised 52 = .ok (.getfield 28, 3) := by decide +kernel
theorem dX4_raised_55 : decode cX4_raised 55 = .ok (.lrem, 1) := by decide +kernel
theorem dX4_raised_56 : decode cX4_raised 56 = .ok (.lstore 7, 2) := by decide +kernel
theorem dX4_raised_58 : decode cX4_raised 58 = .ok (.lload 9, 2) := by decide +kernel
theorem dX4_raised_60 : decode cX4_raised 60 = .ok (.iconst 1, 1) := by decide +kernel
theorem dX4_raised_61 : decode cX4_raised 61 = .ok (.lshr, 1) := by decide +kernel
theorem dX4_raised_62 : decode cX4_raised 62 = .ok (.lstore 9, 2) := by decide +kernel
theorem dX4_raised_64 : decode cX4_raised 64 = .ok (.goto (-51), 3) := by decide +kernel
theorem dX4_raised_67 : decode cX4_raised 67 = .ok (.lload 5, 2) := by decide +kernel
theorem dX4_raised_69 : decode cX4_raised 69 = .ok (.lreturn, 1) := by decide +kernel
set_option maxRecDepth 20000 in
theorem ggX4_turned_X4_raised : GoodIn wsX4_turned wsX4_raised := goodIn_r _ [7, 1, 8, 9, 10, 6, 11, 12, 13, 14, 15, 16, 17, 18, 19, 20, 21, 22, 23, 24, 25] (by decide +kernel) (by decide +kernel)
set_option maxRecDepth 20000 in
theorem gX4_turned_X4_raised : GoodIn wsX4_turned (wsV RX4 36 RX4 yX4_raised wsX4_raised) := goodIn_app (goodIn_of _ (by decide +kernel)) ggX4_turned_X4_raised
theorem dX4_turned_0 : decode cX4_turned 0 = .ok (.aload_n 0, 1) := by decide +kernel
theorem dX4_turned_1 : decode cX4_turned 1 = .ok (.lload_n 1, 1) := by decide +kernel
theorem dX4_turned_2 : decode cX4_turned 2 = .ok (.aload_n 0, 1) := by decide +kernel
theorem dX4_turned_3 : decode cX4_turned 3 = .ok (.getfield 28, 3) := by decide +kernel
theorem dX4_turned_6 : decode cX4_turned 6 = .ok (.ldc2_w 26, 3) := by decide +kernel
theorem dX4_turned_9 : decode cX4_turned 9 = .ok (.lsub, 1) := by decide +kernel
theorem dX4_turned_10 : decode cX4_turned 10 = .ok (.invokevirtual 36, 3) := by decide +kernel
theorem dX4_turned_13 : decode cX4_turned 13 = .ok (.lreturn, 1) := by decide +kernel
set_option maxRecDepth 20000 in
theorem ggX4_rootOf_X4_raised : GoodIn wsX4_rootOf wsX4_raised := goodIn_r _ [8, 1, 9, 10, 11, 7, 12, 13, 14, 15, 16, 17, 18, 19, 20, 21, 22, 23, 24, 25, 26] (by decide +kernel) (by decide +kernel)
set_option maxRecDepth 20000 in
theorem gX4_rootOf_X4_raised : GoodIn wsX4_rootOf (wsV RX4 36 RX4 yX4_raised wsX4_raised) := goodIn_app (goodIn_of _ (by decide +kernel)) ggX4_rootOf_X4_raised
set_option maxRecDepth 20000 in
theorem ggX4_rootOf_X4_fit : GoodIn wsX4_rootOf wsX4_fit := goodIn_r _ [12, 1, 13, 14, 15, 16, 17, 18, 19, 20, 21, 22, 23, 24, 25, 26] (by decide +kernel) (by decide +kernel)
set_option maxRecDepth 20000 in
theorem gX4_rootOf_X4_fit : GoodIn wsX4_rootOf (wsV RX4 32 RX4 yX4_fit wsX4_fit) := goodIn_app (goodIn_of _ (by decide +kernel)) ggX4_rootOf_X4_fit
theorem dX4_rootOf_0 : decode cX4_rootOf 0 = .ok (.aload_n 0, 1) := by decide +kernel
theorem dX4_rootOf_1 : decode cX4_rootOf 1 = .ok (.lload_n 1, 1) := by decide +kernel
theorem dX4_rootOf_2 : decode cX4_rootOf 2 = .ok (.aload_n 0, 1) := by decide +kernel
theorem dX4_rootOf_3 : decode cX4_rootOf 3 = .ok (.getfield 28, 3) := by decide +kernel
theorem dX4_rootOf_6 : decode cX4_rootOf 6 = .ok (.lconst 1, 1) := by decide +kernel
theorem dX4_rootOf_7 : decode cX4_rootOf 7 = .ok (.ladd, 1) := by decide +kernel
theorem dX4_rootOf_8 : decode cX4_rootOf 8 = .ok (.ldc2_w 40, 3) := by decide +kernel
theorem dX4_rootOf_11 : decode cX4_rootOf 11 = .ok (.ldiv, 1) := by decide +kernel
theorem dX4_rootOf_12 : decode cX4_rootOf 12 = .ok (.invokevirtual 36, 3) := by decide +kernel
theorem dX4_rootOf_15 : decode cX4_rootOf 15 = .ok (.lstore_n 3, 1) := by decide +kernel
theorem dX4_rootOf_16 : decode cX4_rootOf 16 = .ok (.lload_n 3, 1) := by decide +kernel
theorem dX4_rootOf_17 : decode cX4_rootOf 17 = .ok (.lload_n 3, 1) := by decide +kernel
theorem dX4_rootOf_18 : decode cX4_rootOf 18 = .ok (.lmul, 1) := by decide +kernel
theorem dX4_rootOf_19 : decode cX4_rootOf 19 = .ok (.aload_n 0, 1) := by decide +kernel
theorem dX4_rootOf_20 : decode cX4_rootOf 20 = .ok (.getfield 28, 3) := by decide +kernel
theorem dX4_rootOf_23 : decode cX4_rootOf 23 = .ok (.lrem, 1) := by decide +kernel
theorem dX4_rootOf_24 : decode cX4_rootOf 24 = .ok (.aload_n 0, 1) := by decide +kernel
theorem dX4_rootOf_25 : decode cX4_rootOf 25 = .ok (.lload_n 1, 1) := by decide +kernel
theorem dX4_rootOf_26 : decode cX4_rootOf 26 = .ok (.invokevirtual 32, 3) := by decide +kernel
theorem dX4_rootOf_29 : decode cX4_rootOf 29 = .ok (.lcmp, 1) := by decide +kernel
theorem dX4_rootOf_30 : decode cX4_rootOf 30 = .ok (.ifCond .eq 7, 3) := by decide +kernel
theorem dX4_rootOf_33 : decode cX4_rootOf 33 = .ok (.ldc2_w 42, 3) := by decide +kernel
theorem dX4_rootOf_36 : decode cX4_rootOf 36 = .ok (.lreturn, 1) := by decide +kernel
theorem dX4_rootOf_37 : decode cX4_rootOf 37 = .ok (.lload_n 3, 1) := by decide +kernel
theorem dX4_rootOf_38 : decode cX4_rootOf 38 = .ok (.lconst 1, 1) := by decide +kernel
theorem dX4_rootOf_39 : decode cX4_rootOf 39 = .ok (.land, 1) := by decide +kernel
theorem dX4_rootOf_40 : decode cX4_rootOf 40 = .ok (.lconst 0, 1) := by decide +kernel
theorem dX4_rootOf_41 : decode cX4_rootOf 41 = .ok (.lcmp, 1) := by decide +kernel
theorem dX4_rootOf_42 : decode cX4_rootOf 42 = .ok (.ifCond .ne 7, 3) := by decide +kernel
theorem dX4_rootOf_45 : decode cX4_rootOf 45 = .ok (.lload_n 3, 1) := by decide +kernel
theorem dX4_rootOf_46 : decode cX4_rootOf 46 = .ok (.goto 9, 3) := by decide +kernel
theorem dX4_rootOf_49 : decode cX4_rootOf 49 = .ok (.aload_n 0, 1) := by decide +kernel
theorem dX4_rootOf_50 : decode cX4_rootOf 50 = .ok (.getfield 28, 3) := by decide +kernel
theorem dX4_rootOf_53 : decode cX4_rootOf 53 = .ok (.lload_n 3, 1) := by decide +kernel
theorem dX4_rootOf_54 : decode cX4_rootOf 54 = .ok (.lsub, 1) := by decide +kernel
theorem dX4_rootOf_55 : decode cX4_rootOf 55 = .ok (.lreturn, 1) := by decide +kernel
theorem dX4_curve_0 : decode cX4_curve 0 = .ok (.lload_n 1, 1) := by decide +kernel
theorem dX4_curve_1 : decode cX4_curve 1 = .ok (.lload_n 1, 1) := by decide +kernel
theorem dX4_curve_2 : decode cX4_curve 2 = .ok (.lmul, 1) := by decide +kernel
theorem dX4_curve_3 : decode cX4_curve 3 = .ok (.aload_n 0, 1) := by decide +kernel
theorem dX4_curve_4 : decode cX4_curve 4 = .ok (.getfield 28, 3) := by decide +kernel
theorem dX4_curve_7 : decode cX4_curve 7 = .ok (.lrem, 1) := by decide +kernel
theorem dX4_curve_8 : decode cX4_curve 8 = .ok (.lload_n 1, 1) := by decide +kernel
theorem dX4_curve_9 : decode cX4_curve 9 = .ok (.lmul, 1) := by decide +kernel
theorem dX4_curve_10 : decode cX4_curve 10 = .ok (.lload_n 1, 1) := by decide +kernel
theorem dX4_curve_11 : decode cX4_curve 11 = .ok (.ladd, 1) := by decide +kernel
theorem dX4_curve_12 : decode cX4_curve 12 = .ok (.aload_n 0, 1) := by decide +kernel
theorem dX4_curve_13 : decode cX4_curve 13 = .ok (.getfield 28, 3) := by decide +kernel
theorem dX4_curve_16 : decode cX4_curve 16 = .ok (.lrem, 1) := by decide +kernel
theorem dX4_curve_17 : decode cX4_curve 17 = .ok (.lreturn, 1) := by decide +kernel
set_option maxRecDepth 20000 in
theorem ggX4_field_X4_isPrime : GoodIn wsX4_field wsX4_isPrime := goodIn_r _ [10, 11] (by decide +kernel) (by decide +kernel)
set_option maxRecDepth 20000 in
theorem gX4_field_X4_isPrime : GoodIn wsX4_field (va_wsS RX4 44 yX4_isPrime wsX4_isPrime) := goodIn_app (goodIn_of _ (by decide +kernel)) ggX4_field_X4_isPrime
theorem dX4_field_0 : decode cX4_field 0 = .ok (.iload_n 1, 1) := by decide +kernel
theorem dX4_field_1 : decode cX4_field 1 = .ok (.bipush 11, 2) := by decide +kernel
theorem dX4_field_3 : decode cX4_field 3 = .ok (.if_icmp .lt 31, 3) := by decide +kernel
theorem dX4_field_6 : decode cX4_field 6 = .ok (.iload_n 1, 1) := by decide +kernel
theorem dX4_field_7 : decode cX4_field 7 = .ok (.iconst 4, 1) := by decide +kernel
theorem dX4_field_8 : decode cX4_field 8 = .ok (.irem, 1) := by decide +kernel
theorem dX4_field_9 : decode cX4_field 9 = .ok (.iconst 3, 1) := by decide +kernel
theorem dX4_field_10 : decode cX4_field 10 = .ok (.if_icmp .ne 24, 3) := by decide +kernel
theorem dX4_field_13 : decode cX4_field 13 = .ok (.iload_n 1, 1) := by decide +kernel
theorem dX4_field_14 : decode cX4_field 14 = .ok (.i2l, 1) := by decide +kernel
theorem dX4_field_15 : decode cX4_field 15 = .ok (.invokestatic 44, 3) := by decide +kernel
theorem dX4_field_18 : decode cX4_field 18 = .ok (.ifCond .eq 16, 3) := by decide +kernel
theorem dX4_field_21 : decode cX4_field 21 = .ok (.iload_n 2, 1) := by decide +kernel
theorem dX4_field_22 : decode cX4_field 22 = .ok (.iconst 3, 1) := by decide +kernel
theorem dX4_field_23 : decode cX4_field 23 = .ok (.if_icmp .lt 11, 3) := by decide +kernel
theorem dX4_field_26 : decode cX4_field 26 = .ok (.iload_n 2, 1) := by decide +kernel
theorem dX4_field_27 : decode cX4_field 27 = .ok (.i2l, 1) := by decide +kernel
theorem dX4_field_28 : decode cX4_field 28 = .ok (.invokestatic 44, 3) := by decide +kernel
theorem dX4_field_31 : decode cX4_field 31 = .ok (.ifCond .ne 6, 3) := by decide +kernel
theorem dX4_field_34 : decode cX4_field 34 = .ok (.bipush (-2), 2) := by decide +kernel
theorem dX4_field_36 : decode cX4_field 36 = .ok (.ireturn, 1) := by decide +kernel
theorem dX4_field_37 : decode cX4_field 37 = .ok (.iload_n 1, 1) := by decide +kernel
theorem dX4_field_38 : decode cX4_field 38 = .ok (.i2l, 1) := by decide +kernel
theorem dX4_field_39 : decode cX4_field 39 = .ok (.lconst 1, 1) := by decide +kernel
theorem dX4_field_40 : decode cX4_field 40 = .ok (.ladd, 1) := by decide +kernel
theorem dX4_field_41 : decode cX4_field 41 = .ok (.lstore_n 3, 1) := by decide +kernel
theorem dX4_field_42 : decode cX4_field 42 = .ok (.lload_n 3, 1) := by decide +kernel
theorem dX4_field_43 : decode cX4_field 43 = .ok (.iload_n 2, 1) := by decide +kernel
theorem dX4_field_44 : decode cX4_field 44 = .ok (.i2l, 1) := by decide +kernel
theorem dX4_field_45 : decode cX4_field 45 = .ok (.lrem, 1) := by decide +kernel
theorem dX4_field_46 : decode cX4_field 46 = .ok (.lconst 0, 1) := by decide +kernel
theorem dX4_field_47 : decode cX4_field 47 = .ok (.lcmp, 1) := by decide +kernel
theorem dX4_field_48 : decode cX4_field 48 = .ok (.ifCond .ne 15, 3) := by decide +kernel
theorem dX4_field_51 : decode cX4_field 51 = .ok (.lload_n 3, 1) := by decide +kernel
theorem dX4_field_52 : decode cX4_field 52 = .ok (.iload_n 2, 1) := by decide +kernel
theorem dX4_field_53 : decode cX4_field 53 = .ok (.i2l, 1) := by decide +kernel
theorem dX4_field_54 : decode cX4_field 54 = .ok (.ldiv, 1) := by decide +kernel
theorem dX4_field_55 : decode cX4_field 55 = .ok (.iload_n 2, 1) := by decide +kernel
theorem dX4_field_56 : decode cX4_field 56 = .ok (.i2l, 1) := by decide +kernel
theorem dX4_field_57 : decode cX4_field 57 = .ok (.lrem, 1) := by decide +kernel
theorem dX4_field_58 : decode cX4_field 58 = .ok (.lconst 0, 1) := by decide +kernel
theorem dX4_field_59 : decode cX4_field 59 = .ok (.lcmp, 1) := by decide +kernel
theorem dX4_field_60 : decode cX4_field 60 = .ok (.ifCond .ne 6, 3) := by decide +kernel
theorem dX4_field_63 : decode cX4_field 63 = .ok (.bipush (-2), 2) := by decide +kernel
theorem dX4_field_65 : decode cX4_field 65 = .ok (.ireturn, 1) := by decide +kernel
theorem dX4_field_66 : decode cX4_field 66 = .ok (.aload_n 0, 1) := by decide +kernel
theorem dX4_field_67 : decode cX4_field 67 = .ok (.iload_n 1, 1) := by decide +kernel
theorem dX4_field_68 : decode cX4_field 68 = .ok (.i2l, 1) := by decide +kernel
theorem dX4_field_69 : decode cX4_field 69 = .ok (.putfield 28, 3) := by decide +kernel
theorem dX4_field_72 : decode cX4_field 72 = .ok (.aload_n 0, 1) := by decide +kernel
theorem dX4_field_73 : decode cX4_field 73 = .ok (.iload_n 2, 1) := by decide +kernel
theorem dX4_field_74 : decode cX4_field 74 = .ok (.i2l, 1) := by decide +kernel
theorem dX4_field_75 : decode cX4_field 75 = .ok (.putfield 48, 3) := by decide +kernel
theorem dX4_field_78 : decode cX4_field 78 = .ok (.aload_n 0, 1) := by decide +kernel
theorem dX4_field_79 : decode cX4_field 79 = .ok (.lload_n 3, 1) := by decide +kernel
theorem dX4_field_80 : decode cX4_field 80 = .ok (.iload_n 2, 1) := by decide +kernel
theorem dX4_field_81 : decode cX4_field 81 = .ok (.i2l, 1) := by decide +kernel
theorem dX4_field_82 : decode cX4_field 82 = .ok (.ldiv, 1) := by decide +kernel
theorem dX4_field_83 : decode cX4_field 83 = .ok (.putfield 51, 3) := by decide +kernel
theorem dX4_field_86 : decode cX4_field 86 = .ok (.iconst 0, 1) := by decide +kernel
theorem dX4_field_87 : decode cX4_field 87 = .ok (.istore 5, 2) := by decide +kernel
theorem dX4_field_89 : decode cX4_field 89 = .ok (.iload 5, 2) := by decide +kernel
theorem dX4_field_91 : decode cX4_field 91 = .ok (.bipush 16, 2) := by decide +kernel
theorem dX4_field_93 : decode cX4_field 93 = .ok (.if_icmp .ge 17, 3) := by decide +kernel
theorem dX4_field_96 : decode cX4_field 96 = .ok (.aload_n 0, 1) := by decide +kernel
theorem dX4_field_97 : decode cX4_field 97 = .ok (.getfield 16, 3) := by decide +kernel
theorem dX4_field_100 : decode cX4_field 100 = .ok (.iload 5, 2) := by decide +kernel
theorem dX4_field_102 : decode cX4_field 102 = .ok (.iconst 0, 1) := by decide +kernel
theorem dX4_field_103 : decode cX4_field 103 = .ok (.bastore, 1) := by decide +kernel
theorem dX4_field_104 : decode cX4_field 104 = .ok (.iinc 5 1, 3) := by decide +kernel
theorem dX4_field_107 : decode cX4_field 107 = .ok (.goto (-18), 3) := by decide +kernel
theorem dX4_field_110 : decode cX4_field 110 = .ok (.iconst 0, 1) := by decide +kernel
theorem dX4_field_111 : decode cX4_field 111 = .ok (.istore 5, 2) := by decide +kernel
theorem dX4_field_113 : decode cX4_field 113 = .ok (.iload 5, 2) := by decide +kernel
theorem dX4_field_115 : decode cX4_field 115 = .ok (.bipush 8, 2) := by decide +kernel
theorem dX4_field_117 : decode cX4_field 117 = .ok (.if_icmp .ge 25, 3) := by decide +kernel
theorem dX4_field_120 : decode cX4_field 120 = .ok (.aload_n 0, 1) := by decide +kernel
theorem dX4_field_121 : decode cX4_field 121 = .ok (.getfield 20, 3) := by decide +kernel
theorem dX4_field_124 : decode cX4_field 124 = .ok (.iload 5, 2) := by decide +kernel
theorem dX4_field_126 : decode cX4_field 126 = .ok (.lconst 1, 1) := by decide +kernel
theorem dX4_field_127 : decode cX4_field 127 = .ok (.lastore, 1) := by decide +kernel
theorem dX4_field_128 : decode cX4_field 128 = .ok (.aload_n 0, 1) := by decide +kernel
theorem dX4_field_129 : decode cX4_field 129 = .ok (.getfield 23, 3) := by decide +kernel
theorem dX4_field_132 : decode cX4_field 132 = .ok (.iload 5, 2) := by decide +kernel
theorem dX4_field_134 : decode cX4_field 134 = .ok (.lconst 0, 1) := by decide +kernel
theorem dX4_field_135 : decode cX4_field 135 = .ok (.lastore, 1) := by decide +kernel
theorem dX4_field_136 : decode cX4_field 136 = .ok (.iinc 5 1, 3) := by decide +kernel
theorem dX4_field_139 : decode cX4_field 139 = .ok (.goto (-26), 3) := by decide +kernel
theorem dX4_field_142 : decode cX4_field 142 = .ok (.aload_n 0, 1) := by decide +kernel
theorem dX4_field_143 : decode cX4_field 143 = .ok (.getfield 51, 3) := by decide +kernel
theorem dX4_field_146 : decode cX4_field 146 = .ok (.l2i, 1) := by decide +kernel
theorem dX4_field_147 : decode cX4_field 147 = .ok (.ireturn, 1) := by decide +kernel
set_option maxRecDepth 20000 in
theorem ggX4_told_X4_in : GoodIn wsX4_told wsX4_in := goodIn_r _ [8] (by decide +kernel) (by decide +kernel)
set_option maxRecDepth 20000 in
theorem gX4_told_X4_in : GoodIn wsX4_told (va_wsS RX4 54 yX4_in wsX4_in) := goodIn_app (goodIn_of _ (by decide +kernel)) ggX4_told_X4_in
theorem dX4_told_0 : decode cX4_told 0 = .ok (.iload_n 1, 1) := by decide +kernel
theorem dX4_told_1 : decode cX4_told 1 = .ok (.i2l, 1) := by decide +kernel
theorem dX4_told_2 : decode cX4_told 2 = .ok (.lconst 0, 1) := by decide +kernel
theorem dX4_told_3 : decode cX4_told 3 = .ok (.ldc2_w 26, 3) := by decide +kernel
theorem dX4_told_6 : decode cX4_told 6 = .ok (.invokestatic 54, 3) := by decide +kernel
theorem dX4_told_9 : decode cX4_told 9 = .ok (.ifCond .ne 6, 3) := by decide +kernel
theorem dX4_told_12 : decode cX4_told 12 = .ok (.bipush (-2), 2) := by decide +kernel
theorem dX4_told_14 : decode cX4_told 14 = .ok (.ireturn, 1) := by decide +kernel
theorem dX4_told_15 : decode cX4_told 15 = .ok (.aload_n 0, 1) := by decide +kernel
theorem dX4_told_16 : decode cX4_told 16 = .ok (.getfield 28, 3) := by decide +kernel
theorem dX4_told_19 : decode cX4_told 19 = .ok (.lconst 0, 1) := by decide +kernel
theorem dX4_told_20 : decode cX4_told 20 = .ok (.lcmp, 1) := by decide +kernel
theorem dX4_told_21 : decode cX4_told 21 = .ok (.ifCond .ne 8, 3) := by decide +kernel
theorem dX4_told_24 : decode cX4_told 24 = .ok (.bipush (-3), 2) := by decide +kernel
theorem dX4_told_26 : decode cX4_told 26 = .ok (.goto 31, 3) := by decide +kernel
theorem dX4_told_29 : decode cX4_told 29 = .ok (.iload_n 1, 1) := by decide +kernel
theorem dX4_told_30 : decode cX4_told 30 = .ok (.ifCond .ne 10, 3) := by decide +kernel
theorem dX4_told_33 : decode cX4_told 33 = .ok (.aload_n 0, 1) := by decide +kernel
theorem dX4_told_34 : decode cX4_told 34 = .ok (.getfield 28, 3) := by decide +kernel
theorem dX4_told_37 : decode cX4_told 37 = .ok (.goto 19, 3) := by decide +kernel
theorem dX4_told_40 : decode cX4_told 40 = .ok (.iload_n 1, 1) := by decide +kernel
theorem dX4_told_41 : decode cX4_told 41 = .ok (.iconst 1, 1) := by decide +kernel
theorem dX4_told_42 : decode cX4_told 42 = .ok (.if_icmp .ne 10, 3) := by decide +kernel
theorem dX4_told_45 : decode cX4_told 45 = .ok (.aload_n 0, 1) := by decide +kernel
theorem dX4_told_46 : decode cX4_told 46 = .ok (.getfield 48, 3) := by decide +kernel
theorem dX4_told_49 : decode cX4_told 49 = .ok (.goto 7, 3) := by decide +kernel
theorem dX4_told_52 : decode cX4_told 52 = .ok (.aload_n 0, 1) := by decide +kernel
theorem dX4_told_53 : decode cX4_told 53 = .ok (.getfield 51, 3) := by decide +kernel
theorem dX4_told_56 : decode cX4_told 56 = .ok (.l2i, 1) := by decide +kernel
theorem dX4_told_57 : decode cX4_told 57 = .ok (.ireturn, 1) := by decide +kernel
set_option maxRecDepth 20000 in
theorem ggX4_root_X4_in : GoodIn wsX4_root wsX4_in := goodIn_r _ [5] (by decide +kernel) (by decide +kernel)
set_option maxRecDepth 20000 in
theorem gX4_root_X4_in : GoodIn wsX4_root (va_wsS RX4 54 yX4_in wsX4_in) := goodIn_app (goodIn_of _ (by decide +kernel)) ggX4_root_X4_in
set_option maxRecDepth 20000 in
theorem ggX4_root_X4_rootOf : GoodIn wsX4_root wsX4_rootOf := goodIn_r _ [9, 1, 10, 11, 12, 13, 14, 4, 15, 16, 17, 18, 19, 20, 21, 22, 23, 24, 25, 26, 27, 28, 29, 30, 31, 32, 33] (by decide +kernel) (by decide +kernel)
set_option maxRecDepth 20000 in
theorem gX4_root_X4_rootOf : GoodIn wsX4_root (wsV RX4 58 RX4 yX4_rootOf wsX4_rootOf) := goodIn_app (goodIn_of _ (by decide +kernel)) ggX4_root_X4_rootOf
theorem dX4_root_0 : decode cX4_root 0 = .ok (.aload_n 0, 1) := by decide +kernel
theorem dX4_root_1 : decode cX4_root 1 = .ok (.getfield 28, 3) := by decide +kernel
theorem dX4_root_4 : decode cX4_root 4 = .ok (.lconst 0, 1) := by decide +kernel
theorem dX4_root_5 : decode cX4_root 5 = .ok (.lcmp, 1) := by decide +kernel
theorem dX4_root_6 : decode cX4_root 6 = .ok (.ifCond .ne 6, 3) := by decide +kernel
theorem dX4_root_9 : decode cX4_root 9 = .ok (.bipush (-3), 2) := by decide +kernel
theorem dX4_root_11 : decode cX4_root 11 = .ok (.ireturn, 1) := by decide +kernel
theorem dX4_root_12 : decode cX4_root 12 = .ok (.iload_n 1, 1) := by decide +kernel
theorem dX4_root_13 : decode cX4_root 13 = .ok (.i2l, 1) := by decide +kernel
theorem dX4_root_14 : decode cX4_root 14 = .ok (.lconst 0, 1) := by decide +kernel
theorem dX4_root_15 : decode cX4_root 15 = .ok (.aload_n 0, 1) := by decide +kernel
theorem dX4_root_16 : decode cX4_root 16 = .ok (.getfield 28, 3) := by decide +kernel
theorem dX4_root_19 : decode cX4_root 19 = .ok (.lconst 1, 1) := by decide +kernel
theorem dX4_root_20 : decode cX4_root 20 = .ok (.lsub, 1) := by decide +kernel
theorem dX4_root_21 : decode cX4_root 21 = .ok (.invokestatic 54, 3) := by decide +kernel
theorem dX4_root_24 : decode cX4_root 24 = .ok (.ifCond .eq 13, 3) := by decide +kernel
theorem dX4_root_27 : decode cX4_root 27 = .ok (.aload_n 0, 1) := by decide +kernel
theorem dX4_root_28 : decode cX4_root 28 = .ok (.iload_n 1, 1) := by decide +kernel
theorem dX4_root_29 : decode cX4_root 29 = .ok (.i2l, 1) := by decide +kernel
theorem dX4_root_30 : decode cX4_root 30 = .ok (.invokevirtual 58, 3) := by decide +kernel
theorem dX4_root_33 : decode cX4_root 33 = .ok (.l2i, 1) := by decide +kernel
theorem dX4_root_34 : decode cX4_root 34 = .ok (.goto 5, 3) := by decide +kernel
theorem dX4_root_37 : decode cX4_root 37 = .ok (.bipush (-2), 2) := by decide +kernel
theorem dX4_root_39 : decode cX4_root 39 = .ok (.ireturn, 1) := by decide +kernel
theorem dX4_load_0 : decode cX4_load 0 = .ok (.aload_n 0, 1) := by decide +kernel
theorem dX4_load_1 : decode cX4_load 1 = .ok (.aload_n 0, 1) := by decide +kernel
theorem dX4_load_2 : decode cX4_load 2 = .ok (.getfield 7, 3) := by decide +kernel
theorem dX4_load_5 : decode cX4_load 5 = .ok (.iload_n 1, 1) := by decide +kernel
theorem dX4_load_6 : decode cX4_load 6 = .ok (.laload, 1) := by decide +kernel
theorem dX4_load_7 : decode cX4_load 7 = .ok (.putfield 61, 3) := by decide +kernel
theorem dX4_load_10 : decode cX4_load 10 = .ok (.aload_n 0, 1) := by decide +kernel
theorem dX4_load_11 : decode cX4_load 11 = .ok (.aload_n 0, 1) := by decide +kernel
theorem dX4_load_12 : decode cX4_load 12 = .ok (.getfield 13, 3) := by decide +kernel
theorem dX4_load_15 : decode cX4_load 15 = .ok (.iload_n 1, 1) := by decide +kernel
theorem dX4_load_16 : decode cX4_load 16 = .ok (.laload, 1) := by decide +kernel
theorem dX4_load_17 : decode cX4_load 17 = .ok (.putfield 64, 3) := by decide +kernel
theorem dX4_load_20 : decode cX4_load 20 = .ok (.aload_n 0, 1) := by decide +kernel
theorem dX4_load_21 : decode cX4_load 21 = .ok (.aload_n 0, 1) := by decide +kernel
theorem dX4_load_22 : decode cX4_load 22 = .ok (.getfield 16, 3) := by decide +kernel
theorem dX4_load_25 : decode cX4_load 25 = .ok (.iload_n 1, 1) := by decide +kernel
theorem dX4_load_26 : decode cX4_load 26 = .ok (.baload, 1) := by decide +kernel
theorem dX4_load_27 : decode cX4_load 27 = .ok (.putfield 67, 3) := by decide +kernel
theorem dX4_load_30 : decode cX4_load 30 = .ok (.return_, 1) := by decide +kernel
theorem dX4_store_0 : decode cX4_store 0 = .ok (.aload_n 0, 1) := by decide +kernel
theorem dX4_store_1 : decode cX4_store 1 = .ok (.getfield 7, 3) := by decide +kernel
theorem dX4_store_4 : decode cX4_store 4 = .ok (.iload_n 1, 1) := by decide +kernel
theorem dX4_store_5 : decode cX4_store 5 = .ok (.aload_n 0, 1) := by decide +kernel
theorem dX4_store_6 : decode cX4_store 6 = .ok (.getfield 61, 3) := by decide +kernel
theorem dX4_store_9 : decode cX4_store 9 = .ok (.lastore, 1) := by decide +kernel
theorem dX4_store_10 : decode cX4_store 10 = .ok (.aload_n 0, 1) := by decide +kernel
theorem dX4_store_11 : decode cX4_store 11 = .ok (.getfield 13, 3) := by decide +kernel
theorem dX4_store_14 : decode cX4_store 14 = .ok (.iload_n 1, 1) := by decide +kernel
theorem dX4_store_15 : decode cX4_store 15 = .ok (.aload_n 0, 1) := by decide +kernel
theorem dX4_store_16 : decode cX4_store 16 = .ok (.getfield 64, 3) := by decide +kernel
theorem dX4_store_19 : decode cX4_store 19 = .ok (.lastore, 1) := by decide +kernel
theorem dX4_store_20 : decode cX4_store 20 = .ok (.aload_n 0, 1) := by decide +kernel
theorem dX4_store_21 : decode cX4_store 21 = .ok (.getfield 16, 3) := by decide +kernel
theorem dX4_store_24 : decode cX4_store 24 = .ok (.iload_n 1, 1) := by decide +kernel
theorem dX4_store_25 : decode cX4_store 25 = .ok (.aload_n 0, 1) := by decide +kernel
theorem dX4_store_26 : decode cX4_store 26 = .ok (.getfield 67, 3) := by decide +kernel
theorem dX4_store_29 : decode cX4_store 29 = .ok (.bastore, 1) := by decide +kernel
theorem dX4_store_30 : decode cX4_store 30 = .ok (.return_, 1) := by decide +kernel
set_option maxRecDepth 20000 in
theorem ggX4_slope_X4_turned : GoodIn wsX4_slope wsX4_turned := goodIn_r _ [8, 2, 3, 9, 10, 11, 7, 12, 13, 14, 15, 16, 17, 18, 19, 20, 21, 22, 23, 24, 25, 26, 27, 28, 29, 30] (by decide +kernel) (by decide +kernel)
set_option maxRecDepth 20000 in
theorem gX4_slope_X4_turned : GoodIn wsX4_slope (wsV RX4 73 RX4 yX4_turned wsX4_turned) := goodIn_app (goodIn_of _ (by decide +kernel)) ggX4_slope_X4_turned
set_option maxRecDepth 20000 in
theorem ggX4_slope_X4_fit : GoodIn wsX4_slope wsX4_fit := goodIn_r _ [16, 2, 17, 18, 19, 20, 21, 22, 23, 24, 25, 26, 27, 28, 29, 30] (by decide +kernel) (by decide +kernel)
set_option maxRecDepth 20000 in
theorem gX4_slope_X4_fit : GoodIn wsX4_slope (wsV RX4 32 RX4 yX4_fit wsX4_fit) := goodIn_app (goodIn_of _ (by decide +kernel)) ggX4_slope_X4_fit
theorem dX4_slope_0 : decode cX4_slope 0 = .ok (.lload_n 1, 1) := by decide +kernel
theorem dX4_slope_1 : decode cX4_slope 1 = .ok (.lload 5, 2) := by decide +kernel
theorem dX4_slope_3 : decode cX4_slope 3 = .ok (.lcmp, 1) := by decide +kernel
theorem dX4_slope_4 : decode cX4_slope 4 = .ok (.ifCond .ne 38, 3) := by decide +kernel
theorem dX4_slope_7 : decode cX4_slope 7 = .ok (.ldc2_w 71, 3) := by decide +kernel
theorem dX4_slope_10 : decode cX4_slope 10 = .ok (.lload_n 1, 1) := by decide +kernel
theorem dX4_slope_11 : decode cX4_slope 11 = .ok (.lload_n 1, 1) := by decide +kernel
theorem dX4_slope_12 : decode cX4_slope 12 = .ok (.lmul, 1) := by decide +kernel
theorem dX4_slope_13 : decode cX4_slope 13 = .ok (.aload_n 0, 1) := by decide +kernel
theorem dX4_slope_14 : decode cX4_slope 14 = .ok (.getfield 28, 3) := by decide +kernel
theorem dX4_slope_17 : decode cX4_slope 17 = .ok (.lrem, 1) := by decide +kernel
theorem dX4_slope_18 : decode cX4_slope 18 = .ok (.lmul, 1) := by decide +kernel
theorem dX4_slope_19 : decode cX4_slope 19 = .ok (.lconst 1, 1) := by decide +kernel
theorem dX4_slope_20 : decode cX4_slope 20 = .ok (.ladd, 1) := by decide +kernel
theorem dX4_slope_21 : decode cX4_slope 21 = .ok (.aload_n 0, 1) := by decide +kernel
theorem dX4_slope_22 : decode cX4_slope 22 = .ok (.getfield 28, 3) := by decide +kernel
theorem dX4_slope_25 : decode cX4_slope 25 = .ok (.lrem, 1) := by decide +kernel
theorem dX4_slope_26 : decode cX4_slope 26 = .ok (.aload_n 0, 1) := by decide +kernel
theorem dX4_slope_27 : decode cX4_slope 27 = .ok (.ldc2_w 26, 3) := by decide +kernel
theorem dX4_slope_30 : decode cX4_slope 30 = .ok (.lload_n 3, 1) := by decide +kernel
theorem dX4_slope_31 : decode cX4_slope 31 = .ok (.lmul, 1) := by decide +kernel
theorem dX4_slope_32 : decode cX4_slope 32 = .ok (.invokevirtual 73, 3) := by decide +kernel
theorem dX4_slope_35 : decode cX4_slope 35 = .ok (.lmul, 1) := by decide +kernel
theorem dX4_slope_36 : decode cX4_slope 36 = .ok (.aload_n 0, 1) := by decide +kernel
theorem dX4_slope_37 : decode cX4_slope 37 = .ok (.getfield 28, 3) := by decide +kernel
theorem dX4_slope_40 : decode cX4_slope 40 = .ok (.lrem, 1) := by decide +kernel
theorem dX4_slope_41 : decode cX4_slope 41 = .ok (.lreturn, 1) := by decide +kernel
theorem dX4_slope_42 : decode cX4_slope 42 = .ok (.aload_n 0, 1) := by decide +kernel
theorem dX4_slope_43 : decode cX4_slope 43 = .ok (.lload 7, 2) := by decide +kernel
theorem dX4_slope_45 : decode cX4_slope 45 = .ok (.lload_n 3, 1) := by decide +kernel
theorem dX4_slope_46 : decode cX4_slope 46 = .ok (.lsub, 1) := by decide +kernel
theorem dX4_slope_47 : decode cX4_slope 47 = .ok (.invokevirtual 32, 3) := by decide +kernel
theorem dX4_slope_50 : decode cX4_slope 50 = .ok (.aload_n 0, 1) := by decide +kernel
theorem dX4_slope_51 : decode cX4_slope 51 = .ok (.lload 5, 2) := by decide +kernel
theorem dX4_slope_53 : decode cX4_slope 53 = .ok (.lload_n 1, 1) := by decide +kernel
theorem dX4_slope_54 : decode cX4_slope 54 = .ok (.lsub, 1) := by decide +kernel
theorem dX4_slope_55 : decode cX4_slope 55 = .ok (.invokevirtual 73, 3) := by decide +kernel
theorem dX4_slope_58 : decode cX4_slope 58 = .ok (.lmul, 1) := by decide +kernel
theorem dX4_slope_59 : decode cX4_slope 59 = .ok (.aload_n 0, 1) := by decide +kernel
theorem dX4_slope_60 : decode cX4_slope 60 = .ok (.getfield 28, 3) := by decide +kernel
theorem dX4_slope_63 : decode cX4_slope 63 = .ok (.lrem, 1) := by decide +kernel
theorem dX4_slope_64 : decode cX4_slope 64 = .ok (.lreturn, 1) := by decide +kernel
set_option maxRecDepth 20000 in
theorem ggX4_plus_X4_slope : GoodIn wsX4_plus wsX4_slope := goodIn_r _ [9, 10, 4, 11, 12, 13, 14, 8, 15, 16, 17, 18, 19, 20, 21, 22, 23, 24, 25, 26, 27, 28, 29, 30, 31, 32, 33, 34, 35, 36, 37] (by decide +kernel) (by decide +kernel)
set_option maxRecDepth 20000 in
theorem gX4_plus_X4_slope : GoodIn wsX4_plus (wsV RX4 76 RX4 yX4_slope wsX4_slope) := goodIn_app (goodIn_of _ (by decide +kernel)) ggX4_plus_X4_slope
set_option maxRecDepth 20000 in
theorem ggX4_plus_X4_fit : GoodIn wsX4_plus wsX4_fit := goodIn_r _ [23, 4, 24, 25, 26, 27, 28, 29, 30, 31, 32, 33, 34, 35, 36, 37] (by decide +kernel) (by decide +kernel)
set_option maxRecDepth 20000 in
theorem gX4_plus_X4_fit : GoodIn wsX4_plus (wsV RX4 32 RX4 yX4_fit wsX4_fit) := goodIn_app (goodIn_of _ (by decide +kernel)) ggX4_plus_X4_fit
theorem dX4_plus_0 : decode cX4_plus 0 = .ok (.iload 5, 2) := by decide +kernel
theorem dX4_plus_2 : decode cX4_plus 2 = .ok (.ifCond .ne 4, 3) := by decide +kernel
theorem dX4_plus_5 : decode cX4_plus 5 = .ok (.return_, 1) := by decide +kernel
theorem dX4_plus_6 : decode cX4_plus 6 = .ok (.aload_n 0, 1) := by decide +kernel
theorem dX4_plus_7 : decode cX4_plus 7 = .ok (.getfield 67, 3) := by decide +kernel
theorem dX4_plus_10 : decode cX4_plus 10 = .ok (.ifCond .ne 19, 3) := by decide +kernel
theorem dX4_plus_13 : decode cX4_plus 13 = .ok (.aload_n 0, 1) := by decide +kernel
theorem dX4_plus_14 : decode cX4_plus 14 = .ok (.lload_n 1, 1) := by decide +kernel
theorem dX4_plus_15 : decode cX4_plus 15 = .ok (.putfield 61, 3) := by decide +kernel
theorem dX4_plus_18 : decode cX4_plus 18 = .ok (.aload_n 0, 1) := by decide +kernel
theorem dX4_plus_19 : decode cX4_plus 19 = .ok (.lload_n 3, 1) := by decide +kernel
theorem dX4_plus_20 : decode cX4_plus 20 = .ok (.putfield 64, 3) := by decide +kernel
theorem dX4_plus_23 : decode cX4_plus 23 = .ok (.aload_n 0, 1) := by decide +kernel
theorem dX4_plus_24 : decode cX4_plus 24 = .ok (.iconst 1, 1) := by decide +kernel
theorem dX4_plus_25 : decode cX4_plus 25 = .ok (.putfield 67, 3) := by decide +kernel
theorem dX4_plus_28 : decode cX4_plus 28 = .ok (.return_, 1) := by decide +kernel
theorem dX4_plus_29 : decode cX4_plus 29 = .ok (.aload_n 0, 1) := by decide +kernel
theorem dX4_plus_30 : decode cX4_plus 30 = .ok (.getfield 61, 3) := by decide +kernel
theorem dX4_plus_33 : decode cX4_plus 33 = .ok (.lload_n 1, 1) := by decide +kernel
theorem dX4_plus_34 : decode cX4_plus 34 = .ok (.lcmp, 1) := by decide +kernel
theorem dX4_plus_35 : decode cX4_plus 35 = .ok (.ifCond .ne 25, 3) := by decide +kernel
theorem dX4_plus_38 : decode cX4_plus 38 = .ok (.aload_n 0, 1) := by decide +kernel
theorem dX4_plus_39 : decode cX4_plus 39 = .ok (.getfield 64, 3) := by decide +kernel
theorem dX4_plus_42 : decode cX4_plus 42 = .ok (.lload_n 3, 1) := by decide +kernel
theorem dX4_plus_43 : decode cX4_plus 43 = .ok (.ladd, 1) := by decide +kernel
theorem dX4_plus_44 : decode cX4_plus 44 = .ok (.aload_n 0, 1) := by decide +kernel
theorem dX4_plus_45 : decode cX4_plus 45 = .ok (.getfield 28, 3) := by decide +kernel
theorem dX4_plus_48 : decode cX4_plus 48 = .ok (.lrem, 1) := by decide +kernel
theorem dX4_plus_49 : decode cX4_plus 49 = .ok (.lconst 0, 1) := by decide +kernel
theorem dX4_plus_50 : decode cX4_plus 50 = .ok (.lcmp, 1) := by decide +kernel
theorem dX4_plus_51 : decode cX4_plus 51 = .ok (.ifCond .ne 9, 3) := by decide +kernel
theorem dX4_plus_54 : decode cX4_plus 54 = .ok (.aload_n 0, 1) := by decide +kernel
theorem dX4_plus_55 : decode cX4_plus 55 = .ok (.iconst 0, 1) := by decide +kernel
theorem dX4_plus_56 : decode cX4_plus 56 = .ok (.putfield 67, 3) := by decide +kernel
theorem dX4_plus_59 : decode cX4_plus 59 = .ok (.return_, 1) := by decide +kernel
theorem dX4_plus_60 : decode cX4_plus 60 = .ok (.aload_n 0, 1) := by decide +kernel
theorem dX4_plus_61 : decode cX4_plus 61 = .ok (.aload_n 0, 1) := by decide +kernel
theorem dX4_plus_62 : decode cX4_plus 62 = .ok (.getfield 61, 3) := by decide +kernel
theorem dX4_plus_65 : decode cX4_plus 65 = .ok (.aload_n 0, 1) := by decide +kernel
theorem dX4_plus_66 : decode cX4_plus 66 = .ok (.getfield 64, 3) := by decide +kernel
theorem dX4_plus_69 : decode cX4_plus 69 = .ok (.lload_n 1, 1) := by decide +kernel
theorem dX4_plus_70 : decode cX4_plus 70 = .ok (.lload_n 3, 1) := by decide +kernel
theorem dX4_plus_71 : decode cX4_plus 71 = .ok (.invokevirtual 76, 3) := by decide +kernel
theorem dX4_plus_74 : decode cX4_plus 74 = .ok (.lstore 6, 2) := by decide +kernel
theorem dX4_plus_76 : decode cX4_plus 76 = .ok (.aload_n 0, 1) := by decide +kernel
theorem dX4_plus_77 : decode cX4_plus 77 = .ok (.lload 6, 2) := by decide +kernel
theorem dX4_plus_79 : decode cX4_plus 79 = .ok (.lload 6, 2) := by decide +kernel
theorem dX4_plus_81 : decode cX4_plus 81 = .ok (.lmul, 1) := by decide +kernel
theorem dX4_plus_82 : decode cX4_plus 82 = .ok (.aload_n 0, 1) := by decide +kernel
theorem dX4_plus_83 : decode cX4_plus 83 = .ok (.getfield 28, 3) := by decide +kernel
theorem dX4_plus_86 : decode cX4_plus 86 = .ok (.lrem, 1) := by decide +kernel
theorem dX4_plus_87 : decode cX4_plus 87 = .ok (.aload_n 0, 1) := by decide +kernel
theorem dX4_plus_88 : decode cX4_plus 88 = .ok (.getfield 61, 3) := by decide +kernel
theorem dX4_plus_91 : decode cX4_plus 91 = .ok (.lsub, 1) := by decide +kernel
theorem dX4_plus_92 : decode cX4_plus 92 = .ok (.lload_n 1, 1) := by decide +kernel
theorem dX4_plus_93 : decode cX4_plus 93 = .ok (.lsub, 1) := by decide +kernel
theorem dX4_plus_94 : decode cX4_plus 94 = .ok (.invokevirtual 32, 3) := by decide +kernel
theorem dX4_plus_97 : decode cX4_plus 97 = .ok (.lstore 8, 2) := by decide +kernel
theorem dX4_plus_99 : decode cX4_plus 99 = .ok (.aload_n 0, 1) := by decide +kernel
theorem dX4_plus_100 : decode cX4_plus 100 = .ok (.aload_n 0, 1) := by decide +kernel
theorem dX4_plus_101 : decode cX4_plus 101 = .ok (.lload 6, 2) := by decide +kernel
theorem dX4_plus_103 : decode cX4_plus 103 = .ok (.aload_n 0, 1) := by decide +kernel
theorem dX4_plus_104 : decode cX4_plus 104 = .ok (.aload_n 0, 1) := by decide +kernel
theorem dX4_plus_105 : decode cX4_plus 105 = .ok (.getfield 61, 3) := by decide +kernel
theorem dX4_plus_108 : decode cX4_plus 108 = .ok (.lload 8, 2) := by decide +kernel
theorem dX4_plus_110 : decode cX4_plus 110 = .ok (.lsub, 1) := by decide +kernel
theorem dX4_plus_111 : decode cX4_plus 111 = .ok (.invokevirtual 32, 3) := by decide +kernel
theorem dX4_plus_114 : decode cX4_plus 114 = .ok (.lmul, 1) := by decide +kernel
theorem dX4_plus_115 : decode cX4_plus 115 = .ok (.aload_n 0, 1) := by decide +kernel
theorem dX4_plus_116 : decode cX4_plus 116 = .ok (.getfield 28, 3) := by decide +kernel
theorem dX4_plus_119 : decode cX4_plus 119 = .ok (.lrem, 1) := by decide +kernel
theorem dX4_plus_120 : decode cX4_plus 120 = .ok (.aload_n 0, 1) := by decide +kernel
theorem dX4_plus_121 : decode cX4_plus 121 = .ok (.getfield 64, 3) := by decide +kernel
theorem dX4_plus_124 : decode cX4_plus 124 = .ok (.lsub, 1) := by decide +kernel
theorem dX4_plus_125 : decode cX4_plus 125 = .ok (.invokevirtual 32, 3) := by decide +kernel
theorem dX4_plus_128 : decode cX4_plus 128 = .ok (.putfield 64, 3) := by decide +kernel
theorem dX4_plus_131 : decode cX4_plus 131 = .ok (.aload_n 0, 1) := by decide +kernel
theorem dX4_plus_132 : decode cX4_plus 132 = .ok (.lload 8, 2) := by decide +kernel
theorem dX4_plus_134 : decode cX4_plus 134 = .ok (.putfield 61, 3) := by decide +kernel
theorem dX4_plus_137 : decode cX4_plus 137 = .ok (.return_, 1) := by decide +kernel
set_option maxRecDepth 20000 in
theorem ggX4_take_X4_plus : GoodIn wsX4_take wsX4_plus := goodIn_r _ [8, 3, 1, 2, 9, 10, 11, 12, 7, 13, 14, 15, 16, 17, 18, 19, 20, 21, 22, 23, 24, 25, 26, 27, 28, 29, 30, 31, 32, 33, 34, 35, 36, 37, 38, 39, 40, 41] (by decide +kernel) (by decide +kernel)
set_option maxRecDepth 20000 in
theorem gX4_take_X4_plus : GoodIn wsX4_take (wsV RX4 80 RX4 yX4_plus wsX4_plus) := goodIn_app (goodIn_of _ (by decide +kernel)) ggX4_take_X4_plus
theorem dX4_take_0 : decode cX4_take 0 = .ok (.aload_n 0, 1) := by decide +kernel
theorem dX4_take_1 : decode cX4_take 1 = .ok (.getfield 61, 3) := by decide +kernel
theorem dX4_take_4 : decode cX4_take 4 = .ok (.lstore_n 3, 1) := by decide +kernel
theorem dX4_take_5 : decode cX4_take 5 = .ok (.aload_n 0, 1) := by decide +kernel
theorem dX4_take_6 : decode cX4_take 6 = .ok (.getfield 64, 3) := by decide +kernel
theorem dX4_take_9 : decode cX4_take 9 = .ok (.lstore 5, 2) := by decide +kernel
theorem dX4_take_11 : decode cX4_take 11 = .ok (.aload_n 0, 1) := by decide +kernel
theorem dX4_take_12 : decode cX4_take 12 = .ok (.getfield 67, 3) := by decide +kernel
theorem dX4_take_15 : decode cX4_take 15 = .ok (.istore 7, 2) := by decide +kernel
theorem dX4_take_17 : decode cX4_take 17 = .ok (.aload_n 0, 1) := by decide +kernel
theorem dX4_take_18 : decode cX4_take 18 = .ok (.iconst 0, 1) := by decide +kernel
theorem dX4_take_19 : decode cX4_take 19 = .ok (.putfield 67, 3) := by decide +kernel
theorem dX4_take_22 : decode cX4_take 22 = .ok (.bipush 63, 2) := by decide +kernel
theorem dX4_take_24 : decode cX4_take 24 = .ok (.istore 8, 2) := by decide +kernel
theorem dX4_take_26 : decode cX4_take 26 = .ok (.iload 8, 2) := by decide +kernel
theorem dX4_take_28 : decode cX4_take 28 = .ok (.ifCond .lt 45, 3) := by decide +kernel
theorem dX4_take_31 : decode cX4_take 31 = .ok (.aload_n 0, 1) := by decide +kernel
theorem dX4_take_32 : decode cX4_take 32 = .ok (.aload_n 0, 1) := by decide +kernel
theorem dX4_take_33 : decode cX4_take 33 = .ok (.getfield 61, 3) := by decide +kernel
theorem dX4_take_36 : decode cX4_take 36 = .ok (.aload_n 0, 1) := by decide +kernel
theorem dX4_take_37 : decode cX4_take 37 = .ok (.getfield 64, 3) := by decide +kernel
theorem dX4_take_40 : decode cX4_take 40 = .ok (.aload_n 0, 1) := by decide +kernel
theorem dX4_take_41 : decode cX4_take 41 = .ok (.getfield 67, 3) := by decide +kernel
theorem dX4_take_44 : decode cX4_take 44 = .ok (.invokevirtual 80, 3) := by decide +kernel
theorem dX4_take_47 : decode cX4_take 47 = .ok (.lload_n 1, 1) := by decide +kernel
theorem dX4_take_48 : decode cX4_take 48 = .ok (.iload 8, 2) := by decide +kernel
theorem dX4_take_50 : decode cX4_take 50 = .ok (.lushr, 1) := by decide +kernel
theorem dX4_take_51 : decode cX4_take 51 = .ok (.lconst 1, 1) := by decide +kernel
theorem dX4_take_52 : decode cX4_take 52 = .ok (.land, 1) := by decide +kernel
theorem dX4_take_53 : decode cX4_take 53 = .ok (.lconst 1, 1) := by decide +kernel
theorem dX4_take_54 : decode cX4_take 54 = .ok (.lcmp, 1) := by decide +kernel
theorem dX4_take_55 : decode cX4_take 55 = .ok (.ifCond .ne 12, 3) := by decide +kernel
theorem dX4_take_58 : decode cX4_take 58 = .ok (.aload_n 0, 1) := by decide +kernel
theorem dX4_take_59 : decode cX4_take 59 = .ok (.lload_n 3, 1) := by decide +kernel
theorem dX4_take_60 : decode cX4_take 60 = .ok (.lload 5, 2) := by decide +kernel
theorem dX4_take_62 : decode cX4_take 62 = .ok (.iload 7, 2) := by decide +kernel
theorem dX4_take_64 : decode cX4_take 64 = .ok (.invokevirtual 80, 3) := by decide +kernel
theorem dX4_take_67 : decode cX4_take 67 = .ok (.iinc 8 (-1), 3) := by decide +kernel
theorem dX4_take_70 : decode cX4_take 70 = .ok (.goto (-44), 3) := by decide +kernel
theorem dX4_take_73 : decode cX4_take 73 = .ok (.return_, 1) := by decide +kernel
set_option maxRecDepth 20000 in
theorem ggX4_isSlot_X4_in : GoodIn wsX4_isSlot wsX4_in := goodIn_r _ [5] (by decide +kernel) (by decide +kernel)
set_option maxRecDepth 20000 in
theorem gX4_isSlot_X4_in : GoodIn wsX4_isSlot (va_wsS RX4 54 yX4_in wsX4_in) := goodIn_app (goodIn_of _ (by decide +kernel)) ggX4_isSlot_X4_in
theorem dX4_isSlot_0 : decode cX4_isSlot 0 = .ok (.iload_n 0, 1) := by decide +kernel
theorem dX4_isSlot_1 : decode cX4_isSlot 1 = .ok (.i2l, 1) := by decide +kernel
theorem dX4_isSlot_2 : decode cX4_isSlot 2 = .ok (.lconst 0, 1) := by decide +kernel
theorem dX4_isSlot_3 : decode cX4_isSlot 3 = .ok (.ldc2_w 84, 3) := by decide +kernel
theorem dX4_isSlot_6 : decode cX4_isSlot 6 = .ok (.invokestatic 54, 3) := by decide +kernel
theorem dX4_isSlot_9 : decode cX4_isSlot 9 = .ok (.ireturn, 1) := by decide +kernel
set_option maxRecDepth 20000 in
theorem ggX4_point_X4_isSlot : GoodIn wsX4_point wsX4_isSlot := goodIn_r _ [8, 9, 10, 11, 7, 12] (by decide +kernel) (by decide +kernel)
set_option maxRecDepth 20000 in
theorem gX4_point_X4_isSlot : GoodIn wsX4_point (va_wsS RX4 86 yX4_isSlot wsX4_isSlot) := goodIn_app (goodIn_of _ (by decide +kernel)) ggX4_point_X4_isSlot
set_option maxRecDepth 20000 in
theorem ggX4_point_X4_in : GoodIn wsX4_point wsX4_in := goodIn_r _ [12] (by decide +kernel) (by decide +kernel)
set_option maxRecDepth 20000 in
theorem gX4_point_X4_in : GoodIn wsX4_point (va_wsS RX4 54 yX4_in wsX4_in) := goodIn_app (goodIn_of _ (by decide +kernel)) ggX4_point_X4_in
set_option maxRecDepth 20000 in
theorem ggX4_point_X4_curve : GoodIn wsX4_point wsX4_curve := goodIn_r _ [16, 1, 24, 25, 26, 27, 28, 29, 30, 31, 32, 33, 34, 35, 36, 37] (by decide +kernel) (by decide +kernel)
set_option maxRecDepth 20000 in
theorem gX4_point_X4_curve : GoodIn wsX4_point (wsV RX4 90 RX4 yX4_curve wsX4_curve) := goodIn_app (goodIn_of _ (by decide +kernel)) ggX4_point_X4_curve
set_option maxRecDepth 20000 in
theorem ggX4_point_X4_store : GoodIn wsX4_point wsX4_store := goodIn_r _ [20, 21, 2, 22, 3, 23, 4, 24, 25, 26, 27, 28, 29, 30, 31, 32, 33, 34, 35, 36, 37] (by decide +kernel) (by decide +kernel)
set_option maxRecDepth 20000 in
theorem gX4_point_X4_store : GoodIn wsX4_point (wsV RX4 93 RX4 yX4_store wsX4_store) := goodIn_app (goodIn_of _ (by decide +kernel)) ggX4_point_X4_store
theorem dX4_point_0 : decode cX4_point 0 = .ok (.aload_n 0, 1) := by decide +kernel
theorem dX4_point_1 : decode cX4_point 1 = .ok (.getfield 28, 3) := by decide +kernel
theorem dX4_point_4 : decode cX4_point 4 = .ok (.lconst 0, 1) := by decide +kernel
theorem dX4_point_5 : decode cX4_point 5 = .ok (.lcmp, 1) := by decide +kernel
theorem dX4_point_6 : decode cX4_point 6 = .ok (.ifCond .ne 6, 3) := by decide +kernel
theorem dX4_point_9 : decode cX4_point 9 = .ok (.bipush (-3), 2) := by decide +kernel
theorem dX4_point_11 : decode cX4_point 11 = .ok (.ireturn, 1) := by decide +kernel
theorem dX4_point_12 : decode cX4_point 12 = .ok (.iload_n 1, 1) := by decide +kernel
theorem dX4_point_13 : decode cX4_point 13 = .ok (.invokestatic 86, 3) := by decide +kernel
theorem dX4_point_16 : decode cX4_point 16 = .ok (.ifCond .eq 33, 3) := by decide +kernel
theorem dX4_point_19 : decode cX4_point 19 = .ok (.iload_n 2, 1) := by decide +kernel
theorem dX4_point_20 : decode cX4_point 20 = .ok (.i2l, 1) := by decide +kernel
theorem dX4_point_21 : decode cX4_point 21 = .ok (.lconst 0, 1) := by decide +kernel
theorem dX4_point_22 : decode cX4_point 22 = .ok (.aload_n 0, 1) := by decide +kernel
theorem dX4_point_23 : decode cX4_point 23 = .ok (.getfield 28, 3) := by decide +kernel
theorem dX4_point_26 : decode cX4_point 26 = .ok (.lconst 1, 1) := by decide +kernel
theorem dX4_point_27 : decode cX4_point 27 = .ok (.lsub, 1) := by decide +kernel
theorem dX4_point_28 : decode cX4_point 28 = .ok (.invokestatic 54, 3) := by decide +kernel
theorem dX4_point_31 : decode cX4_point 31 = .ok (.ifCond .eq 18, 3) := by decide +kernel
theorem dX4_point_34 : decode cX4_point 34 = .ok (.iload_n 3, 1) := by decide +kernel
theorem dX4_point_35 : decode cX4_point 35 = .ok (.i2l, 1) := by decide +kernel
theorem dX4_point_36 : decode cX4_point 36 = .ok (.lconst 0, 1) := by decide +kernel
theorem dX4_point_37 : decode cX4_point 37 = .ok (.aload_n 0, 1) := by decide +kernel
theorem dX4_point_38 : decode cX4_point 38 = .ok (.getfield 28, 3) := by decide +kernel
theorem dX4_point_41 : decode cX4_point 41 = .ok (.lconst 1, 1) := by decide +kernel
theorem dX4_point_42 : decode cX4_point 42 = .ok (.lsub, 1) := by decide +kernel
theorem dX4_point_43 : decode cX4_point 43 = .ok (.invokestatic 54, 3) := by decide +kernel
theorem dX4_point_46 : decode cX4_point 46 = .ok (.ifCond .ne 6, 3) := by decide +kernel
theorem dX4_point_49 : decode cX4_point 49 = .ok (.bipush (-2), 2) := by decide +kernel
theorem dX4_point_51 : decode cX4_point 51 = .ok (.ireturn, 1) := by decide +kernel
theorem dX4_point_52 : decode cX4_point 52 = .ok (.iload_n 3, 1) := by decide +kernel
theorem dX4_point_53 : decode cX4_point 53 = .ok (.i2l, 1) := by decide +kernel
theorem dX4_point_54 : decode cX4_point 54 = .ok (.iload_n 3, 1) := by decide +kernel
theorem dX4_point_55 : decode cX4_point 55 = .ok (.i2l, 1) := by decide +kernel
theorem dX4_point_56 : decode cX4_point 56 = .ok (.lmul, 1) := by decide +kernel
theorem dX4_point_57 : decode cX4_point 57 = .ok (.aload_n 0, 1) := by decide +kernel
theorem dX4_point_58 : decode cX4_point 58 = .ok (.getfield 28, 3) := by decide +kernel
theorem dX4_point_61 : decode cX4_point 61 = .ok (.lrem, 1) := by decide +kernel
theorem dX4_point_62 : decode cX4_point 62 = .ok (.aload_n 0, 1) := by decide +kernel
theorem dX4_point_63 : decode cX4_point 63 = .ok (.iload_n 2, 1) := by decide +kernel
theorem dX4_point_64 : decode cX4_point 64 = .ok (.i2l, 1) := by decide +kernel
theorem dX4_point_65 : decode cX4_point 65 = .ok (.invokevirtual 90, 3) := by decide +kernel
theorem dX4_point_68 : decode cX4_point 68 = .ok (.lcmp, 1) := by decide +kernel
theorem dX4_point_69 : decode cX4_point 69 = .ok (.ifCond .eq 5, 3) := by decide +kernel
theorem dX4_point_72 : decode cX4_point 72 = .ok (.iconst (-1), 1) := by decide +kernel
theorem dX4_point_73 : decode cX4_point 73 = .ok (.ireturn, 1) := by decide +kernel
theorem dX4_point_74 : decode cX4_point 74 = .ok (.aload_n 0, 1) := by decide +kernel
theorem dX4_point_75 : decode cX4_point 75 = .ok (.iload_n 2, 1) := by decide +kernel
theorem dX4_point_76 : decode cX4_point 76 = .ok (.i2l, 1) := by decide +kernel
theorem dX4_point_77 : decode cX4_point 77 = .ok (.putfield 61, 3) := by decide +kernel
theorem dX4_point_80 : decode cX4_point 80 = .ok (.aload_n 0, 1) := by decide +kernel
theorem dX4_point_81 : decode cX4_point 81 = .ok (.iload_n 3, 1) := by decide +kernel
theorem dX4_point_82 : decode cX4_point 82 = .ok (.i2l, 1) := by decide +kernel
theorem dX4_point_83 : decode cX4_point 83 = .ok (.putfield 64, 3) := by decide +kernel
theorem dX4_point_86 : decode cX4_point 86 = .ok (.aload_n 0, 1) := by decide +kernel
theorem dX4_point_87 : decode cX4_point 87 = .ok (.iconst 1, 1) := by decide +kernel
theorem dX4_point_88 : decode cX4_point 88 = .ok (.putfield 67, 3) := by decide +kernel
theorem dX4_point_91 : decode cX4_point 91 = .ok (.aload_n 0, 1) := by decide +kernel
theorem dX4_point_92 : decode cX4_point 92 = .ok (.iload_n 1, 1) := by decide +kernel
theorem dX4_point_93 : decode cX4_point 93 = .ok (.invokevirtual 93, 3) := by decide +kernel
theorem dX4_point_96 : decode cX4_point 96 = .ok (.iconst 1, 1) := by decide +kernel
theorem dX4_point_97 : decode cX4_point 97 = .ok (.ireturn, 1) := by decide +kernel
set_option maxRecDepth 20000 in
theorem ggX4_nowhere_X4_isSlot : GoodIn wsX4_nowhere wsX4_isSlot := goodIn_r _ [6, 7, 8, 9, 5, 10] (by decide +kernel) (by decide +kernel)
set_option maxRecDepth 20000 in
theorem gX4_nowhere_X4_isSlot : GoodIn wsX4_nowhere (va_wsS RX4 86 yX4_isSlot wsX4_isSlot) := goodIn_app (goodIn_of _ (by decide +kernel)) ggX4_nowhere_X4_isSlot
theorem dX4_nowhere_0 : decode cX4_nowhere 0 = .ok (.aload_n 0, 1) := by decide +kernel
theorem dX4_nowhere_1 : decode cX4_nowhere 1 = .ok (.getfield 28, 3) := by decide +kernel
theorem dX4_nowhere_4 : decode cX4_nowhere 4 = .ok (.lconst 0, 1) := by decide +kernel
theorem dX4_nowhere_5 : decode cX4_nowhere 5 = .ok (.lcmp, 1) := by decide +kernel
theorem dX4_nowhere_6 : decode cX4_nowhere 6 = .ok (.ifCond .ne 6, 3) := by decide +kernel
theorem dX4_nowhere_9 : decode cX4_nowhere 9 = .ok (.bipush (-3), 2) := by decide +kernel
theorem dX4_nowhere_11 : decode cX4_nowhere 11 = .ok (.ireturn, 1) := by decide +kernel
theorem dX4_nowhere_12 : decode cX4_nowhere 12 = .ok (.iload_n 1, 1) := by decide +kernel
theorem dX4_nowhere_13 : decode cX4_nowhere 13 = .ok (.invokestatic 86, 3) := by decide +kernel
theorem dX4_nowhere_16 : decode cX4_nowhere 16 = .ok (.ifCond .ne 6, 3) := by decide +kernel
theorem dX4_nowhere_19 : decode cX4_nowhere 19 = .ok (.bipush (-2), 2) := by decide +kernel
theorem dX4_nowhere_21 : decode cX4_nowhere 21 = .ok (.ireturn, 1) := by decide +kernel
theorem dX4_nowhere_22 : decode cX4_nowhere 22 = .ok (.aload_n 0, 1) := by decide +kernel
theorem dX4_nowhere_23 : decode cX4_nowhere 23 = .ok (.getfield 16, 3) := by decide +kernel
theorem dX4_nowhere_26 : decode cX4_nowhere 26 = .ok (.iload_n 1, 1) := by decide +kernel
theorem dX4_nowhere_27 : decode cX4_nowhere 27 = .ok (.iconst 0, 1) := by decide +kernel
theorem dX4_nowhere_28 : decode cX4_nowhere 28 = .ok (.bastore, 1) := by decide +kernel
theorem dX4_nowhere_29 : decode cX4_nowhere 29 = .ok (.iconst 1, 1) := by decide +kernel
theorem dX4_nowhere_30 : decode cX4_nowhere 30 = .ok (.ireturn, 1) := by decide +kernel
set_option maxRecDepth 20000 in
theorem ggX4_turnOf_X4_curve : GoodIn wsX4_turnOf wsX4_curve := goodIn_r _ [12, 1, 43, 44, 45, 46, 47, 48, 49, 50, 51, 52, 53, 54, 55, 56] (by decide +kernel) (by decide +kernel)
set_option maxRecDepth 20000 in
theorem gX4_turnOf_X4_curve : GoodIn wsX4_turnOf (wsV RX4 90 RX4 yX4_curve wsX4_curve) := goodIn_app (goodIn_of _ (by decide +kernel)) ggX4_turnOf_X4_curve
set_option maxRecDepth 20000 in
theorem ggX4_turnOf_X4_rootOf : GoodIn wsX4_turnOf wsX4_rootOf := goodIn_r _ [16, 1, 17, 3, 18, 19, 20, 11, 21, 22, 23, 24, 25, 43, 44, 45, 46, 47, 48, 49, 50, 51, 52, 53, 54, 55, 56] (by decide +kernel) (by decide +kernel)
set_option maxRecDepth 20000 in
theorem gX4_turnOf_X4_rootOf : GoodIn wsX4_turnOf (wsV RX4 58 RX4 yX4_rootOf wsX4_rootOf) := goodIn_app (goodIn_of _ (by decide +kernel)) ggX4_turnOf_X4_rootOf
set_option maxRecDepth 20000 in
theorem ggX4_turnOf_X4_take : GoodIn wsX4_turnOf wsX4_take := goodIn_r _ [29, 4, 5, 6, 30, 31, 32, 11, 33, 1, 34, 35, 36, 37, 38, 2, 39, 40, 41, 42, 18, 19, 20, 21, 22, 23, 24, 25, 43, 44, 45, 46, 47, 48, 49, 50, 51, 52, 53, 54, 55, 56] (by decide +kernel) (by decide +kernel)
set_option maxRecDepth 20000 in
theorem gX4_turnOf_X4_take : GoodIn wsX4_turnOf (wsV RX4 97 RX4 yX4_take wsX4_take) := goodIn_app (goodIn_of _ (by decide +kernel)) ggX4_turnOf_X4_take
theorem dX4_turnOf_0 : decode cX4_turnOf 0 = .ok (.lload_n 1, 1) := by decide +kernel
theorem dX4_turnOf_1 : decode cX4_turnOf 1 = .ok (.iconst 1, 1) := by decide +kernel
theorem dX4_turnOf_2 : decode cX4_turnOf 2 = .ok (.lushr, 1) := by decide +kernel
theorem dX4_turnOf_3 : decode cX4_turnOf 3 = .ok (.aload_n 0, 1) := by decide +kernel
theorem dX4_turnOf_4 : decode cX4_turnOf 4 = .ok (.getfield 28, 3) := by decide +kernel
theorem dX4_turnOf_7 : decode cX4_turnOf 7 = .ok (.lrem, 1) := by decide +kernel
theorem dX4_turnOf_8 : decode cX4_turnOf 8 = .ok (.ldc2_w 26, 3) := by decide +kernel
theorem dX4_turnOf_11 : decode cX4_turnOf 11 = .ok (.lmul, 1) := by decide +kernel
theorem dX4_turnOf_12 : decode cX4_turnOf 12 = .ok (.lload_n 1, 1) := by decide +kernel
theorem dX4_turnOf_13 : decode cX4_turnOf 13 = .ok (.lconst 1, 1) := by decide +kernel
theorem dX4_turnOf_14 : decode cX4_turnOf 14 = .ok (.land, 1) := by decide +kernel
theorem dX4_turnOf_15 : decode cX4_turnOf 15 = .ok (.ladd, 1) := by decide +kernel
theorem dX4_turnOf_16 : decode cX4_turnOf 16 = .ok (.aload_n 0, 1) := by decide +kernel
theorem dX4_turnOf_17 : decode cX4_turnOf 17 = .ok (.getfield 28, 3) := by decide +kernel
theorem dX4_turnOf_20 : decode cX4_turnOf 20 = .ok (.lrem, 1) := by decide +kernel
theorem dX4_turnOf_21 : decode cX4_turnOf 21 = .ok (.lstore_n 3, 1) := by decide +kernel
theorem dX4_turnOf_22 : decode cX4_turnOf 22 = .ok (.iconst 1, 1) := by decide +kernel
theorem dX4_turnOf_23 : decode cX4_turnOf 23 = .ok (.istore 5, 2) := by decide +kernel
theorem dX4_turnOf_25 : decode cX4_turnOf 25 = .ok (.iload 5, 2) := by decide +kernel
theorem dX4_turnOf_27 : decode cX4_turnOf 27 = .ok (.sipush 1000, 3) := by decide +kernel
theorem dX4_turnOf_30 : decode cX4_turnOf 30 = .ok (.if_icmp .gt 87, 3) := by decide +kernel
theorem dX4_turnOf_33 : decode cX4_turnOf 33 = .ok (.aload_n 0, 1) := by decide +kernel
theorem dX4_turnOf_34 : decode cX4_turnOf 34 = .ok (.lload_n 3, 1) := by decide +kernel
theorem dX4_turnOf_35 : decode cX4_turnOf 35 = .ok (.invokevirtual 90, 3) := by decide +kernel
theorem dX4_turnOf_38 : decode cX4_turnOf 38 = .ok (.lstore 6, 2) := by decide +kernel
theorem dX4_turnOf_40 : decode cX4_turnOf 40 = .ok (.lload 6, 2) := by decide +kernel
theorem dX4_turnOf_42 : decode cX4_turnOf 42 = .ok (.lconst 0, 1) := by decide +kernel
theorem dX4_turnOf_43 : decode cX4_turnOf 43 = .ok (.lcmp, 1) := by decide +kernel
theorem dX4_turnOf_44 : decode cX4_turnOf 44 = .ok (.ifCond .ne 9, 3) := by decide +kernel
theorem dX4_turnOf_47 : decode cX4_turnOf 47 = .ok (.ldc2_w 42, 3) := by decide +kernel
theorem dX4_turnOf_50 : decode cX4_turnOf 50 = .ok (.goto 9, 3) := by decide +kernel
theorem dX4_turnOf_53 : decode cX4_turnOf 53 = .ok (.aload_n 0, 1) := by decide +kernel
theorem dX4_turnOf_54 : decode cX4_turnOf 54 = .ok (.lload 6, 2) := by decide +kernel
theorem dX4_turnOf_56 : decode cX4_turnOf 56 = .ok (.invokevirtual 58, 3) := by decide +kernel
theorem dX4_turnOf_59 : decode cX4_turnOf 59 = .ok (.lstore 8, 2) := by decide +kernel
theorem dX4_turnOf_61 : decode cX4_turnOf 61 = .ok (.lload 8, 2) := by decide +kernel
theorem dX4_turnOf_63 : decode cX4_turnOf 63 = .ok (.lconst 0, 1) := by decide +kernel
theorem dX4_turnOf_64 : decode cX4_turnOf 64 = .ok (.lcmp, 1) := by decide +kernel
theorem dX4_turnOf_65 : decode cX4_turnOf 65 = .ok (.ifCond .lt 37, 3) := by decide +kernel
theorem dX4_turnOf_68 : decode cX4_turnOf 68 = .ok (.aload_n 0, 1) := by decide +kernel
theorem dX4_turnOf_69 : decode cX4_turnOf 69 = .ok (.lload_n 3, 1) := by decide +kernel
theorem dX4_turnOf_70 : decode cX4_turnOf 70 = .ok (.putfield 61, 3) := by decide +kernel
theorem dX4_turnOf_73 : decode cX4_turnOf 73 = .ok (.aload_n 0, 1) := by decide +kernel
theorem dX4_turnOf_74 : decode cX4_turnOf 74 = .ok (.lload 8, 2) := by decide +kernel
theorem dX4_turnOf_76 : decode cX4_turnOf 76 = .ok (.putfield 64, 3) := by decide +kernel
theorem dX4_turnOf_79 : decode cX4_turnOf 79 = .ok (.aload_n 0, 1) := by decide +kernel
theorem dX4_turnOf_80 : decode cX4_turnOf 80 = .ok (.iconst 1, 1) := by decide +kernel
theorem dX4_turnOf_81 : decode cX4_turnOf 81 = .ok (.putfield 67, 3) := by decide +kernel
theorem dX4_turnOf_84 : decode cX4_turnOf 84 = .ok (.aload_n 0, 1) := by decide +kernel
theorem dX4_turnOf_85 : decode cX4_turnOf 85 = .ok (.aload_n 0, 1) := by decide +kernel
theorem dX4_turnOf_86 : decode cX4_turnOf 86 = .ok (.getfield 51, 3) := by decide +kernel
theorem dX4_turnOf_89 : decode cX4_turnOf 89 = .ok (.invokevirtual 97, 3) := by decide +kernel
theorem dX4_turnOf_92 : decode cX4_turnOf 92 = .ok (.aload_n 0, 1) := by decide +kernel
theorem dX4_turnOf_93 : decode cX4_turnOf 93 = .ok (.getfield 67, 3) := by decide +kernel
theorem dX4_turnOf_96 : decode cX4_turnOf 96 = .ok (.ifCond .eq 6, 3) := by decide +kernel
theorem dX4_turnOf_99 : decode cX4_turnOf 99 = .ok (.iload 5, 2) := by decide +kernel
theorem dX4_turnOf_101 : decode cX4_turnOf 101 = .ok (.ireturn, 1) := by decide +kernel
theorem dX4_turnOf_102 : decode cX4_turnOf 102 = .ok (.lload_n 3, 1) := by decide +kernel
theorem dX4_turnOf_103 : decode cX4_turnOf 103 = .ok (.lconst 1, 1) := by decide +kernel
theorem dX4_turnOf_104 : decode cX4_turnOf 104 = .ok (.ladd, 1) := by decide +kernel
theorem dX4_turnOf_105 : decode cX4_turnOf 105 = .ok (.aload_n 0, 1) := by decide +kernel
theorem dX4_turnOf_106 : decode cX4_turnOf 106 = .ok (.getfield 28, 3) := by decide +kernel
theorem dX4_turnOf_109 : decode cX4_turnOf 109 = .ok (.lrem, 1) := by decide +kernel
theorem dX4_turnOf_110 : decode cX4_turnOf 110 = .ok (.lstore_n 3, 1) := by decide +kernel
theorem dX4_turnOf_111 : decode cX4_turnOf 111 = .ok (.iinc 5 1, 3) := by decide +kernel
theorem dX4_turnOf_114 : decode cX4_turnOf 114 = .ok (.goto (-89), 3) := by decide +kernel
theorem dX4_turnOf_117 : decode cX4_turnOf 117 = .ok (.aload_n 0, 1) := by decide +kernel
theorem dX4_turnOf_118 : decode cX4_turnOf 118 = .ok (.iconst 0, 1) := by decide +kernel
theorem dX4_turnOf_119 : decode cX4_turnOf 119 = .ok (.putfield 67, 3) := by decide +kernel
theorem dX4_turnOf_122 : decode cX4_turnOf 122 = .ok (.sipush 1000, 3) := by decide +kernel
theorem dX4_turnOf_125 : decode cX4_turnOf 125 = .ok (.ireturn, 1) := by decide +kernel
set_option maxRecDepth 20000 in
theorem ggX4_turn_X4_isSlot : GoodIn wsX4_turn wsX4_isSlot := goodIn_r _ [5, 6, 7, 8, 4, 9] (by decide +kernel) (by decide +kernel)
set_option maxRecDepth 20000 in
theorem gX4_turn_X4_isSlot : GoodIn wsX4_turn (va_wsS RX4 86 yX4_isSlot wsX4_isSlot) := goodIn_app (goodIn_of _ (by decide +kernel)) ggX4_turn_X4_isSlot
set_option maxRecDepth 20000 in
theorem ggX4_turn_X4_turnOf : GoodIn wsX4_turn wsX4_turnOf := goodIn_r _ [13, 1, 14, 15, 16, 17, 18, 19, 20, 21, 22, 4, 23, 24, 25, 26, 27, 28, 29, 30, 31, 32, 33, 34, 35, 36, 37, 38, 39, 40, 41, 42, 43, 44, 45, 46, 47, 48, 49, 50, 51, 52, 53, 61, 62, 63, 64, 65, 66, 67, 68, 69, 70, 71, 72, 73, 74] (by decide +kernel) (by decide +kernel)
set_option maxRecDepth 20000 in
theorem gX4_turn_X4_turnOf : GoodIn wsX4_turn (wsV RX4 101 RX4 yX4_turnOf wsX4_turnOf) := goodIn_app (goodIn_of _ (by decide +kernel)) ggX4_turn_X4_turnOf
set_option maxRecDepth 20000 in
theorem ggX4_turn_X4_store : GoodIn wsX4_turn wsX4_store := goodIn_r _ [57, 58, 16, 59, 17, 60, 18, 61, 62, 63, 64, 65, 66, 67, 68, 69, 70, 71, 72, 73, 74] (by decide +kernel) (by decide +kernel)
set_option maxRecDepth 20000 in
theorem gX4_turn_X4_store : GoodIn wsX4_turn (wsV RX4 93 RX4 yX4_store wsX4_store) := goodIn_app (goodIn_of _ (by decide +kernel)) ggX4_turn_X4_store
theorem dX4_turn_0 : decode cX4_turn 0 = .ok (.aload_n 0, 1) := by decide +kernel
theorem dX4_turn_1 : decode cX4_turn 1 = .ok (.getfield 28, 3) := by decide +kernel
theorem dX4_turn_4 : decode cX4_turn 4 = .ok (.lconst 0, 1) := by decide +kernel
theorem dX4_turn_5 : decode cX4_turn 5 = .ok (.lcmp, 1) := by decide +kernel
theorem dX4_turn_6 : decode cX4_turn 6 = .ok (.ifCond .ne 6, 3) := by decide +kernel
theorem dX4_turn_9 : decode cX4_turn 9 = .ok (.bipush (-3), 2) := by decide +kernel
theorem dX4_turn_11 : decode cX4_turn 11 = .ok (.ireturn, 1) := by decide +kernel
theorem dX4_turn_12 : decode cX4_turn 12 = .ok (.iload_n 1, 1) := by decide +kernel
theorem dX4_turn_13 : decode cX4_turn 13 = .ok (.invokestatic 86, 3) := by decide +kernel
theorem dX4_turn_16 : decode cX4_turn 16 = .ok (.ifCond .ne 6, 3) := by decide +kernel
theorem dX4_turn_19 : decode cX4_turn 19 = .ok (.bipush (-2), 2) := by decide +kernel
theorem dX4_turn_21 : decode cX4_turn 21 = .ok (.ireturn, 1) := by decide +kernel
theorem dX4_turn_22 : decode cX4_turn 22 = .ok (.aload_n 0, 1) := by decide +kernel
theorem dX4_turn_23 : decode cX4_turn 23 = .ok (.lload_n 2, 1) := by decide +kernel
theorem dX4_turn_24 : decode cX4_turn 24 = .ok (.invokevirtual 101, 3) := by decide +kernel
theorem dX4_turn_27 : decode cX4_turn 27 = .ok (.istore 4, 2) := by decide +kernel
theorem dX4_turn_29 : decode cX4_turn 29 = .ok (.aload_n 0, 1) := by decide +kernel
theorem dX4_turn_30 : decode cX4_turn 30 = .ok (.iload_n 1, 1) := by decide +kernel
theorem dX4_turn_31 : decode cX4_turn 31 = .ok (.invokevirtual 93, 3) := by decide +kernel
theorem dX4_turn_34 : decode cX4_turn 34 = .ok (.iload 4, 2) := by decide +kernel
theorem dX4_turn_36 : decode cX4_turn 36 = .ok (.ireturn, 1) := by decide +kernel
set_option maxRecDepth 20000 in
theorem ggX4_add_X4_isSlot : GoodIn wsX4_add wsX4_isSlot := goodIn_r _ [9, 10, 11, 12, 8, 13] (by decide +kernel) (by decide +kernel)
set_option maxRecDepth 20000 in
theorem gX4_add_X4_isSlot : GoodIn wsX4_add (va_wsS RX4 86 yX4_isSlot wsX4_isSlot) := goodIn_app (goodIn_of _ (by decide +kernel)) ggX4_add_X4_isSlot
set_option maxRecDepth 20000 in
theorem ggX4_add_X4_load : GoodIn wsX4_add wsX4_load := goodIn_r _ [17, 2, 18, 3, 19, 4, 5, 46, 47, 48, 49, 50, 51, 52, 53, 54, 55, 56, 57, 58, 59] (by decide +kernel) (by decide +kernel)
set_option maxRecDepth 20000 in
theorem gX4_add_X4_load : GoodIn wsX4_add (wsV RX4 105 RX4 yX4_load wsX4_load) := goodIn_app (goodIn_of _ (by decide +kernel)) ggX4_add_X4_load
set_option maxRecDepth 20000 in
theorem ggX4_add_X4_plus : GoodIn wsX4_add wsX4_plus := goodIn_r _ [23, 5, 18, 19, 1, 24, 25, 26, 8, 27, 28, 29, 30, 31, 32, 33, 34, 35, 36, 37, 38, 39, 40, 41, 46, 47, 48, 49, 50, 51, 52, 53, 54, 55, 56, 57, 58, 59] (by decide +kernel) (by decide +kernel)
set_option maxRecDepth 20000 in
theorem gX4_add_X4_plus : GoodIn wsX4_add (wsV RX4 80 RX4 yX4_plus wsX4_plus) := goodIn_app (goodIn_of _ (by decide +kernel)) ggX4_add_X4_plus
set_option maxRecDepth 20000 in
theorem ggX4_add_X4_store : GoodIn wsX4_add wsX4_store := goodIn_r _ [45, 2, 18, 3, 19, 4, 5, 46, 47, 48, 49, 50, 51, 52, 53, 54, 55, 56, 57, 58, 59] (by decide +kernel) (by decide +kernel)
set_option maxRecDepth 20000 in
theorem gX4_add_X4_store : GoodIn wsX4_add (wsV RX4 93 RX4 yX4_store wsX4_store) := goodIn_app (goodIn_of _ (by decide +kernel)) ggX4_add_X4_store
theorem dX4_add_0 : decode cX4_add 0 = .ok (.aload_n 0, 1) := by decide +kernel
theorem dX4_add_1 : decode cX4_add 1 = .ok (.getfield 28, 3) := by decide +kernel
theorem dX4_add_4 : decode cX4_add 4 = .ok (.lconst 0, 1) := by decide +kernel
theorem dX4_add_5 : decode cX4_add 5 = .ok (.lcmp, 1) := by decide +kernel
theorem dX4_add_6 : decode cX4_add 6 = .ok (.ifCond .ne 6, 3) := by decide +kernel
theorem dX4_add_9 : decode cX4_add 9 = .ok (.bipush (-3), 2) := by decide +kernel
theorem dX4_add_11 : decode cX4_add 11 = .ok (.ireturn, 1) := by decide +kernel
theorem dX4_add_12 : decode cX4_add 12 = .ok (.iload_n 1, 1) := by decide +kernel
theorem dX4_add_13 : decode cX4_add 13 = .ok (.invokestatic 86, 3) := by decide +kernel
theorem dX4_add_16 : decode cX4_add 16 = .ok (.ifCond .eq 17, 3) := by decide +kernel
theorem dX4_add_19 : decode cX4_add 19 = .ok (.iload_n 2, 1) := by decide +kernel
theorem dX4_add_20 : decode cX4_add 20 = .ok (.invokestatic 86, 3) := by decide +kernel
theorem dX4_add_23 : decode cX4_add 23 = .ok (.ifCond .eq 10, 3) := by decide +kernel
theorem dX4_add_26 : decode cX4_add 26 = .ok (.iload_n 3, 1) := by decide +kernel
theorem dX4_add_27 : decode cX4_add 27 = .ok (.invokestatic 86, 3) := by decide +kernel
theorem dX4_add_30 : decode cX4_add 30 = .ok (.ifCond .ne 6, 3) := by decide +kernel
theorem dX4_add_33 : decode cX4_add 33 = .ok (.bipush (-2), 2) := by decide +kernel
theorem dX4_add_35 : decode cX4_add 35 = .ok (.ireturn, 1) := by decide +kernel
theorem dX4_add_36 : decode cX4_add 36 = .ok (.aload_n 0, 1) := by decide +kernel
theorem dX4_add_37 : decode cX4_add 37 = .ok (.iload_n 2, 1) := by decide +kernel
theorem dX4_add_38 : decode cX4_add 38 = .ok (.invokevirtual 105, 3) := by decide +kernel
theorem dX4_add_41 : decode cX4_add 41 = .ok (.aload_n 0, 1) := by decide +kernel
theorem dX4_add_42 : decode cX4_add 42 = .ok (.aload_n 0, 1) := by decide +kernel
theorem dX4_add_43 : decode cX4_add 43 = .ok (.getfield 7, 3) := by decide +kernel
theorem dX4_add_46 : decode cX4_add 46 = .ok (.iload_n 3, 1) := by decide +kernel
theorem dX4_add_47 : decode cX4_add 47 = .ok (.laload, 1) := by decide +kernel
theorem dX4_add_48 : decode cX4_add 48 = .ok (.aload_n 0, 1) := by decide +kernel
theorem dX4_add_49 : decode cX4_add 49 = .ok (.getfield 13, 3) := by decide +kernel
theorem dX4_add_52 : decode cX4_add 52 = .ok (.iload_n 3, 1) := by decide +kernel
theorem dX4_add_53 : decode cX4_add 53 = .ok (.laload, 1) := by decide +kernel
theorem dX4_add_54 : decode cX4_add 54 = .ok (.aload_n 0, 1) := by decide +kernel
theorem dX4_add_55 : decode cX4_add 55 = .ok (.getfield 16, 3) := by decide +kernel
theorem dX4_add_58 : decode cX4_add 58 = .ok (.iload_n 3, 1) := by decide +kernel
theorem dX4_add_59 : decode cX4_add 59 = .ok (.baload, 1) := by decide +kernel
theorem dX4_add_60 : decode cX4_add 60 = .ok (.invokevirtual 80, 3) := by decide +kernel
theorem dX4_add_63 : decode cX4_add 63 = .ok (.aload_n 0, 1) := by decide +kernel
theorem dX4_add_64 : decode cX4_add 64 = .ok (.iload_n 1, 1) := by decide +kernel
theorem dX4_add_65 : decode cX4_add 65 = .ok (.invokevirtual 93, 3) := by decide +kernel
theorem dX4_add_68 : decode cX4_add 68 = .ok (.aload_n 0, 1) := by decide +kernel
theorem dX4_add_69 : decode cX4_add 69 = .ok (.getfield 67, 3) := by decide +kernel
theorem dX4_add_72 : decode cX4_add 72 = .ok (.ifCond .eq 7, 3) := by decide +kernel
theorem dX4_add_75 : decode cX4_add 75 = .ok (.iconst 1, 1) := by decide +kernel
theorem dX4_add_76 : decode cX4_add 76 = .ok (.goto 4, 3) := by decide +kernel
theorem dX4_add_79 : decode cX4_add 79 = .ok (.iconst 0, 1) := by decide +kernel
theorem dX4_add_80 : decode cX4_add 80 = .ok (.ireturn, 1) := by decide +kernel
set_option maxRecDepth 20000 in
theorem ggX4_times_X4_isSlot : GoodIn wsX4_times wsX4_isSlot := goodIn_r _ [7, 8, 9, 10, 6, 11] (by decide +kernel) (by decide +kernel)
set_option maxRecDepth 20000 in
theorem gX4_times_X4_isSlot : GoodIn wsX4_times (va_wsS RX4 86 yX4_isSlot wsX4_isSlot) := goodIn_app (goodIn_of _ (by decide +kernel)) ggX4_times_X4_isSlot
set_option maxRecDepth 20000 in
theorem ggX4_times_X4_load : GoodIn wsX4_times wsX4_load := goodIn_r _ [15, 16, 17, 18, 2, 19, 3, 50, 51, 52, 53, 54, 55, 56, 57, 58, 59, 60, 61, 62, 63] (by decide +kernel) (by decide +kernel)
set_option maxRecDepth 20000 in
theorem gX4_times_X4_load : GoodIn wsX4_times (wsV RX4 105 RX4 yX4_load wsX4_load) := goodIn_app (goodIn_of _ (by decide +kernel)) ggX4_times_X4_load
set_option maxRecDepth 20000 in
theorem ggX4_times_X4_take : GoodIn wsX4_times wsX4_take := goodIn_r _ [23, 17, 2, 3, 24, 25, 26, 6, 27, 1, 28, 29, 30, 31, 32, 33, 34, 35, 36, 37, 38, 39, 40, 41, 42, 43, 44, 45, 50, 51, 52, 53, 54, 55, 56, 57, 58, 59, 60, 61, 62, 63] (by decide +kernel) (by decide +kernel)
set_option maxRecDepth 20000 in
theorem gX4_times_X4_take : GoodIn wsX4_times (wsV RX4 97 RX4 yX4_take wsX4_take) := goodIn_app (goodIn_of _ (by decide +kernel)) ggX4_times_X4_take
set_option maxRecDepth 20000 in
theorem ggX4_times_X4_store : GoodIn wsX4_times wsX4_store := goodIn_r _ [49, 16, 17, 18, 2, 19, 3, 50, 51, 52, 53, 54, 55, 56, 57, 58, 59, 60, 61, 62, 63] (by decide +kernel) (by decide +kernel)
set_option maxRecDepth 20000 in
theorem gX4_times_X4_store : GoodIn wsX4_times (wsV RX4 93 RX4 yX4_store wsX4_store) := goodIn_app (goodIn_of _ (by decide +kernel)) ggX4_times_X4_store
theorem dX4_times_0 : decode cX4_times 0 = .ok (.aload_n 0, 1) := by decide +kernel
theorem dX4_times_1 : decode cX4_times 1 = .ok (.getfield 28, 3) := by decide +kernel
theorem dX4_times_4 : decode cX4_times 4 = .ok (.lconst 0, 1) := by decide +kernel
theorem dX4_times_5 : decode cX4_times 5 = .ok (.lcmp, 1) := by decide +kernel
theorem dX4_times_6 : decode cX4_times 6 = .ok (.ifCond .ne 6, 3) := by decide +kernel
theorem dX4_times_9 : decode cX4_times 9 = .ok (.bipush (-3), 2) := by decide +kernel
theorem dX4_times_11 : decode cX4_times 11 = .ok (.ireturn, 1) := by decide +kernel
theorem dX4_times_12 : decode cX4_times 12 = .ok (.iload_n 1, 1) := by decide +kernel
theorem dX4_times_13 : decode cX4_times 13 = .ok (.invokestatic 86, 3) := by decide +kernel
theorem dX4_times_16 : decode cX4_times 16 = .ok (.ifCond .eq 10, 3) := by decide +kernel
theorem dX4_times_19 : decode cX4_times 19 = .ok (.iload_n 2, 1) := by decide +kernel
theorem dX4_times_20 : decode cX4_times 20 = .ok (.invokestatic 86, 3) := by decide +kernel
theorem dX4_times_23 : decode cX4_times 23 = .ok (.ifCond .ne 6, 3) := by decide +kernel
theorem dX4_times_26 : decode cX4_times 26 = .ok (.bipush (-2), 2) := by decide +kernel
theorem dX4_times_28 : decode cX4_times 28 = .ok (.ireturn, 1) := by decide +kernel
theorem dX4_times_29 : decode cX4_times 29 = .ok (.aload_n 0, 1) := by decide +kernel
theorem dX4_times_30 : decode cX4_times 30 = .ok (.iload_n 2, 1) := by decide +kernel
theorem dX4_times_31 : decode cX4_times 31 = .ok (.invokevirtual 105, 3) := by decide +kernel
theorem dX4_times_34 : decode cX4_times 34 = .ok (.lload_n 3, 1) := by decide +kernel
theorem dX4_times_35 : decode cX4_times 35 = .ok (.lconst 0, 1) := by decide +kernel
theorem dX4_times_36 : decode cX4_times 36 = .ok (.lcmp, 1) := by decide +kernel
theorem dX4_times_37 : decode cX4_times 37 = .ok (.ifCond .ge 21, 3) := by decide +kernel
theorem dX4_times_40 : decode cX4_times 40 = .ok (.aload_n 0, 1) := by decide +kernel
theorem dX4_times_41 : decode cX4_times 41 = .ok (.aload_n 0, 1) := by decide +kernel
theorem dX4_times_42 : decode cX4_times 42 = .ok (.getfield 28, 3) := by decide +kernel
theorem dX4_times_45 : decode cX4_times 45 = .ok (.aload_n 0, 1) := by decide +kernel
theorem dX4_times_46 : decode cX4_times 46 = .ok (.getfield 64, 3) := by decide +kernel
theorem dX4_times_49 : decode cX4_times 49 = .ok (.lsub, 1) := by decide +kernel
theorem dX4_times_50 : decode cX4_times 50 = .ok (.aload_n 0, 1) := by decide +kernel
theorem dX4_times_51 : decode cX4_times 51 = .ok (.getfield 28, 3) := by decide +kernel
theorem dX4_times_54 : decode cX4_times 54 = .ok (.lrem, 1) := by decide +kernel
theorem dX4_times_55 : decode cX4_times 55 = .ok (.putfield 64, 3) := by decide +kernel
theorem dX4_times_58 : decode cX4_times 58 = .ok (.aload_n 0, 1) := by decide +kernel
theorem dX4_times_59 : decode cX4_times 59 = .ok (.lload_n 3, 1) := by decide +kernel
theorem dX4_times_60 : decode cX4_times 60 = .ok (.lconst 0, 1) := by decide +kernel
theorem dX4_times_61 : decode cX4_times 61 = .ok (.lcmp, 1) := by decide +kernel
theorem dX4_times_62 : decode cX4_times 62 = .ok (.ifCond .ge 8, 3) := by decide +kernel
theorem dX4_times_65 : decode cX4_times 65 = .ok (.lload_n 3, 1) := by decide +kernel
theorem dX4_times_66 : decode cX4_times 66 = .ok (.lneg, 1) := by decide +kernel
theorem dX4_times_67 : decode cX4_times 67 = .ok (.goto 4, 3) := by decide +kernel
theorem dX4_times_70 : decode cX4_times 70 = .ok (.lload_n 3, 1) := by decide +kernel
theorem dX4_times_71 : decode cX4_times 71 = .ok (.invokevirtual 97, 3) := by decide +kernel
theorem dX4_times_74 : decode cX4_times 74 = .ok (.aload_n 0, 1) := by decide +kernel
theorem dX4_times_75 : decode cX4_times 75 = .ok (.iload_n 1, 1) := by decide +kernel
theorem dX4_times_76 : decode cX4_times 76 = .ok (.invokevirtual 93, 3) := by decide +kernel
theorem dX4_times_79 : decode cX4_times 79 = .ok (.aload_n 0, 1) := by decide +kernel
theorem dX4_times_80 : decode cX4_times 80 = .ok (.getfield 67, 3) := by decide +kernel
theorem dX4_times_83 : decode cX4_times 83 = .ok (.ifCond .eq 7, 3) := by decide +kernel
theorem dX4_times_86 : decode cX4_times 86 = .ok (.iconst 1, 1) := by decide +kernel
theorem dX4_times_87 : decode cX4_times 87 = .ok (.goto 4, 3) := by decide +kernel
theorem dX4_times_90 : decode cX4_times 90 = .ok (.iconst 0, 1) := by decide +kernel
theorem dX4_times_91 : decode cX4_times 91 = .ok (.ireturn, 1) := by decide +kernel
set_option maxRecDepth 20000 in
theorem ggX4_at_X4_isSlot : GoodIn wsX4_at wsX4_isSlot := goodIn_r _ [8, 9, 10, 11, 7, 12] (by decide +kernel) (by decide +kernel)
set_option maxRecDepth 20000 in
theorem gX4_at_X4_isSlot : GoodIn wsX4_at (va_wsS RX4 86 yX4_isSlot wsX4_isSlot) := goodIn_app (goodIn_of _ (by decide +kernel)) ggX4_at_X4_isSlot
set_option maxRecDepth 20000 in
theorem ggX4_at_X4_in : GoodIn wsX4_at wsX4_in := goodIn_r _ [12] (by decide +kernel) (by decide +kernel)
set_option maxRecDepth 20000 in
theorem gX4_at_X4_in : GoodIn wsX4_at (va_wsS RX4 54 yX4_in wsX4_in) := goodIn_app (goodIn_of _ (by decide +kernel)) ggX4_at_X4_in
theorem dX4_at_0 : decode cX4_at 0 = .ok (.aload_n 0, 1) := by decide +kernel
theorem dX4_at_1 : decode cX4_at 1 = .ok (.getfield 28, 3) := by decide +kernel
theorem dX4_at_4 : decode cX4_at 4 = .ok (.lconst 0, 1) := by decide +kernel
theorem dX4_at_5 : decode cX4_at 5 = .ok (.lcmp, 1) := by decide +kernel
theorem dX4_at_6 : decode cX4_at 6 = .ok (.ifCond .ne 6, 3) := by decide +kernel
theorem dX4_at_9 : decode cX4_at 9 = .ok (.bipush (-3), 2) := by decide +kernel
theorem dX4_at_11 : decode cX4_at 11 = .ok (.ireturn, 1) := by decide +kernel
theorem dX4_at_12 : decode cX4_at 12 = .ok (.iload_n 1, 1) := by decide +kernel
theorem dX4_at_13 : decode cX4_at 13 = .ok (.invokestatic 86, 3) := by decide +kernel
theorem dX4_at_16 : decode cX4_at 16 = .ok (.ifCond .eq 13, 3) := by decide +kernel
theorem dX4_at_19 : decode cX4_at 19 = .ok (.iload_n 2, 1) := by decide +kernel
theorem dX4_at_20 : decode cX4_at 20 = .ok (.i2l, 1) := by decide +kernel
theorem dX4_at_21 : decode cX4_at 21 = .ok (.lconst 0, 1) := by decide +kernel
theorem dX4_at_22 : decode cX4_at 22 = .ok (.lconst 1, 1) := by decide +kernel
theorem dX4_at_23 : decode cX4_at 23 = .ok (.invokestatic 54, 3) := by decide +kernel
theorem dX4_at_26 : decode cX4_at 26 = .ok (.ifCond .ne 6, 3) := by decide +kernel
theorem dX4_at_29 : decode cX4_at 29 = .ok (.bipush (-2), 2) := by decide +kernel
theorem dX4_at_31 : decode cX4_at 31 = .ok (.ireturn, 1) := by decide +kernel
theorem dX4_at_32 : decode cX4_at 32 = .ok (.aload_n 0, 1) := by decide +kernel
theorem dX4_at_33 : decode cX4_at 33 = .ok (.getfield 16, 3) := by decide +kernel
theorem dX4_at_36 : decode cX4_at 36 = .ok (.iload_n 1, 1) := by decide +kernel
theorem dX4_at_37 : decode cX4_at 37 = .ok (.baload, 1) := by decide +kernel
theorem dX4_at_38 : decode cX4_at 38 = .ok (.ifCond .ne 7, 3) := by decide +kernel
theorem dX4_at_41 : decode cX4_at 41 = .ok (.iconst (-1), 1) := by decide +kernel
theorem dX4_at_42 : decode cX4_at 42 = .ok (.goto 23, 3) := by decide +kernel
theorem dX4_at_45 : decode cX4_at 45 = .ok (.iload_n 2, 1) := by decide +kernel
theorem dX4_at_46 : decode cX4_at 46 = .ok (.ifCond .ne 12, 3) := by decide +kernel
theorem dX4_at_49 : decode cX4_at 49 = .ok (.aload_n 0, 1) := by decide +kernel
theorem dX4_at_50 : decode cX4_at 50 = .ok (.getfield 7, 3) := by decide +kernel
theorem dX4_at_53 : decode cX4_at 53 = .ok (.iload_n 1, 1) := by decide +kernel
theorem dX4_at_54 : decode cX4_at 54 = .ok (.laload, 1) := by decide +kernel
theorem dX4_at_55 : decode cX4_at 55 = .ok (.goto 9, 3) := by decide +kernel
theorem dX4_at_58 : decode cX4_at 58 = .ok (.aload_n 0, 1) := by decide +kernel
theorem dX4_at_59 : decode cX4_at 59 = .ok (.getfield 13, 3) := by decide +kernel
theorem dX4_at_62 : decode cX4_at 62 = .ok (.iload_n 1, 1) := by decide +kernel
theorem dX4_at_63 : decode cX4_at 63 = .ok (.laload, 1) := by decide +kernel
theorem dX4_at_64 : decode cX4_at 64 = .ok (.l2i, 1) := by decide +kernel
theorem dX4_at_65 : decode cX4_at 65 = .ok (.ireturn, 1) := by decide +kernel
set_option maxRecDepth 20000 in
theorem ggX4_order_X4_isSlot : GoodIn wsX4_order wsX4_isSlot := goodIn_r _ [7, 8, 9, 10, 6, 11] (by decide +kernel) (by decide +kernel)
set_option maxRecDepth 20000 in
theorem gX4_order_X4_isSlot : GoodIn wsX4_order (va_wsS RX4 86 yX4_isSlot wsX4_isSlot) := goodIn_app (goodIn_of _ (by decide +kernel)) ggX4_order_X4_isSlot
set_option maxRecDepth 20000 in
theorem ggX4_order_X4_load : GoodIn wsX4_order wsX4_load := goodIn_r _ [15, 16, 17, 18, 19, 20, 3, 46, 47, 48, 49, 50, 51, 52, 53, 54, 55, 56, 57, 58, 59] (by decide +kernel) (by decide +kernel)
set_option maxRecDepth 20000 in
theorem gX4_order_X4_load : GoodIn wsX4_order (wsV RX4 105 RX4 yX4_load wsX4_load) := goodIn_app (goodIn_of _ (by decide +kernel)) ggX4_order_X4_load
set_option maxRecDepth 20000 in
theorem ggX4_order_X4_take : GoodIn wsX4_order wsX4_take := goodIn_r _ [24, 17, 19, 3, 25, 26, 27, 6, 28, 1, 29, 30, 31, 32, 33, 2, 34, 35, 36, 37, 38, 39, 40, 41, 42, 43, 44, 45, 46, 47, 48, 49, 50, 51, 52, 53, 54, 55, 56, 57, 58, 59] (by decide +kernel) (by decide +kernel)
set_option maxRecDepth 20000 in
theorem gX4_order_X4_take : GoodIn wsX4_order (wsV RX4 97 RX4 yX4_take wsX4_take) := goodIn_app (goodIn_of _ (by decide +kernel)) ggX4_order_X4_take
theorem dX4_order_0 : decode cX4_order 0 = .ok (.aload_n 0, 1) := by decide +kernel
theorem dX4_order_1 : decode cX4_order 1 = .ok (.getfield 28, 3) := by decide +kernel
theorem dX4_order_4 : decode cX4_order 4 = .ok (.lconst 0, 1) := by decide +kernel
theorem dX4_order_5 : decode cX4_order 5 = .ok (.lcmp, 1) := by decide +kernel
theorem dX4_order_6 : decode cX4_order 6 = .ok (.ifCond .ne 6, 3) := by decide +kernel
theorem dX4_order_9 : decode cX4_order 9 = .ok (.bipush (-3), 2) := by decide +kernel
theorem dX4_order_11 : decode cX4_order 11 = .ok (.ireturn, 1) := by decide +kernel
theorem dX4_order_12 : decode cX4_order 12 = .ok (.iload_n 1, 1) := by decide +kernel
theorem dX4_order_13 : decode cX4_order 13 = .ok (.invokestatic 86, 3) := by decide +kernel
theorem dX4_order_16 : decode cX4_order 16 = .ok (.ifCond .ne 6, 3) := by decide +kernel
theorem dX4_order_19 : decode cX4_order 19 = .ok (.bipush (-2), 2) := by decide +kernel
theorem dX4_order_21 : decode cX4_order 21 = .ok (.ireturn, 1) := by decide +kernel
theorem dX4_order_22 : decode cX4_order 22 = .ok (.aload_n 0, 1) := by decide +kernel
theorem dX4_order_23 : decode cX4_order 23 = .ok (.getfield 28, 3) := by decide +kernel
theorem dX4_order_26 : decode cX4_order 26 = .ok (.lconst 1, 1) := by decide +kernel
theorem dX4_order_27 : decode cX4_order 27 = .ok (.ladd, 1) := by decide +kernel
theorem dX4_order_28 : decode cX4_order 28 = .ok (.lstore_n 2, 1) := by decide +kernel
theorem dX4_order_29 : decode cX4_order 29 = .ok (.lload_n 2, 1) := by decide +kernel
theorem dX4_order_30 : decode cX4_order 30 = .ok (.lstore 4, 2) := by decide +kernel
theorem dX4_order_32 : decode cX4_order 32 = .ok (.ldc2_w 26, 3) := by decide +kernel
theorem dX4_order_35 : decode cX4_order 35 = .ok (.lstore 6, 2) := by decide +kernel
theorem dX4_order_37 : decode cX4_order 37 = .ok (.lload 4, 2) := by decide +kernel
theorem dX4_order_39 : decode cX4_order 39 = .ok (.lconst 1, 1) := by decide +kernel
theorem dX4_order_40 : decode cX4_order 40 = .ok (.lcmp, 1) := by decide +kernel
theorem dX4_order_41 : decode cX4_order 41 = .ok (.ifCond .le 81, 3) := by decide +kernel
theorem dX4_order_44 : decode cX4_order 44 = .ok (.lload 6, 2) := by decide +kernel
theorem dX4_order_46 : decode cX4_order 46 = .ok (.lload 6, 2) := by decide +kernel
theorem dX4_order_48 : decode cX4_order 48 = .ok (.lmul, 1) := by decide +kernel
theorem dX4_order_49 : decode cX4_order 49 = .ok (.lload 4, 2) := by decide +kernel
theorem dX4_order_51 : decode cX4_order 51 = .ok (.lcmp, 1) := by decide +kernel
theorem dX4_order_52 : decode cX4_order 52 = .ok (.ifCond .le 8, 3) := by decide +kernel
theorem dX4_order_55 : decode cX4_order 55 = .ok (.lload 4, 2) := by decide +kernel
theorem dX4_order_57 : decode cX4_order 57 = .ok (.goto 5, 3) := by decide +kernel
theorem dX4_order_60 : decode cX4_order 60 = .ok (.lload 6, 2) := by decide +kernel
theorem dX4_order_62 : decode cX4_order 62 = .ok (.lstore 8, 2) := by decide +kernel
theorem dX4_order_64 : decode cX4_order 64 = .ok (.lload 4, 2) := by decide +kernel
theorem dX4_order_66 : decode cX4_order 66 = .ok (.lload 8, 2) := by decide +kernel
theorem dX4_order_68 : decode cX4_order 68 = .ok (.lrem, 1) := by decide +kernel
theorem dX4_order_69 : decode cX4_order 69 = .ok (.lconst 0, 1) := by decide +kernel
theorem dX4_order_70 : decode cX4_order 70 = .ok (.lcmp, 1) := by decide +kernel
theorem dX4_order_71 : decode cX4_order 71 = .ok (.ifCond .ne 42, 3) := by decide +kernel
theorem dX4_order_74 : decode cX4_order 74 = .ok (.lload 4, 2) := by decide +kernel
theorem dX4_order_76 : decode cX4_order 76 = .ok (.lload 8, 2) := by decide +kernel
theorem dX4_order_78 : decode cX4_order 78 = .ok (.ldiv, 1) := by decide +kernel
theorem dX4_order_79 : decode cX4_order 79 = .ok (.lstore 4, 2) := by decide +kernel
theorem dX4_order_81 : decode cX4_order 81 = .ok (.aload_n 0, 1) := by decide +kernel
theorem dX4_order_82 : decode cX4_order 82 = .ok (.iload_n 1, 1) := by decide +kernel
theorem dX4_order_83 : decode cX4_order 83 = .ok (.invokevirtual 105, 3) := by decide +kernel
theorem dX4_order_86 : decode cX4_order 86 = .ok (.aload_n 0, 1) := by decide +kernel
theorem dX4_order_87 : decode cX4_order 87 = .ok (.lload_n 2, 1) := by decide +kernel
theorem dX4_order_88 : decode cX4_order 88 = .ok (.lload 8, 2) := by decide +kernel
theorem dX4_order_90 : decode cX4_order 90 = .ok (.ldiv, 1) := by decide +kernel
theorem dX4_order_91 : decode cX4_order 91 = .ok (.invokevirtual 97, 3) := by decide +kernel
theorem dX4_order_94 : decode cX4_order 94 = .ok (.aload_n 0, 1) := by decide +kernel
theorem dX4_order_95 : decode cX4_order 95 = .ok (.getfield 67, 3) := by decide +kernel
theorem dX4_order_98 : decode cX4_order 98 = .ok (.ifCond .eq 7, 3) := by decide +kernel
theorem dX4_order_101 : decode cX4_order 101 = .ok (.lload_n 2, 1) := by decide +kernel
theorem dX4_order_102 : decode cX4_order 102 = .ok (.goto 7, 3) := by decide +kernel
theorem dX4_order_105 : decode cX4_order 105 = .ok (.lload_n 2, 1) := by decide +kernel
theorem dX4_order_106 : decode cX4_order 106 = .ok (.lload 8, 2) := by decide +kernel
theorem dX4_order_108 : decode cX4_order 108 = .ok (.ldiv, 1) := by decide +kernel
theorem dX4_order_109 : decode cX4_order 109 = .ok (.lstore_n 2, 1) := by decide +kernel
theorem dX4_order_110 : decode cX4_order 110 = .ok (.goto (-46), 3) := by decide +kernel
theorem dX4_order_113 : decode cX4_order 113 = .ok (.lload 6, 2) := by decide +kernel
theorem dX4_order_115 : decode cX4_order 115 = .ok (.lconst 1, 1) := by decide +kernel
theorem dX4_order_116 : decode cX4_order 116 = .ok (.ladd, 1) := by decide +kernel
theorem dX4_order_117 : decode cX4_order 117 = .ok (.lstore 6, 2) := by decide +kernel
theorem dX4_order_119 : decode cX4_order 119 = .ok (.goto (-82), 3) := by decide +kernel
theorem dX4_order_122 : decode cX4_order 122 = .ok (.lload_n 2, 1) := by decide +kernel
theorem dX4_order_123 : decode cX4_order 123 = .ok (.l2i, 1) := by decide +kernel
theorem dX4_order_124 : decode cX4_order 124 = .ok (.ireturn, 1) := by decide +kernel
theorem dX4_written_0 : decode cX4_written 0 = .ok (.aload_n 0, 1) := by decide +kernel
theorem dX4_written_1 : decode cX4_written 1 = .ok (.getfield 16, 3) := by decide +kernel
theorem dX4_written_4 : decode cX4_written 4 = .ok (.iload_n 1, 1) := by decide +kernel
theorem dX4_written_5 : decode cX4_written 5 = .ok (.baload, 1) := by decide +kernel
theorem dX4_written_6 : decode cX4_written 6 = .ok (.ifCond .eq 25, 3) := by decide +kernel
theorem dX4_written_9 : decode cX4_written 9 = .ok (.ldc2_w 26, 3) := by decide +kernel
theorem dX4_written_12 : decode cX4_written 12 = .ok (.aload_n 0, 1) := by decide +kernel
theorem dX4_written_13 : decode cX4_written 13 = .ok (.getfield 7, 3) := by decide +kernel
theorem dX4_written_16 : decode cX4_written 16 = .ok (.iload_n 1, 1) := by decide +kernel
theorem dX4_written_17 : decode cX4_written 17 = .ok (.laload, 1) := by decide +kernel
theorem dX4_written_18 : decode cX4_written 18 = .ok (.lmul, 1) := by decide +kernel
theorem dX4_written_19 : decode cX4_written 19 = .ok (.aload_n 0, 1) := by decide +kernel
theorem dX4_written_20 : decode cX4_written 20 = .ok (.getfield 13, 3) := by decide +kernel
theorem dX4_written_23 : decode cX4_written 23 = .ok (.iload_n 1, 1) := by decide +kernel
theorem dX4_written_24 : decode cX4_written 24 = .ok (.laload, 1) := by decide +kernel
theorem dX4_written_25 : decode cX4_written 25 = .ok (.lconst 1, 1) := by decide +kernel
theorem dX4_written_26 : decode cX4_written 26 = .ok (.land, 1) := by decide +kernel
theorem dX4_written_27 : decode cX4_written 27 = .ok (.ladd, 1) := by decide +kernel
theorem dX4_written_28 : decode cX4_written 28 = .ok (.goto 6, 3) := by decide +kernel
theorem dX4_written_31 : decode cX4_written 31 = .ok (.ldc2_w 42, 3) := by decide +kernel
theorem dX4_written_34 : decode cX4_written 34 = .ok (.lreturn, 1) := by decide +kernel
set_option maxRecDepth 20000 in
theorem ggX4_write_X4_isSlot : GoodIn wsX4_write wsX4_isSlot := goodIn_r _ [7, 8, 9, 10, 6, 11] (by decide +kernel) (by decide +kernel)
set_option maxRecDepth 20000 in
theorem gX4_write_X4_isSlot : GoodIn wsX4_write (va_wsS RX4 86 yX4_isSlot wsX4_isSlot) := goodIn_app (goodIn_of _ (by decide +kernel)) ggX4_write_X4_isSlot
set_option maxRecDepth 20000 in
theorem ggX4_write_X4_written : GoodIn wsX4_write wsX4_written := goodIn_r _ [15, 16, 17, 18, 19, 20, 21, 22, 23, 24, 25, 26, 27, 28, 29, 30, 31, 32, 33, 34] (by decide +kernel) (by decide +kernel)
set_option maxRecDepth 20000 in
theorem gX4_write_X4_written : GoodIn wsX4_write (wsV RX4 110 RX4 yX4_written wsX4_written) := goodIn_app (goodIn_of _ (by decide +kernel)) ggX4_write_X4_written
theorem dX4_write_0 : decode cX4_write 0 = .ok (.aload_n 0, 1) := by decide +kernel
theorem dX4_write_1 : decode cX4_write 1 = .ok (.getfield 28, 3) := by decide +kernel
theorem dX4_write_4 : decode cX4_write 4 = .ok (.lconst 0, 1) := by decide +kernel
theorem dX4_write_5 : decode cX4_write 5 = .ok (.lcmp, 1) := by decide +kernel
theorem dX4_write_6 : decode cX4_write 6 = .ok (.ifCond .ne 7, 3) := by decide +kernel
theorem dX4_write_9 : decode cX4_write 9 = .ok (.ldc2_w 108, 3) := by decide +kernel
end
section
theorem dX4_write_12 : decode cX4_write 12 = .ok (.lreturn, 1) := by decide +kernel
theorem dX4_write_13 : decode cX4_write 13 = .ok (.iload_n 1, 1) := by decide +kernel
theorem dX4_write_14 : decode cX4_write 14 = .ok (.invokestatic 86, 3) := by decide +kernel
theorem dX4_write_17 : decode cX4_write 17 = .ok (.ifCond .eq 11, 3) := by decide +kernel
theorem dX4_write_20 : decode cX4_write 20 = .ok (.aload_n 0, 1) := by decide +kernel
theorem dX4_write_21 : decode cX4_write 21 = .ok (.iload_n 1, 1) := by decide +kernel
theorem dX4_write_22 : decode cX4_write 22 = .ok (.invokevirtual 110, 3) := by decide +kernel
theorem dX4_write_25 : decode cX4_write 25 = .ok (.goto 6, 3) := by decide +kernel
theorem dX4_write_28 : decode cX4_write 28 = .ok (.ldc2_w 114, 3) := by decide +kernel
theorem dX4_write_31 : decode cX4_write 31 = .ok (.lreturn, 1) := by decide +kernel
set_option maxRecDepth 20000 in
theorem ggX4_read_X4_isSlot : GoodIn wsX4_read wsX4_isSlot := goodIn_r _ [10, 11, 12, 13, 9, 14] (by decide +kernel) (by decide +kernel)
set_option maxRecDepth 20000 in
theorem gX4_read_X4_isSlot : GoodIn wsX4_read (va_wsS RX4 86 yX4_isSlot wsX4_isSlot) := goodIn_app (goodIn_of _ (by decide +kernel)) ggX4_read_X4_isSlot
set_option maxRecDepth 20000 in
theorem ggX4_read_X4_curve : GoodIn wsX4_read wsX4_curve := goodIn_r _ [18, 1, 32, 33, 34, 35, 36, 37, 38, 39, 40, 41, 42, 43, 44, 45] (by decide +kernel) (by decide +kernel)
set_option maxRecDepth 20000 in
theorem gX4_read_X4_curve : GoodIn wsX4_read (wsV RX4 90 RX4 yX4_curve wsX4_curve) := goodIn_app (goodIn_of _ (by decide +kernel)) ggX4_read_X4_curve
set_option maxRecDepth 20000 in
theorem ggX4_read_X4_rootOf : GoodIn wsX4_read wsX4_rootOf := goodIn_r _ [22, 1, 23, 2, 24, 25, 26, 9, 27, 28, 29, 30, 31, 32, 33, 34, 35, 36, 37, 38, 39, 40, 41, 42, 43, 44, 45] (by decide +kernel) (by decide +kernel)
set_option maxRecDepth 20000 in
theorem gX4_read_X4_rootOf : GoodIn wsX4_read (wsV RX4 58 RX4 yX4_rootOf wsX4_rootOf) := goodIn_app (goodIn_of _ (by decide +kernel)) ggX4_read_X4_rootOf
theorem dX4_read_0 : decode cX4_read 0 = .ok (.aload_n 0, 1) := by decide +kernel
theorem dX4_read_1 : decode cX4_read 1 = .ok (.getfield 28, 3) := by decide +kernel
theorem dX4_read_4 : decode cX4_read 4 = .ok (.lconst 0, 1) := by decide +kernel
theorem dX4_read_5 : decode cX4_read 5 = .ok (.lcmp, 1) := by decide +kernel
theorem dX4_read_6 : decode cX4_read 6 = .ok (.ifCond .ne 6, 3) := by decide +kernel
theorem dX4_read_9 : decode cX4_read 9 = .ok (.bipush (-3), 2) := by decide +kernel
theorem dX4_read_11 : decode cX4_read 11 = .ok (.ireturn, 1) := by decide +kernel
theorem dX4_read_12 : decode cX4_read 12 = .ok (.iload_n 1, 1) := by decide +kernel
theorem dX4_read_13 : decode cX4_read 13 = .ok (.invokestatic 86, 3) := by decide +kernel
theorem dX4_read_16 : decode cX4_read 16 = .ok (.ifCond .ne 6, 3) := by decide +kernel
theorem dX4_read_19 : decode cX4_read 19 = .ok (.bipush (-2), 2) := by decide +kernel
theorem dX4_read_21 : decode cX4_read 21 = .ok (.ireturn, 1) := by decide +kernel
theorem dX4_read_22 : decode cX4_read 22 = .ok (.lload_n 2, 1) := by decide +kernel
theorem dX4_read_23 : decode cX4_read 23 = .ok (.ldc2_w 42, 3) := by decide +kernel
theorem dX4_read_26 : decode cX4_read 26 = .ok (.lcmp, 1) := by decide +kernel
theorem dX4_read_27 : decode cX4_read 27 = .ok (.ifCond .ne 12, 3) := by decide +kernel
theorem dX4_read_30 : decode cX4_read 30 = .ok (.aload_n 0, 1) := by decide +kernel
theorem dX4_read_31 : decode cX4_read 31 = .ok (.getfield 16, 3) := by decide +kernel
theorem dX4_read_34 : decode cX4_read 34 = .ok (.iload_n 1, 1) := by decide +kernel
theorem dX4_read_35 : decode cX4_read 35 = .ok (.iconst 0, 1) := by decide +kernel
theorem dX4_read_36 : decode cX4_read 36 = .ok (.bastore, 1) := by decide +kernel
theorem dX4_read_37 : decode cX4_read 37 = .ok (.iconst 1, 1) := by decide +kernel
theorem dX4_read_38 : decode cX4_read 38 = .ok (.ireturn, 1) := by decide +kernel
theorem dX4_read_39 : decode cX4_read 39 = .ok (.lload_n 2, 1) := by decide +kernel
theorem dX4_read_40 : decode cX4_read 40 = .ok (.lconst 0, 1) := by decide +kernel
theorem dX4_read_41 : decode cX4_read 41 = .ok (.lcmp, 1) := by decide +kernel
theorem dX4_read_42 : decode cX4_read 42 = .ok (.ifCond .lt 16, 3) := by decide +kernel
theorem dX4_read_45 : decode cX4_read 45 = .ok (.lload_n 2, 1) := by decide +kernel
theorem dX4_read_46 : decode cX4_read 46 = .ok (.ldc2_w 26, 3) := by decide +kernel
theorem dX4_read_49 : decode cX4_read 49 = .ok (.ldiv, 1) := by decide +kernel
theorem dX4_read_50 : decode cX4_read 50 = .ok (.aload_n 0, 1) := by decide +kernel
theorem dX4_read_51 : decode cX4_read 51 = .ok (.getfield 28, 3) := by decide +kernel
theorem dX4_read_54 : decode cX4_read 54 = .ok (.lcmp, 1) := by decide +kernel
theorem dX4_read_55 : decode cX4_read 55 = .ok (.ifCond .lt 5, 3) := by decide +kernel
theorem dX4_read_58 : decode cX4_read 58 = .ok (.iconst (-1), 1) := by decide +kernel
theorem dX4_read_59 : decode cX4_read 59 = .ok (.ireturn, 1) := by decide +kernel
theorem dX4_read_60 : decode cX4_read 60 = .ok (.aload_n 0, 1) := by decide +kernel
theorem dX4_read_61 : decode cX4_read 61 = .ok (.aload_n 0, 1) := by decide +kernel
theorem dX4_read_62 : decode cX4_read 62 = .ok (.lload_n 2, 1) := by decide +kernel
theorem dX4_read_63 : decode cX4_read 63 = .ok (.ldc2_w 26, 3) := by decide +kernel
theorem dX4_read_66 : decode cX4_read 66 = .ok (.ldiv, 1) := by decide +kernel
theorem dX4_read_67 : decode cX4_read 67 = .ok (.invokevirtual 90, 3) := by decide +kernel
theorem dX4_read_70 : decode cX4_read 70 = .ok (.invokevirtual 58, 3) := by decide +kernel
theorem dX4_read_73 : decode cX4_read 73 = .ok (.lstore 4, 2) := by decide +kernel
theorem dX4_read_75 : decode cX4_read 75 = .ok (.lload_n 2, 1) := by decide +kernel
theorem dX4_read_76 : decode cX4_read 76 = .ok (.lconst 1, 1) := by decide +kernel
theorem dX4_read_77 : decode cX4_read 77 = .ok (.land, 1) := by decide +kernel
theorem dX4_read_78 : decode cX4_read 78 = .ok (.lconst 1, 1) := by decide +kernel
theorem dX4_read_79 : decode cX4_read 79 = .ok (.lcmp, 1) := by decide +kernel
theorem dX4_read_80 : decode cX4_read 80 = .ok (.ifCond .ne 7, 3) := by decide +kernel
theorem dX4_read_83 : decode cX4_read 83 = .ok (.iconst 1, 1) := by decide +kernel
theorem dX4_read_84 : decode cX4_read 84 = .ok (.goto 4, 3) := by decide +kernel
theorem dX4_read_87 : decode cX4_read 87 = .ok (.iconst 0, 1) := by decide +kernel
theorem dX4_read_88 : decode cX4_read 88 = .ok (.istore 6, 2) := by decide +kernel
theorem dX4_read_90 : decode cX4_read 90 = .ok (.lload 4, 2) := by decide +kernel
theorem dX4_read_92 : decode cX4_read 92 = .ok (.lconst 0, 1) := by decide +kernel
theorem dX4_read_93 : decode cX4_read 93 = .ok (.lcmp, 1) := by decide +kernel
theorem dX4_read_94 : decode cX4_read 94 = .ok (.ifCond .lt 15, 3) := by decide +kernel
theorem dX4_read_97 : decode cX4_read 97 = .ok (.lload 4, 2) := by decide +kernel
theorem dX4_read_99 : decode cX4_read 99 = .ok (.lconst 0, 1) := by decide +kernel
theorem dX4_read_100 : decode cX4_read 100 = .ok (.lcmp, 1) := by decide +kernel
theorem dX4_read_101 : decode cX4_read 101 = .ok (.ifCond .ne 10, 3) := by decide +kernel
theorem dX4_read_104 : decode cX4_read 104 = .ok (.iload 6, 2) := by decide +kernel
theorem dX4_read_106 : decode cX4_read 106 = .ok (.ifCond .eq 5, 3) := by decide +kernel
theorem dX4_read_109 : decode cX4_read 109 = .ok (.iconst (-1), 1) := by decide +kernel
theorem dX4_read_110 : decode cX4_read 110 = .ok (.ireturn, 1) := by decide +kernel
theorem dX4_read_111 : decode cX4_read 111 = .ok (.aload_n 0, 1) := by decide +kernel
theorem dX4_read_112 : decode cX4_read 112 = .ok (.getfield 7, 3) := by decide +kernel
theorem dX4_read_115 : decode cX4_read 115 = .ok (.iload_n 1, 1) := by decide +kernel
theorem dX4_read_116 : decode cX4_read 116 = .ok (.lload_n 2, 1) := by decide +kernel
theorem dX4_read_117 : decode cX4_read 117 = .ok (.ldc2_w 26, 3) := by decide +kernel
theorem dX4_read_120 : decode cX4_read 120 = .ok (.ldiv, 1) := by decide +kernel
theorem dX4_read_121 : decode cX4_read 121 = .ok (.lastore, 1) := by decide +kernel
theorem dX4_read_122 : decode cX4_read 122 = .ok (.aload_n 0, 1) := by decide +kernel
theorem dX4_read_123 : decode cX4_read 123 = .ok (.getfield 13, 3) := by decide +kernel
theorem dX4_read_126 : decode cX4_read 126 = .ok (.iload_n 1, 1) := by decide +kernel
theorem dX4_read_127 : decode cX4_read 127 = .ok (.iload 6, 2) := by decide +kernel
theorem dX4_read_129 : decode cX4_read 129 = .ok (.ifCond .eq 13, 3) := by decide +kernel
theorem dX4_read_132 : decode cX4_read 132 = .ok (.aload_n 0, 1) := by decide +kernel
theorem dX4_read_133 : decode cX4_read 133 = .ok (.getfield 28, 3) := by decide +kernel
theorem dX4_read_136 : decode cX4_read 136 = .ok (.lload 4, 2) := by decide +kernel
theorem dX4_read_138 : decode cX4_read 138 = .ok (.lsub, 1) := by decide +kernel
theorem dX4_read_139 : decode cX4_read 139 = .ok (.goto 5, 3) := by decide +kernel
theorem dX4_read_142 : decode cX4_read 142 = .ok (.lload 4, 2) := by decide +kernel
theorem dX4_read_144 : decode cX4_read 144 = .ok (.lastore, 1) := by decide +kernel
theorem dX4_read_145 : decode cX4_read 145 = .ok (.aload_n 0, 1) := by decide +kernel
theorem dX4_read_146 : decode cX4_read 146 = .ok (.getfield 16, 3) := by decide +kernel
theorem dX4_read_149 : decode cX4_read 149 = .ok (.iload_n 1, 1) := by decide +kernel
theorem dX4_read_150 : decode cX4_read 150 = .ok (.iconst 1, 1) := by decide +kernel
theorem dX4_read_151 : decode cX4_read 151 = .ok (.bastore, 1) := by decide +kernel
theorem dX4_read_152 : decode cX4_read 152 = .ok (.iconst 1, 1) := by decide +kernel
theorem dX4_read_153 : decode cX4_read 153 = .ok (.ireturn, 1) := by decide +kernel
theorem dX4_multiply2_0 : decode cX4_multiply2 0 = .ok (.aload_n 0, 1) := by decide +kernel
theorem dX4_multiply2_1 : decode cX4_multiply2 1 = .ok (.getfield 116, 3) := by decide +kernel
theorem dX4_multiply2_4 : decode cX4_multiply2 4 = .ok (.lload_n 1, 1) := by decide +kernel
theorem dX4_multiply2_5 : decode cX4_multiply2 5 = .ok (.lmul, 1) := by decide +kernel
theorem dX4_multiply2_6 : decode cX4_multiply2 6 = .ok (.aload_n 0, 1) := by decide +kernel
theorem dX4_multiply2_7 : decode cX4_multiply2 7 = .ok (.getfield 28, 3) := by decide +kernel
theorem dX4_multiply2_10 : decode cX4_multiply2 10 = .ok (.lrem, 1) := by decide +kernel
theorem dX4_multiply2_11 : decode cX4_multiply2 11 = .ok (.aload_n 0, 1) := by decide +kernel
theorem dX4_multiply2_12 : decode cX4_multiply2 12 = .ok (.getfield 28, 3) := by decide +kernel
theorem dX4_multiply2_15 : decode cX4_multiply2 15 = .ok (.ladd, 1) := by decide +kernel
theorem dX4_multiply2_16 : decode cX4_multiply2 16 = .ok (.aload_n 0, 1) := by decide +kernel
theorem dX4_multiply2_17 : decode cX4_multiply2 17 = .ok (.getfield 119, 3) := by decide +kernel
theorem dX4_multiply2_20 : decode cX4_multiply2 20 = .ok (.lload_n 3, 1) := by decide +kernel
theorem dX4_multiply2_21 : decode cX4_multiply2 21 = .ok (.lmul, 1) := by decide +kernel
theorem dX4_multiply2_22 : decode cX4_multiply2 22 = .ok (.aload_n 0, 1) := by decide +kernel
theorem dX4_multiply2_23 : decode cX4_multiply2 23 = .ok (.getfield 28, 3) := by decide +kernel
theorem dX4_multiply2_26 : decode cX4_multiply2 26 = .ok (.lrem, 1) := by decide +kernel
theorem dX4_multiply2_27 : decode cX4_multiply2 27 = .ok (.lsub, 1) := by decide +kernel
theorem dX4_multiply2_28 : decode cX4_multiply2 28 = .ok (.aload_n 0, 1) := by decide +kernel
theorem dX4_multiply2_29 : decode cX4_multiply2 29 = .ok (.getfield 28, 3) := by decide +kernel
theorem dX4_multiply2_32 : decode cX4_multiply2 32 = .ok (.lrem, 1) := by decide +kernel
theorem dX4_multiply2_33 : decode cX4_multiply2 33 = .ok (.lstore 5, 2) := by decide +kernel
theorem dX4_multiply2_35 : decode cX4_multiply2 35 = .ok (.aload_n 0, 1) := by decide +kernel
theorem dX4_multiply2_36 : decode cX4_multiply2 36 = .ok (.aload_n 0, 1) := by decide +kernel
theorem dX4_multiply2_37 : decode cX4_multiply2 37 = .ok (.getfield 116, 3) := by decide +kernel
theorem dX4_multiply2_40 : decode cX4_multiply2 40 = .ok (.lload_n 3, 1) := by decide +kernel
theorem dX4_multiply2_41 : decode cX4_multiply2 41 = .ok (.lmul, 1) := by decide +kernel
theorem dX4_multiply2_42 : decode cX4_multiply2 42 = .ok (.aload_n 0, 1) := by decide +kernel
theorem dX4_multiply2_43 : decode cX4_multiply2 43 = .ok (.getfield 28, 3) := by decide +kernel
theorem dX4_multiply2_46 : decode cX4_multiply2 46 = .ok (.lrem, 1) := by decide +kernel
theorem dX4_multiply2_47 : decode cX4_multiply2 47 = .ok (.aload_n 0, 1) := by decide +kernel
theorem dX4_multiply2_48 : decode cX4_multiply2 48 = .ok (.getfield 119, 3) := by decide +kernel
theorem dX4_multiply2_51 : decode cX4_multiply2 51 = .ok (.lload_n 1, 1) := by decide +kernel
theorem dX4_multiply2_52 : decode cX4_multiply2 52 = .ok (.lmul, 1) := by decide +kernel
theorem dX4_multiply2_53 : decode cX4_multiply2 53 = .ok (.aload_n 0, 1) := by decide +kernel
theorem dX4_multiply2_54 : decode cX4_multiply2 54 = .ok (.getfield 28, 3) := by decide +kernel
theorem dX4_multiply2_57 : decode cX4_multiply2 57 = .ok (.lrem, 1) := by decide +kernel
theorem dX4_multiply2_58 : decode cX4_multiply2 58 = .ok (.ladd, 1) := by decide +kernel
theorem dX4_multiply2_59 : decode cX4_multiply2 59 = .ok (.aload_n 0, 1) := by decide +kernel
theorem dX4_multiply2_60 : decode cX4_multiply2 60 = .ok (.getfield 28, 3) := by decide +kernel
theorem dX4_multiply2_63 : decode cX4_multiply2 63 = .ok (.lrem, 1) := by decide +kernel
theorem dX4_multiply2_64 : decode cX4_multiply2 64 = .ok (.putfield 119, 3) := by decide +kernel
theorem dX4_multiply2_67 : decode cX4_multiply2 67 = .ok (.aload_n 0, 1) := by decide +kernel
theorem dX4_multiply2_68 : decode cX4_multiply2 68 = .ok (.lload 5, 2) := by decide +kernel
theorem dX4_multiply2_70 : decode cX4_multiply2 70 = .ok (.putfield 116, 3) := by decide +kernel
theorem dX4_multiply2_73 : decode cX4_multiply2 73 = .ok (.return_, 1) := by decide +kernel
set_option maxRecDepth 20000 in
theorem ggX4_power2_X4_multiply2 : GoodIn wsX4_power2 wsX4_multiply2 := goodIn_r _ [7, 1, 8, 2, 9, 10, 11, 12, 13, 14, 15, 16, 17, 18, 19, 20, 21, 22] (by decide +kernel) (by decide +kernel)
set_option maxRecDepth 20000 in
theorem gX4_power2_X4_multiply2 : GoodIn wsX4_power2 (wsV RX4 122 RX4 yX4_multiply2 wsX4_multiply2) := goodIn_app (goodIn_of _ (by decide +kernel)) ggX4_power2_X4_multiply2
theorem dX4_power2_0 : decode cX4_power2 0 = .ok (.aload_n 0, 1) := by decide +kernel
theorem dX4_power2_1 : decode cX4_power2 1 = .ok (.getfield 116, 3) := by decide +kernel
theorem dX4_power2_4 : decode cX4_power2 4 = .ok (.lstore_n 3, 1) := by decide +kernel
theorem dX4_power2_5 : decode cX4_power2 5 = .ok (.aload_n 0, 1) := by decide +kernel
theorem dX4_power2_6 : decode cX4_power2 6 = .ok (.getfield 119, 3) := by decide +kernel
theorem dX4_power2_9 : decode cX4_power2 9 = .ok (.lstore 5, 2) := by decide +kernel
theorem dX4_power2_11 : decode cX4_power2 11 = .ok (.aload_n 0, 1) := by decide +kernel
theorem dX4_power2_12 : decode cX4_power2 12 = .ok (.lconst 1, 1) := by decide +kernel
theorem dX4_power2_13 : decode cX4_power2 13 = .ok (.putfield 116, 3) := by decide +kernel
theorem dX4_power2_16 : decode cX4_power2 16 = .ok (.aload_n 0, 1) := by decide +kernel
theorem dX4_power2_17 : decode cX4_power2 17 = .ok (.lconst 0, 1) := by decide +kernel
theorem dX4_power2_18 : decode cX4_power2 18 = .ok (.putfield 119, 3) := by decide +kernel
theorem dX4_power2_21 : decode cX4_power2 21 = .ok (.bipush 63, 2) := by decide +kernel
theorem dX4_power2_23 : decode cX4_power2 23 = .ok (.istore 7, 2) := by decide +kernel
theorem dX4_power2_25 : decode cX4_power2 25 = .ok (.iload 7, 2) := by decide +kernel
theorem dX4_power2_27 : decode cX4_power2 27 = .ok (.ifCond .lt 39, 3) := by decide +kernel
theorem dX4_power2_30 : decode cX4_power2 30 = .ok (.aload_n 0, 1) := by decide +kernel
theorem dX4_power2_31 : decode cX4_power2 31 = .ok (.aload_n 0, 1) := by decide +kernel
theorem dX4_power2_32 : decode cX4_power2 32 = .ok (.getfield 116, 3) := by decide +kernel
theorem dX4_power2_35 : decode cX4_power2 35 = .ok (.aload_n 0, 1) := by decide +kernel
theorem dX4_power2_36 : decode cX4_power2 36 = .ok (.getfield 119, 3) := by decide +kernel
theorem dX4_power2_39 : decode cX4_power2 39 = .ok (.invokevirtual 122, 3) := by decide +kernel
theorem dX4_power2_42 : decode cX4_power2 42 = .ok (.lload_n 1, 1) := by decide +kernel
theorem dX4_power2_43 : decode cX4_power2 43 = .ok (.iload 7, 2) := by decide +kernel
theorem dX4_power2_45 : decode cX4_power2 45 = .ok (.lushr, 1) := by decide +kernel
theorem dX4_power2_46 : decode cX4_power2 46 = .ok (.lconst 1, 1) := by decide +kernel
theorem dX4_power2_47 : decode cX4_power2 47 = .ok (.land, 1) := by decide +kernel
theorem dX4_power2_48 : decode cX4_power2 48 = .ok (.lconst 1, 1) := by decide +kernel
theorem dX4_power2_49 : decode cX4_power2 49 = .ok (.lcmp, 1) := by decide +kernel
theorem dX4_power2_50 : decode cX4_power2 50 = .ok (.ifCond .ne 10, 3) := by decide +kernel
theorem dX4_power2_53 : decode cX4_power2 53 = .ok (.aload_n 0, 1) := by decide +kernel
theorem dX4_power2_54 : decode cX4_power2 54 = .ok (.lload_n 3, 1) := by decide +kernel
theorem dX4_power2_55 : decode cX4_power2 55 = .ok (.lload 5, 2) := by decide +kernel
theorem dX4_power2_57 : decode cX4_power2 57 = .ok (.invokevirtual 122, 3) := by decide +kernel
theorem dX4_power2_60 : decode cX4_power2 60 = .ok (.iinc 7 (-1), 3) := by decide +kernel
theorem dX4_power2_63 : decode cX4_power2 63 = .ok (.goto (-38), 3) := by decide +kernel
theorem dX4_power2_66 : decode cX4_power2 66 = .ok (.return_, 1) := by decide +kernel
set_option maxRecDepth 20000 in
theorem ggX4_line_X4_fit : GoodIn wsX4_line wsX4_fit := goodIn_r _ [10, 5, 35, 36, 37, 38, 39, 40, 41, 42, 43, 44, 45, 46, 47, 48] (by decide +kernel) (by decide +kernel)
set_option maxRecDepth 20000 in
theorem gX4_line_X4_fit : GoodIn wsX4_line (wsV RX4 32 RX4 yX4_fit wsX4_fit) := goodIn_app (goodIn_of _ (by decide +kernel)) ggX4_line_X4_fit
set_option maxRecDepth 20000 in
theorem ggX4_line_X4_multiply2 : GoodIn wsX4_line wsX4_multiply2 := goodIn_r _ [14, 15, 5, 16, 35, 36, 37, 38, 39, 40, 41, 42, 43, 44, 45, 46, 47, 48] (by decide +kernel) (by decide +kernel)
set_option maxRecDepth 20000 in
theorem gX4_line_X4_multiply2 : GoodIn wsX4_line (wsV RX4 122 RX4 yX4_multiply2 wsX4_multiply2) := goodIn_app (goodIn_of _ (by decide +kernel)) ggX4_line_X4_multiply2
set_option maxRecDepth 20000 in
theorem ggX4_line_X4_slope : GoodIn wsX4_line wsX4_slope := goodIn_r _ [20, 21, 5, 22, 23, 24, 25, 9, 26, 27, 28, 29, 30, 6, 7, 8, 10, 35, 36, 37, 38, 39, 40, 41, 42, 43, 44, 45, 46, 47, 48] (by decide +kernel) (by decide +kernel)
set_option maxRecDepth 20000 in
theorem gX4_line_X4_slope : GoodIn wsX4_line (wsV RX4 76 RX4 yX4_slope wsX4_slope) := goodIn_app (goodIn_of _ (by decide +kernel)) ggX4_line_X4_slope
set_option maxRecDepth 20000 in
theorem ggX4_line_X4_plus : GoodIn wsX4_line wsX4_plus := goodIn_r _ [34, 2, 3, 4, 5, 17, 18, 19, 9, 20, 21, 22, 23, 24, 25, 26, 27, 28, 29, 30, 6, 7, 8, 10, 35, 36, 37, 38, 39, 40, 41, 42, 43, 44, 45, 46, 47, 48] (by decide +kernel) (by decide +kernel)
set_option maxRecDepth 20000 in
theorem gX4_line_X4_plus : GoodIn wsX4_line (wsV RX4 80 RX4 yX4_plus wsX4_plus) := goodIn_app (goodIn_of _ (by decide +kernel)) ggX4_line_X4_plus
theorem dX4_line_0 : decode cX4_line 0 = .ok (.aload_n 0, 1) := by decide +kernel
theorem dX4_line_1 : decode cX4_line 1 = .ok (.dup, 1) := by decide +kernel
theorem dX4_line_2 : decode cX4_line 2 = .ok (.getfield 126, 3) := by decide +kernel
theorem dX4_line_5 : decode cX4_line 5 = .ok (.iconst 1, 1) := by decide +kernel
theorem dX4_line_6 : decode cX4_line 6 = .ok (.iadd, 1) := by decide +kernel
theorem dX4_line_7 : decode cX4_line 7 = .ok (.putfield 126, 3) := by decide +kernel
theorem dX4_line_10 : decode cX4_line 10 = .ok (.aload_n 0, 1) := by decide +kernel
theorem dX4_line_11 : decode cX4_line 11 = .ok (.getfield 67, 3) := by decide +kernel
theorem dX4_line_14 : decode cX4_line 14 = .ok (.ifCond .eq 37, 3) := by decide +kernel
theorem dX4_line_17 : decode cX4_line 17 = .ok (.iload 5, 2) := by decide +kernel
theorem dX4_line_19 : decode cX4_line 19 = .ok (.ifCond .eq 32, 3) := by decide +kernel
theorem dX4_line_22 : decode cX4_line 22 = .ok (.aload_n 0, 1) := by decide +kernel
theorem dX4_line_23 : decode cX4_line 23 = .ok (.getfield 61, 3) := by decide +kernel
theorem dX4_line_26 : decode cX4_line 26 = .ok (.lload_n 1, 1) := by decide +kernel
theorem dX4_line_27 : decode cX4_line 27 = .ok (.lcmp, 1) := by decide +kernel
theorem dX4_line_28 : decode cX4_line 28 = .ok (.ifCond .ne 23, 3) := by decide +kernel
theorem dX4_line_31 : decode cX4_line 31 = .ok (.aload_n 0, 1) := by decide +kernel
theorem dX4_line_32 : decode cX4_line 32 = .ok (.getfield 64, 3) := by decide +kernel
theorem dX4_line_35 : decode cX4_line 35 = .ok (.lload_n 3, 1) := by decide +kernel
theorem dX4_line_36 : decode cX4_line 36 = .ok (.ladd, 1) := by decide +kernel
theorem dX4_line_37 : decode cX4_line 37 = .ok (.aload_n 0, 1) := by decide +kernel
theorem dX4_line_38 : decode cX4_line 38 = .ok (.getfield 28, 3) := by decide +kernel
theorem dX4_line_41 : decode cX4_line 41 = .ok (.lrem, 1) := by decide +kernel
theorem dX4_line_42 : decode cX4_line 42 = .ok (.lconst 0, 1) := by decide +kernel
theorem dX4_line_43 : decode cX4_line 43 = .ok (.lcmp, 1) := by decide +kernel
theorem dX4_line_44 : decode cX4_line 44 = .ok (.ifCond .ne 7, 3) := by decide +kernel
theorem dX4_line_47 : decode cX4_line 47 = .ok (.iconst 1, 1) := by decide +kernel
theorem dX4_line_48 : decode cX4_line 48 = .ok (.goto 4, 3) := by decide +kernel
theorem dX4_line_51 : decode cX4_line 51 = .ok (.iconst 0, 1) := by decide +kernel
theorem dX4_line_52 : decode cX4_line 52 = .ok (.istore 10, 2) := by decide +kernel
theorem dX4_line_54 : decode cX4_line 54 = .ok (.iload 10, 2) := by decide +kernel
theorem dX4_line_56 : decode cX4_line 56 = .ok (.ifCond .eq 23, 3) := by decide +kernel
theorem dX4_line_59 : decode cX4_line 59 = .ok (.aload_n 0, 1) := by decide +kernel
theorem dX4_line_60 : decode cX4_line 60 = .ok (.aload_n 0, 1) := by decide +kernel
theorem dX4_line_61 : decode cX4_line 61 = .ok (.lload 6, 2) := by decide +kernel
theorem dX4_line_63 : decode cX4_line 63 = .ok (.lneg, 1) := by decide +kernel
theorem dX4_line_64 : decode cX4_line 64 = .ok (.aload_n 0, 1) := by decide +kernel
theorem dX4_line_65 : decode cX4_line 65 = .ok (.getfield 61, 3) := by decide +kernel
theorem dX4_line_68 : decode cX4_line 68 = .ok (.lsub, 1) := by decide +kernel
theorem dX4_line_69 : decode cX4_line 69 = .ok (.invokevirtual 32, 3) := by decide +kernel
theorem dX4_line_72 : decode cX4_line 72 = .ok (.lconst 0, 1) := by decide +kernel
theorem dX4_line_73 : decode cX4_line 73 = .ok (.invokevirtual 122, 3) := by decide +kernel
theorem dX4_line_76 : decode cX4_line 76 = .ok (.goto 66, 3) := by decide +kernel
theorem dX4_line_79 : decode cX4_line 79 = .ok (.aload_n 0, 1) := by decide +kernel
theorem dX4_line_80 : decode cX4_line 80 = .ok (.getfield 67, 3) := by decide +kernel
theorem dX4_line_83 : decode cX4_line 83 = .ok (.ifCond .eq 59, 3) := by decide +kernel
theorem dX4_line_86 : decode cX4_line 86 = .ok (.iload 5, 2) := by decide +kernel
theorem dX4_line_88 : decode cX4_line 88 = .ok (.ifCond .eq 54, 3) := by decide +kernel
theorem dX4_line_91 : decode cX4_line 91 = .ok (.aload_n 0, 1) := by decide +kernel
theorem dX4_line_92 : decode cX4_line 92 = .ok (.aload_n 0, 1) := by decide +kernel
theorem dX4_line_93 : decode cX4_line 93 = .ok (.getfield 61, 3) := by decide +kernel
theorem dX4_line_96 : decode cX4_line 96 = .ok (.aload_n 0, 1) := by decide +kernel
theorem dX4_line_97 : decode cX4_line 97 = .ok (.getfield 64, 3) := by decide +kernel
theorem dX4_line_100 : decode cX4_line 100 = .ok (.lload_n 1, 1) := by decide +kernel
theorem dX4_line_101 : decode cX4_line 101 = .ok (.lload_n 3, 1) := by decide +kernel
theorem dX4_line_102 : decode cX4_line 102 = .ok (.invokevirtual 76, 3) := by decide +kernel
theorem dX4_line_105 : decode cX4_line 105 = .ok (.lstore 11, 2) := by decide +kernel
theorem dX4_line_107 : decode cX4_line 107 = .ok (.aload_n 0, 1) := by decide +kernel
theorem dX4_line_108 : decode cX4_line 108 = .ok (.aload_n 0, 1) := by decide +kernel
theorem dX4_line_109 : decode cX4_line 109 = .ok (.lload 11, 2) := by decide +kernel
theorem dX4_line_111 : decode cX4_line 111 = .ok (.aload_n 0, 1) := by decide +kernel
theorem dX4_line_112 : decode cX4_line 112 = .ok (.getfield 61, 3) := by decide +kernel
theorem dX4_line_115 : decode cX4_line 115 = .ok (.lload 6, 2) := by decide +kernel
theorem dX4_line_117 : decode cX4_line 117 = .ok (.ladd, 1) := by decide +kernel
theorem dX4_line_118 : decode cX4_line 118 = .ok (.aload_n 0, 1) := by decide +kernel
theorem dX4_line_119 : decode cX4_line 119 = .ok (.getfield 28, 3) := by decide +kernel
theorem dX4_line_122 : decode cX4_line 122 = .ok (.lrem, 1) := by decide +kernel
theorem dX4_line_123 : decode cX4_line 123 = .ok (.lmul, 1) := by decide +kernel
theorem dX4_line_124 : decode cX4_line 124 = .ok (.aload_n 0, 1) := by decide +kernel
theorem dX4_line_125 : decode cX4_line 125 = .ok (.getfield 28, 3) := by decide +kernel
theorem dX4_line_128 : decode cX4_line 128 = .ok (.lrem, 1) := by decide +kernel
theorem dX4_line_129 : decode cX4_line 129 = .ok (.aload_n 0, 1) := by decide +kernel
theorem dX4_line_130 : decode cX4_line 130 = .ok (.getfield 64, 3) := by decide +kernel
theorem dX4_line_133 : decode cX4_line 133 = .ok (.lsub, 1) := by decide +kernel
theorem dX4_line_134 : decode cX4_line 134 = .ok (.invokevirtual 32, 3) := by decide +kernel
theorem dX4_line_137 : decode cX4_line 137 = .ok (.lload 8, 2) := by decide +kernel
theorem dX4_line_139 : decode cX4_line 139 = .ok (.invokevirtual 122, 3) := by decide +kernel
theorem dX4_line_142 : decode cX4_line 142 = .ok (.aload_n 0, 1) := by decide +kernel
theorem dX4_line_143 : decode cX4_line 143 = .ok (.lload_n 1, 1) := by decide +kernel
theorem dX4_line_144 : decode cX4_line 144 = .ok (.lload_n 3, 1) := by decide +kernel
theorem dX4_line_145 : decode cX4_line 145 = .ok (.iload 5, 2) := by decide +kernel
theorem dX4_line_147 : decode cX4_line 147 = .ok (.invokevirtual 80, 3) := by decide +kernel
theorem dX4_line_150 : decode cX4_line 150 = .ok (.return_, 1) := by decide +kernel
set_option maxRecDepth 20000 in
theorem ggX4_pairOf_X4_multiply2 : GoodIn wsX4_pairOf wsX4_multiply2 := goodIn_r _ [13, 1, 8, 2, 44, 45, 46, 47, 48, 49, 50, 51, 52, 53, 54, 55, 56, 57] (by decide +kernel) (by decide +kernel)
set_option maxRecDepth 20000 in
theorem gX4_pairOf_X4_multiply2 : GoodIn wsX4_pairOf (wsV RX4 122 RX4 yX4_multiply2 wsX4_multiply2) := goodIn_app (goodIn_of _ (by decide +kernel)) ggX4_pairOf_X4_multiply2
set_option maxRecDepth 20000 in
theorem ggX4_pairOf_X4_line : GoodIn wsX4_pairOf wsX4_line := goodIn_r _ [17, 3, 6, 4, 5, 8, 18, 19, 20, 12, 21, 9, 10, 11, 13, 1, 2, 22, 23, 24, 25, 26, 27, 28, 29, 30, 31, 32, 33, 34, 35, 36, 37, 38, 39, 44, 45, 46, 47, 48, 49, 50, 51, 52, 53, 54, 55, 56, 57] (by decide +kernel) (by decide +kernel)
set_option maxRecDepth 20000 in
theorem gX4_pairOf_X4_line : GoodIn wsX4_pairOf (wsV RX4 130 RX4 yX4_line wsX4_line) := goodIn_app (goodIn_of _ (by decide +kernel)) ggX4_pairOf_X4_line
set_option maxRecDepth 20000 in
theorem ggX4_pairOf_X4_power2 : GoodIn wsX4_pairOf wsX4_power2 := goodIn_r _ [43, 1, 2, 9, 10, 11, 12, 13, 8, 44, 45, 46, 47, 48, 49, 50, 51, 52, 53, 54, 55, 56, 57] (by decide +kernel) (by decide +kernel)
set_option maxRecDepth 20000 in
theorem gX4_pairOf_X4_power2 : GoodIn wsX4_pairOf (wsV RX4 134 RX4 yX4_power2 wsX4_power2) := goodIn_app (goodIn_of _ (by decide +kernel)) ggX4_pairOf_X4_power2
theorem dX4_pairOf_0 : decode cX4_pairOf 0 = .ok (.aload_n 0, 1) := by decide +kernel
theorem dX4_pairOf_1 : decode cX4_pairOf 1 = .ok (.lconst 1, 1) := by decide +kernel
theorem dX4_pairOf_2 : decode cX4_pairOf 2 = .ok (.putfield 116, 3) := by decide +kernel
theorem dX4_pairOf_5 : decode cX4_pairOf 5 = .ok (.aload_n 0, 1) := by decide +kernel
theorem dX4_pairOf_6 : decode cX4_pairOf 6 = .ok (.lconst 0, 1) := by decide +kernel
theorem dX4_pairOf_7 : decode cX4_pairOf 7 = .ok (.putfield 119, 3) := by decide +kernel
theorem dX4_pairOf_10 : decode cX4_pairOf 10 = .ok (.aload_n 0, 1) := by decide +kernel
theorem dX4_pairOf_11 : decode cX4_pairOf 11 = .ok (.iconst 0, 1) := by decide +kernel
theorem dX4_pairOf_12 : decode cX4_pairOf 12 = .ok (.putfield 126, 3) := by decide +kernel
theorem dX4_pairOf_15 : decode cX4_pairOf 15 = .ok (.iload 5, 2) := by decide +kernel
theorem dX4_pairOf_17 : decode cX4_pairOf 17 = .ok (.ifCond .eq 8, 3) := by decide +kernel
theorem dX4_pairOf_20 : decode cX4_pairOf 20 = .ok (.iload 10, 2) := by decide +kernel
theorem dX4_pairOf_22 : decode cX4_pairOf 22 = .ok (.ifCond .ne 4, 3) := by decide +kernel
theorem dX4_pairOf_25 : decode cX4_pairOf 25 = .ok (.return_, 1) := by decide +kernel
theorem dX4_pairOf_26 : decode cX4_pairOf 26 = .ok (.aload_n 0, 1) := by decide +kernel
theorem dX4_pairOf_27 : decode cX4_pairOf 27 = .ok (.lload_n 1, 1) := by decide +kernel
theorem dX4_pairOf_28 : decode cX4_pairOf 28 = .ok (.putfield 61, 3) := by decide +kernel
theorem dX4_pairOf_31 : decode cX4_pairOf 31 = .ok (.aload_n 0, 1) := by decide +kernel
theorem dX4_pairOf_32 : decode cX4_pairOf 32 = .ok (.lload_n 3, 1) := by decide +kernel
theorem dX4_pairOf_33 : decode cX4_pairOf 33 = .ok (.putfield 64, 3) := by decide +kernel
theorem dX4_pairOf_36 : decode cX4_pairOf 36 = .ok (.aload_n 0, 1) := by decide +kernel
theorem dX4_pairOf_37 : decode cX4_pairOf 37 = .ok (.iconst 1, 1) := by decide +kernel
theorem dX4_pairOf_38 : decode cX4_pairOf 38 = .ok (.putfield 67, 3) := by decide +kernel
theorem dX4_pairOf_41 : decode cX4_pairOf 41 = .ok (.bipush 62, 2) := by decide +kernel
theorem dX4_pairOf_43 : decode cX4_pairOf 43 = .ok (.istore 11, 2) := by decide +kernel
theorem dX4_pairOf_45 : decode cX4_pairOf 45 = .ok (.aload_n 0, 1) := by decide +kernel
theorem dX4_pairOf_46 : decode cX4_pairOf 46 = .ok (.getfield 48, 3) := by decide +kernel
theorem dX4_pairOf_49 : decode cX4_pairOf 49 = .ok (.iload 11, 2) := by decide +kernel
theorem dX4_pairOf_51 : decode cX4_pairOf 51 = .ok (.lshr, 1) := by decide +kernel
theorem dX4_pairOf_52 : decode cX4_pairOf 52 = .ok (.lconst 1, 1) := by decide +kernel
theorem dX4_pairOf_53 : decode cX4_pairOf 53 = .ok (.land, 1) := by decide +kernel
theorem dX4_pairOf_54 : decode cX4_pairOf 54 = .ok (.lconst 0, 1) := by decide +kernel
theorem dX4_pairOf_55 : decode cX4_pairOf 55 = .ok (.lcmp, 1) := by decide +kernel
theorem dX4_pairOf_56 : decode cX4_pairOf 56 = .ok (.ifCond .ne 9, 3) := by decide +kernel
theorem dX4_pairOf_59 : decode cX4_pairOf 59 = .ok (.iinc 11 (-1), 3) := by decide +kernel
theorem dX4_pairOf_62 : decode cX4_pairOf 62 = .ok (.goto (-17), 3) := by decide +kernel
theorem dX4_pairOf_65 : decode cX4_pairOf 65 = .ok (.iinc 11 (-1), 3) := by decide +kernel
theorem dX4_pairOf_68 : decode cX4_pairOf 68 = .ok (.iload 11, 2) := by decide +kernel
theorem dX4_pairOf_70 : decode cX4_pairOf 70 = .ok (.ifCond .lt 66, 3) := by decide +kernel
theorem dX4_pairOf_73 : decode cX4_pairOf 73 = .ok (.aload_n 0, 1) := by decide +kernel
theorem dX4_pairOf_74 : decode cX4_pairOf 74 = .ok (.aload_n 0, 1) := by decide +kernel
theorem dX4_pairOf_75 : decode cX4_pairOf 75 = .ok (.getfield 116, 3) := by decide +kernel
theorem dX4_pairOf_78 : decode cX4_pairOf 78 = .ok (.aload_n 0, 1) := by decide +kernel
theorem dX4_pairOf_79 : decode cX4_pairOf 79 = .ok (.getfield 119, 3) := by decide +kernel
theorem dX4_pairOf_82 : decode cX4_pairOf 82 = .ok (.invokevirtual 122, 3) := by decide +kernel
theorem dX4_pairOf_85 : decode cX4_pairOf 85 = .ok (.aload_n 0, 1) := by decide +kernel
theorem dX4_pairOf_86 : decode cX4_pairOf 86 = .ok (.aload_n 0, 1) := by decide +kernel
theorem dX4_pairOf_87 : decode cX4_pairOf 87 = .ok (.getfield 61, 3) := by decide +kernel
theorem dX4_pairOf_90 : decode cX4_pairOf 90 = .ok (.aload_n 0, 1) := by decide +kernel
theorem dX4_pairOf_91 : decode cX4_pairOf 91 = .ok (.getfield 64, 3) := by decide +kernel
theorem dX4_pairOf_94 : decode cX4_pairOf 94 = .ok (.aload_n 0, 1) := by decide +kernel
theorem dX4_pairOf_95 : decode cX4_pairOf 95 = .ok (.getfield 67, 3) := by decide +kernel
theorem dX4_pairOf_98 : decode cX4_pairOf 98 = .ok (.lload 6, 2) := by decide +kernel
theorem dX4_pairOf_100 : decode cX4_pairOf 100 = .ok (.lload 8, 2) := by decide +kernel
theorem dX4_pairOf_102 : decode cX4_pairOf 102 = .ok (.invokevirtual 130, 3) := by decide +kernel
theorem dX4_pairOf_105 : decode cX4_pairOf 105 = .ok (.aload_n 0, 1) := by decide +kernel
theorem dX4_pairOf_106 : decode cX4_pairOf 106 = .ok (.getfield 48, 3) := by decide +kernel
theorem dX4_pairOf_109 : decode cX4_pairOf 109 = .ok (.iload 11, 2) := by decide +kernel
theorem dX4_pairOf_111 : decode cX4_pairOf 111 = .ok (.lshr, 1) := by decide +kernel
theorem dX4_pairOf_112 : decode cX4_pairOf 112 = .ok (.lconst 1, 1) := by decide +kernel
theorem dX4_pairOf_113 : decode cX4_pairOf 113 = .ok (.land, 1) := by decide +kernel
theorem dX4_pairOf_114 : decode cX4_pairOf 114 = .ok (.lconst 1, 1) := by decide +kernel
theorem dX4_pairOf_115 : decode cX4_pairOf 115 = .ok (.lcmp, 1) := by decide +kernel
theorem dX4_pairOf_116 : decode cX4_pairOf 116 = .ok (.ifCond .ne 14, 3) := by decide +kernel
theorem dX4_pairOf_119 : decode cX4_pairOf 119 = .ok (.aload_n 0, 1) := by decide +kernel
theorem dX4_pairOf_120 : decode cX4_pairOf 120 = .ok (.lload_n 1, 1) := by decide +kernel
theorem dX4_pairOf_121 : decode cX4_pairOf 121 = .ok (.lload_n 3, 1) := by decide +kernel
theorem dX4_pairOf_122 : decode cX4_pairOf 122 = .ok (.iconst 1, 1) := by decide +kernel
theorem dX4_pairOf_123 : decode cX4_pairOf 123 = .ok (.lload 6, 2) := by decide +kernel
theorem dX4_pairOf_125 : decode cX4_pairOf 125 = .ok (.lload 8, 2) := by decide +kernel
theorem dX4_pairOf_127 : decode cX4_pairOf 127 = .ok (.invokevirtual 130, 3) := by decide +kernel
theorem dX4_pairOf_130 : decode cX4_pairOf 130 = .ok (.iinc 11 (-1), 3) := by decide +kernel
theorem dX4_pairOf_133 : decode cX4_pairOf 133 = .ok (.goto (-65), 3) := by decide +kernel
theorem dX4_pairOf_136 : decode cX4_pairOf 136 = .ok (.aload_n 0, 1) := by decide +kernel
theorem dX4_pairOf_137 : decode cX4_pairOf 137 = .ok (.aload_n 0, 1) := by decide +kernel
theorem dX4_pairOf_138 : decode cX4_pairOf 138 = .ok (.getfield 28, 3) := by decide +kernel
theorem dX4_pairOf_141 : decode cX4_pairOf 141 = .ok (.aload_n 0, 1) := by decide +kernel
theorem dX4_pairOf_142 : decode cX4_pairOf 142 = .ok (.getfield 28, 3) := by decide +kernel
theorem dX4_pairOf_145 : decode cX4_pairOf 145 = .ok (.lmul, 1) := by decide +kernel
theorem dX4_pairOf_146 : decode cX4_pairOf 146 = .ok (.lconst 1, 1) := by decide +kernel
theorem dX4_pairOf_147 : decode cX4_pairOf 147 = .ok (.lsub, 1) := by decide +kernel
theorem dX4_pairOf_148 : decode cX4_pairOf 148 = .ok (.aload_n 0, 1) := by decide +kernel
theorem dX4_pairOf_149 : decode cX4_pairOf 149 = .ok (.getfield 48, 3) := by decide +kernel
theorem dX4_pairOf_152 : decode cX4_pairOf 152 = .ok (.ldiv, 1) := by decide +kernel
theorem dX4_pairOf_153 : decode cX4_pairOf 153 = .ok (.invokevirtual 134, 3) := by decide +kernel
theorem dX4_pairOf_156 : decode cX4_pairOf 156 = .ok (.return_, 1) := by decide +kernel
set_option maxRecDepth 20000 in
theorem ggX4_isOfR_X4_load : GoodIn wsX4_isOfR wsX4_load := goodIn_r _ [7, 8, 9, 10, 11, 12, 2, 40, 41, 42, 43, 44, 45, 46, 47, 48, 49, 50, 51, 52, 53] (by decide +kernel) (by decide +kernel)
set_option maxRecDepth 20000 in
theorem gX4_isOfR_X4_load : GoodIn wsX4_isOfR (wsV RX4 105 RX4 yX4_load wsX4_load) := goodIn_app (goodIn_of _ (by decide +kernel)) ggX4_isOfR_X4_load
set_option maxRecDepth 20000 in
theorem ggX4_isOfR_X4_take : GoodIn wsX4_isOfR wsX4_take := goodIn_r _ [16, 9, 11, 2, 17, 18, 19, 6, 20, 21, 22, 23, 24, 25, 26, 27, 28, 29, 30, 31, 32, 33, 34, 35, 36, 37, 38, 39, 40, 41, 42, 43, 44, 45, 46, 47, 48, 49, 50, 51, 52, 53] (by decide +kernel) (by decide +kernel)
set_option maxRecDepth 20000 in
theorem gX4_isOfR_X4_take : GoodIn wsX4_isOfR (wsV RX4 97 RX4 yX4_take wsX4_take) := goodIn_app (goodIn_of _ (by decide +kernel)) ggX4_isOfR_X4_take
theorem dX4_isOfR_0 : decode cX4_isOfR 0 = .ok (.aload_n 0, 1) := by decide +kernel
theorem dX4_isOfR_1 : decode cX4_isOfR 1 = .ok (.iload_n 1, 1) := by decide +kernel
theorem dX4_isOfR_2 : decode cX4_isOfR 2 = .ok (.invokevirtual 105, 3) := by decide +kernel
theorem dX4_isOfR_5 : decode cX4_isOfR 5 = .ok (.aload_n 0, 1) := by decide +kernel
theorem dX4_isOfR_6 : decode cX4_isOfR 6 = .ok (.aload_n 0, 1) := by decide +kernel
theorem dX4_isOfR_7 : decode cX4_isOfR 7 = .ok (.getfield 48, 3) := by decide +kernel
theorem dX4_isOfR_10 : decode cX4_isOfR 10 = .ok (.invokevirtual 97, 3) := by decide +kernel
theorem dX4_isOfR_13 : decode cX4_isOfR 13 = .ok (.aload_n 0, 1) := by decide +kernel
theorem dX4_isOfR_14 : decode cX4_isOfR 14 = .ok (.getfield 67, 3) := by decide +kernel
theorem dX4_isOfR_17 : decode cX4_isOfR 17 = .ok (.ifCond .ne 7, 3) := by decide +kernel
theorem dX4_isOfR_20 : decode cX4_isOfR 20 = .ok (.iconst 1, 1) := by decide +kernel
theorem dX4_isOfR_21 : decode cX4_isOfR 21 = .ok (.goto 4, 3) := by decide +kernel
theorem dX4_isOfR_24 : decode cX4_isOfR 24 = .ok (.iconst 0, 1) := by decide +kernel
theorem dX4_isOfR_25 : decode cX4_isOfR 25 = .ok (.ireturn, 1) := by decide +kernel
set_option maxRecDepth 20000 in
theorem ggX4_isValue_X4_in : GoodIn wsX4_isValue wsX4_in := goodIn_r _ [5] (by decide +kernel) (by decide +kernel)
set_option maxRecDepth 20000 in
theorem gX4_isValue_X4_in : GoodIn wsX4_isValue (va_wsS RX4 54 yX4_in wsX4_in) := goodIn_app (goodIn_of _ (by decide +kernel)) ggX4_isValue_X4_in
theorem dX4_isValue_0 : decode cX4_isValue 0 = .ok (.iload_n 0, 1) := by decide +kernel
theorem dX4_isValue_1 : decode cX4_isValue 1 = .ok (.i2l, 1) := by decide +kernel
theorem dX4_isValue_2 : decode cX4_isValue 2 = .ok (.lconst 0, 1) := by decide +kernel
theorem dX4_isValue_3 : decode cX4_isValue 3 = .ok (.ldc2_w 137, 3) := by decide +kernel
theorem dX4_isValue_6 : decode cX4_isValue 6 = .ok (.invokestatic 54, 3) := by decide +kernel
theorem dX4_isValue_9 : decode cX4_isValue 9 = .ok (.ireturn, 1) := by decide +kernel
set_option maxRecDepth 20000 in
theorem ggX4_pair_X4_isValue : GoodIn wsX4_pair wsX4_isValue := goodIn_r _ [13, 14, 15, 16, 12, 17] (by decide +kernel) (by decide +kernel)
set_option maxRecDepth 20000 in
theorem gX4_pair_X4_isValue : GoodIn wsX4_pair (va_wsS RX4 139 yX4_isValue wsX4_isValue) := goodIn_app (goodIn_of _ (by decide +kernel)) ggX4_pair_X4_isValue
set_option maxRecDepth 20000 in
theorem ggX4_pair_X4_isSlot : GoodIn wsX4_pair wsX4_isSlot := goodIn_r _ [20, 21, 15, 16, 12, 17] (by decide +kernel) (by decide +kernel)
set_option maxRecDepth 20000 in
theorem gX4_pair_X4_isSlot : GoodIn wsX4_pair (va_wsS RX4 86 yX4_isSlot wsX4_isSlot) := goodIn_app (goodIn_of _ (by decide +kernel)) ggX4_pair_X4_isSlot
set_option maxRecDepth 20000 in
theorem ggX4_pair_X4_isOfR : GoodIn wsX4_pair wsX4_isOfR := goodIn_r _ [25, 26, 27, 28, 29, 30, 12, 31, 2, 32, 3, 33, 4, 34, 35, 36, 37, 38, 39, 40, 41, 1, 42, 43, 44, 45, 46, 47, 48, 49, 50, 51, 52, 53, 54, 55, 56, 57, 58, 59, 76, 77, 78, 79, 80, 81, 82, 83, 84, 85, 86, 87, 88, 89] (by decide +kernel) (by decide +kernel)
set_option maxRecDepth 20000 in
theorem gX4_pair_X4_isOfR : GoodIn wsX4_pair (wsV RX4 142 RX4 yX4_isOfR wsX4_isOfR) := goodIn_app (goodIn_of _ (by decide +kernel)) ggX4_pair_X4_isOfR
set_option maxRecDepth 20000 in
theorem ggX4_pair_X4_pairOf : GoodIn wsX4_pair wsX4_pairOf := goodIn_r _ [63, 6, 8, 9, 32, 33, 27, 26, 1, 64, 65, 66, 12, 67, 68, 69, 70, 71, 56, 57, 58, 59, 42, 43, 44, 45, 46, 47, 48, 49, 50, 51, 52, 53, 54, 55, 38, 39, 40, 41, 72, 73, 74, 75, 76, 77, 78, 79, 80, 81, 82, 83, 84, 85, 86, 87, 88, 89] (by decide +kernel) (by decide +kernel)
set_option maxRecDepth 20000 in
theorem gX4_pair_X4_pairOf : GoodIn wsX4_pair (wsV RX4 145 RX4 yX4_pairOf wsX4_pairOf) := goodIn_app (goodIn_of _ (by decide +kernel)) ggX4_pair_X4_pairOf
theorem dX4_pair_0 : decode cX4_pair 0 = .ok (.aload_n 0, 1) := by decide +kernel
theorem dX4_pair_1 : decode cX4_pair 1 = .ok (.getfield 28, 3) := by decide +kernel
theorem dX4_pair_4 : decode cX4_pair 4 = .ok (.lconst 0, 1) := by decide +kernel
theorem dX4_pair_5 : decode cX4_pair 5 = .ok (.lcmp, 1) := by decide +kernel
theorem dX4_pair_6 : decode cX4_pair 6 = .ok (.ifCond .ne 6, 3) := by decide +kernel
theorem dX4_pair_9 : decode cX4_pair 9 = .ok (.bipush (-3), 2) := by decide +kernel
theorem dX4_pair_11 : decode cX4_pair 11 = .ok (.ireturn, 1) := by decide +kernel
theorem dX4_pair_12 : decode cX4_pair 12 = .ok (.iload_n 1, 1) := by decide +kernel
theorem dX4_pair_13 : decode cX4_pair 13 = .ok (.invokestatic 139, 3) := by decide +kernel
theorem dX4_pair_16 : decode cX4_pair 16 = .ok (.ifCond .eq 17, 3) := by decide +kernel
theorem dX4_pair_19 : decode cX4_pair 19 = .ok (.iload_n 2, 1) := by decide +kernel
theorem dX4_pair_20 : decode cX4_pair 20 = .ok (.invokestatic 86, 3) := by decide +kernel
theorem dX4_pair_23 : decode cX4_pair 23 = .ok (.ifCond .eq 10, 3) := by decide +kernel
theorem dX4_pair_26 : decode cX4_pair 26 = .ok (.iload_n 3, 1) := by decide +kernel
theorem dX4_pair_27 : decode cX4_pair 27 = .ok (.invokestatic 86, 3) := by decide +kernel
theorem dX4_pair_30 : decode cX4_pair 30 = .ok (.ifCond .ne 6, 3) := by decide +kernel
theorem dX4_pair_33 : decode cX4_pair 33 = .ok (.bipush (-2), 2) := by decide +kernel
theorem dX4_pair_35 : decode cX4_pair 35 = .ok (.ireturn, 1) := by decide +kernel
theorem dX4_pair_36 : decode cX4_pair 36 = .ok (.aload_n 0, 1) := by decide +kernel
theorem dX4_pair_37 : decode cX4_pair 37 = .ok (.iload_n 2, 1) := by decide +kernel
theorem dX4_pair_38 : decode cX4_pair 38 = .ok (.invokevirtual 142, 3) := by decide +kernel
theorem dX4_pair_41 : decode cX4_pair 41 = .ok (.ifCond .eq 11, 3) := by decide +kernel
theorem dX4_pair_44 : decode cX4_pair 44 = .ok (.aload_n 0, 1) := by decide +kernel
theorem dX4_pair_45 : decode cX4_pair 45 = .ok (.iload_n 3, 1) := by decide +kernel
theorem dX4_pair_46 : decode cX4_pair 46 = .ok (.invokevirtual 142, 3) := by decide +kernel
theorem dX4_pair_49 : decode cX4_pair 49 = .ok (.ifCond .ne 5, 3) := by decide +kernel
theorem dX4_pair_52 : decode cX4_pair 52 = .ok (.iconst (-1), 1) := by decide +kernel
theorem dX4_pair_53 : decode cX4_pair 53 = .ok (.ireturn, 1) := by decide +kernel
theorem dX4_pair_54 : decode cX4_pair 54 = .ok (.aload_n 0, 1) := by decide +kernel
theorem dX4_pair_55 : decode cX4_pair 55 = .ok (.aload_n 0, 1) := by decide +kernel
theorem dX4_pair_56 : decode cX4_pair 56 = .ok (.getfield 7, 3) := by decide +kernel
theorem dX4_pair_59 : decode cX4_pair 59 = .ok (.iload_n 2, 1) := by decide +kernel
theorem dX4_pair_60 : decode cX4_pair 60 = .ok (.laload, 1) := by decide +kernel
theorem dX4_pair_61 : decode cX4_pair 61 = .ok (.aload_n 0, 1) := by decide +kernel
theorem dX4_pair_62 : decode cX4_pair 62 = .ok (.getfield 13, 3) := by decide +kernel
theorem dX4_pair_65 : decode cX4_pair 65 = .ok (.iload_n 2, 1) := by decide +kernel
theorem dX4_pair_66 : decode cX4_pair 66 = .ok (.laload, 1) := by decide +kernel
theorem dX4_pair_67 : decode cX4_pair 67 = .ok (.aload_n 0, 1) := by decide +kernel
theorem dX4_pair_68 : decode cX4_pair 68 = .ok (.getfield 16, 3) := by decide +kernel
theorem dX4_pair_71 : decode cX4_pair 71 = .ok (.iload_n 2, 1) := by decide +kernel
theorem dX4_pair_72 : decode cX4_pair 72 = .ok (.baload, 1) := by decide +kernel
theorem dX4_pair_73 : decode cX4_pair 73 = .ok (.aload_n 0, 1) := by decide +kernel
theorem dX4_pair_74 : decode cX4_pair 74 = .ok (.getfield 7, 3) := by decide +kernel
theorem dX4_pair_77 : decode cX4_pair 77 = .ok (.iload_n 3, 1) := by decide +kernel
theorem dX4_pair_78 : decode cX4_pair 78 = .ok (.laload, 1) := by decide +kernel
theorem dX4_pair_79 : decode cX4_pair 79 = .ok (.aload_n 0, 1) := by decide +kernel
theorem dX4_pair_80 : decode cX4_pair 80 = .ok (.getfield 13, 3) := by decide +kernel
theorem dX4_pair_83 : decode cX4_pair 83 = .ok (.iload_n 3, 1) := by decide +kernel
theorem dX4_pair_84 : decode cX4_pair 84 = .ok (.laload, 1) := by decide +kernel
theorem dX4_pair_85 : decode cX4_pair 85 = .ok (.aload_n 0, 1) := by decide +kernel
theorem dX4_pair_86 : decode cX4_pair 86 = .ok (.getfield 16, 3) := by decide +kernel
theorem dX4_pair_89 : decode cX4_pair 89 = .ok (.iload_n 3, 1) := by decide +kernel
theorem dX4_pair_90 : decode cX4_pair 90 = .ok (.baload, 1) := by decide +kernel
theorem dX4_pair_91 : decode cX4_pair 91 = .ok (.invokevirtual 145, 3) := by decide +kernel
theorem dX4_pair_94 : decode cX4_pair 94 = .ok (.aload_n 0, 1) := by decide +kernel
theorem dX4_pair_95 : decode cX4_pair 95 = .ok (.getfield 20, 3) := by decide +kernel
theorem dX4_pair_98 : decode cX4_pair 98 = .ok (.iload_n 1, 1) := by decide +kernel
theorem dX4_pair_99 : decode cX4_pair 99 = .ok (.aload_n 0, 1) := by decide +kernel
theorem dX4_pair_100 : decode cX4_pair 100 = .ok (.getfield 116, 3) := by decide +kernel
theorem dX4_pair_103 : decode cX4_pair 103 = .ok (.lastore, 1) := by decide +kernel
theorem dX4_pair_104 : decode cX4_pair 104 = .ok (.aload_n 0, 1) := by decide +kernel
theorem dX4_pair_105 : decode cX4_pair 105 = .ok (.getfield 23, 3) := by decide +kernel
theorem dX4_pair_108 : decode cX4_pair 108 = .ok (.iload_n 1, 1) := by decide +kernel
theorem dX4_pair_109 : decode cX4_pair 109 = .ok (.aload_n 0, 1) := by decide +kernel
theorem dX4_pair_110 : decode cX4_pair 110 = .ok (.getfield 119, 3) := by decide +kernel
theorem dX4_pair_113 : decode cX4_pair 113 = .ok (.lastore, 1) := by decide +kernel
theorem dX4_pair_114 : decode cX4_pair 114 = .ok (.aload_n 0, 1) := by decide +kernel
theorem dX4_pair_115 : decode cX4_pair 115 = .ok (.getfield 126, 3) := by decide +kernel
theorem dX4_pair_118 : decode cX4_pair 118 = .ok (.ireturn, 1) := by decide +kernel
theorem dX4_keepValue_0 : decode cX4_keepValue 0 = .ok (.aload_n 0, 1) := by decide +kernel
theorem dX4_keepValue_1 : decode cX4_keepValue 1 = .ok (.getfield 20, 3) := by decide +kernel
theorem dX4_keepValue_4 : decode cX4_keepValue 4 = .ok (.iload_n 1, 1) := by decide +kernel
theorem dX4_keepValue_5 : decode cX4_keepValue 5 = .ok (.aload_n 0, 1) := by decide +kernel
theorem dX4_keepValue_6 : decode cX4_keepValue 6 = .ok (.getfield 116, 3) := by decide +kernel
theorem dX4_keepValue_9 : decode cX4_keepValue 9 = .ok (.lastore, 1) := by decide +kernel
theorem dX4_keepValue_10 : decode cX4_keepValue 10 = .ok (.aload_n 0, 1) := by decide +kernel
theorem dX4_keepValue_11 : decode cX4_keepValue 11 = .ok (.getfield 23, 3) := by decide +kernel
theorem dX4_keepValue_14 : decode cX4_keepValue 14 = .ok (.iload_n 1, 1) := by decide +kernel
theorem dX4_keepValue_15 : decode cX4_keepValue 15 = .ok (.aload_n 0, 1) := by decide +kernel
theorem dX4_keepValue_16 : decode cX4_keepValue 16 = .ok (.getfield 119, 3) := by decide +kernel
theorem dX4_keepValue_19 : decode cX4_keepValue 19 = .ok (.lastore, 1) := by decide +kernel
theorem dX4_keepValue_20 : decode cX4_keepValue 20 = .ok (.aload_n 0, 1) := by decide +kernel
theorem dX4_keepValue_21 : decode cX4_keepValue 21 = .ok (.getfield 116, 3) := by decide +kernel
theorem dX4_keepValue_24 : decode cX4_keepValue 24 = .ok (.lconst 1, 1) := by decide +kernel
theorem dX4_keepValue_25 : decode cX4_keepValue 25 = .ok (.lcmp, 1) := by decide +kernel
theorem dX4_keepValue_26 : decode cX4_keepValue 26 = .ok (.ifCond .ne 16, 3) := by decide +kernel
theorem dX4_keepValue_29 : decode cX4_keepValue 29 = .ok (.aload_n 0, 1) := by decide +kernel
theorem dX4_keepValue_30 : decode cX4_keepValue 30 = .ok (.getfield 119, 3) := by decide +kernel
theorem dX4_keepValue_33 : decode cX4_keepValue 33 = .ok (.lconst 0, 1) := by decide +kernel
theorem dX4_keepValue_34 : decode cX4_keepValue 34 = .ok (.lcmp, 1) := by decide +kernel
theorem dX4_keepValue_35 : decode cX4_keepValue 35 = .ok (.ifCond .ne 7, 3) := by decide +kernel
theorem dX4_keepValue_38 : decode cX4_keepValue 38 = .ok (.iconst 1, 1) := by decide +kernel
theorem dX4_keepValue_39 : decode cX4_keepValue 39 = .ok (.goto 4, 3) := by decide +kernel
theorem dX4_keepValue_42 : decode cX4_keepValue 42 = .ok (.iconst 0, 1) := by decide +kernel
theorem dX4_keepValue_43 : decode cX4_keepValue 43 = .ok (.ireturn, 1) := by decide +kernel
set_option maxRecDepth 20000 in
theorem ggX4_multiply_X4_isValue : GoodIn wsX4_multiply wsX4_isValue := goodIn_r _ [9, 10, 11, 12, 8, 13] (by decide +kernel) (by decide +kernel)
set_option maxRecDepth 20000 in
theorem gX4_multiply_X4_isValue : GoodIn wsX4_multiply (va_wsS RX4 139 yX4_isValue wsX4_isValue) := goodIn_app (goodIn_of _ (by decide +kernel)) ggX4_multiply_X4_isValue
set_option maxRecDepth 20000 in
theorem ggX4_multiply_X4_multiply2 : GoodIn wsX4_multiply wsX4_multiply2 := goodIn_r _ [17, 3, 1, 5, 22, 23, 24, 25, 26, 27, 28, 29, 30, 31, 32, 33, 34, 35] (by decide +kernel) (by decide +kernel)
set_option maxRecDepth 20000 in
theorem gX4_multiply_X4_multiply2 : GoodIn wsX4_multiply (wsV RX4 122 RX4 yX4_multiply2 wsX4_multiply2) := goodIn_app (goodIn_of _ (by decide +kernel)) ggX4_multiply_X4_multiply2
set_option maxRecDepth 20000 in
theorem ggX4_multiply_X4_keepValue : GoodIn wsX4_multiply wsX4_keepValue := goodIn_r _ [21, 2, 3, 4, 5, 22, 23, 24, 25, 26, 27, 28, 29, 30, 31, 32, 33, 34, 35] (by decide +kernel) (by decide +kernel)
set_option maxRecDepth 20000 in
theorem gX4_multiply_X4_keepValue : GoodIn wsX4_multiply (wsV RX4 149 RX4 yX4_keepValue wsX4_keepValue) := goodIn_app (goodIn_of _ (by decide +kernel)) ggX4_multiply_X4_keepValue
theorem dX4_multiply_0 : decode cX4_multiply 0 = .ok (.aload_n 0, 1) := by decide +kernel
theorem dX4_multiply_1 : decode cX4_multiply 1 = .ok (.getfield 28, 3) := by decide +kernel
theorem dX4_multiply_4 : decode cX4_multiply 4 = .ok (.lconst 0, 1) := by decide +kernel
theorem dX4_multiply_5 : decode cX4_multiply 5 = .ok (.lcmp, 1) := by decide +kernel
theorem dX4_multiply_6 : decode cX4_multiply 6 = .ok (.ifCond .ne 6, 3) := by decide +kernel
theorem dX4_multiply_9 : decode cX4_multiply 9 = .ok (.bipush (-3), 2) := by decide +kernel
theorem dX4_multiply_11 : decode cX4_multiply 11 = .ok (.ireturn, 1) := by decide +kernel
theorem dX4_multiply_12 : decode cX4_multiply 12 = .ok (.iload_n 1, 1) := by decide +kernel
theorem dX4_multiply_13 : decode cX4_multiply 13 = .ok (.invokestatic 139, 3) := by decide +kernel
theorem dX4_multiply_16 : decode cX4_multiply 16 = .ok (.ifCond .eq 17, 3) := by decide +kernel
theorem dX4_multiply_19 : decode cX4_multiply 19 = .ok (.iload_n 2, 1) := by decide +kernel
theorem dX4_multiply_20 : decode cX4_multiply 20 = .ok (.invokestatic 139, 3) := by decide +kernel
theorem dX4_multiply_23 : decode cX4_multiply 23 = .ok (.ifCond .eq 10, 3) := by decide +kernel
theorem dX4_multiply_26 : decode cX4_multiply 26 = .ok (.iload_n 3, 1) := by decide +kernel
theorem dX4_multiply_27 : decode cX4_multiply 27 = .ok (.invokestatic 139, 3) := by decide +kernel
theorem dX4_multiply_30 : decode cX4_multiply 30 = .ok (.ifCond .ne 6, 3) := by decide +kernel
theorem dX4_multiply_33 : decode cX4_multiply 33 = .ok (.bipush (-2), 2) := by decide +kernel
theorem dX4_multiply_35 : decode cX4_multiply 35 = .ok (.ireturn, 1) := by decide +kernel
theorem dX4_multiply_36 : decode cX4_multiply 36 = .ok (.aload_n 0, 1) := by decide +kernel
theorem dX4_multiply_37 : decode cX4_multiply 37 = .ok (.aload_n 0, 1) := by decide +kernel
theorem dX4_multiply_38 : decode cX4_multiply 38 = .ok (.getfield 20, 3) := by decide +kernel
theorem dX4_multiply_41 : decode cX4_multiply 41 = .ok (.iload_n 2, 1) := by decide +kernel
theorem dX4_multiply_42 : decode cX4_multiply 42 = .ok (.laload, 1) := by decide +kernel
theorem dX4_multiply_43 : decode cX4_multiply 43 = .ok (.putfield 116, 3) := by decide +kernel
theorem dX4_multiply_46 : decode cX4_multiply 46 = .ok (.aload_n 0, 1) := by decide +kernel
theorem dX4_multiply_47 : decode cX4_multiply 47 = .ok (.aload_n 0, 1) := by decide +kernel
theorem dX4_multiply_48 : decode cX4_multiply 48 = .ok (.getfield 23, 3) := by decide +kernel
theorem dX4_multiply_51 : decode cX4_multiply 51 = .ok (.iload_n 2, 1) := by decide +kernel
theorem dX4_multiply_52 : decode cX4_multiply 52 = .ok (.laload, 1) := by decide +kernel
theorem dX4_multiply_53 : decode cX4_multiply 53 = .ok (.putfield 119, 3) := by decide +kernel
theorem dX4_multiply_56 : decode cX4_multiply 56 = .ok (.aload_n 0, 1) := by decide +kernel
theorem dX4_multiply_57 : decode cX4_multiply 57 = .ok (.aload_n 0, 1) := by decide +kernel
theorem dX4_multiply_58 : decode cX4_multiply 58 = .ok (.getfield 20, 3) := by decide +kernel
theorem dX4_multiply_61 : decode cX4_multiply 61 = .ok (.iload_n 3, 1) := by decide +kernel
theorem dX4_multiply_62 : decode cX4_multiply 62 = .ok (.laload, 1) := by decide +kernel
theorem dX4_multiply_63 : decode cX4_multiply 63 = .ok (.aload_n 0, 1) := by decide +kernel
theorem dX4_multiply_64 : decode cX4_multiply 64 = .ok (.getfield 23, 3) := by decide +kernel
theorem dX4_multiply_67 : decode cX4_multiply 67 = .ok (.iload_n 3, 1) := by decide +kernel
theorem dX4_multiply_68 : decode cX4_multiply 68 = .ok (.laload, 1) := by decide +kernel
theorem dX4_multiply_69 : decode cX4_multiply 69 = .ok (.invokevirtual 122, 3) := by decide +kernel
theorem dX4_multiply_72 : decode cX4_multiply 72 = .ok (.aload_n 0, 1) := by decide +kernel
theorem dX4_multiply_73 : decode cX4_multiply 73 = .ok (.iload_n 1, 1) := by decide +kernel
theorem dX4_multiply_74 : decode cX4_multiply 74 = .ok (.invokevirtual 149, 3) := by decide +kernel
theorem dX4_multiply_77 : decode cX4_multiply 77 = .ok (.ireturn, 1) := by decide +kernel
set_option maxRecDepth 20000 in
theorem ggX4_power_X4_isValue : GoodIn wsX4_power wsX4_isValue := goodIn_r _ [9, 10, 11, 12, 8, 13] (by decide +kernel) (by decide +kernel)
set_option maxRecDepth 20000 in
theorem gX4_power_X4_isValue : GoodIn wsX4_power (va_wsS RX4 139 yX4_isValue wsX4_isValue) := goodIn_app (goodIn_of _ (by decide +kernel)) ggX4_power_X4_isValue
set_option maxRecDepth 20000 in
theorem ggX4_power_X4_power2 : GoodIn wsX4_power wsX4_power2 := goodIn_r _ [17, 3, 5, 18, 19, 20, 8, 21, 1, 26, 27, 28, 29, 30, 31, 32, 33, 34, 35, 36, 37, 38, 39] (by decide +kernel) (by decide +kernel)
set_option maxRecDepth 20000 in
theorem gX4_power_X4_power2 : GoodIn wsX4_power (wsV RX4 134 RX4 yX4_power2 wsX4_power2) := goodIn_app (goodIn_of _ (by decide +kernel)) ggX4_power_X4_power2
set_option maxRecDepth 20000 in
theorem ggX4_power_X4_keepValue : GoodIn wsX4_power wsX4_keepValue := goodIn_r _ [25, 2, 3, 4, 5, 26, 27, 28, 29, 30, 31, 32, 33, 34, 35, 36, 37, 38, 39] (by decide +kernel) (by decide +kernel)
set_option maxRecDepth 20000 in
theorem gX4_power_X4_keepValue : GoodIn wsX4_power (wsV RX4 149 RX4 yX4_keepValue wsX4_keepValue) := goodIn_app (goodIn_of _ (by decide +kernel)) ggX4_power_X4_keepValue
theorem dX4_power_0 : decode cX4_power 0 = .ok (.aload_n 0, 1) := by decide +kernel
theorem dX4_power_1 : decode cX4_power 1 = .ok (.getfield 28, 3) := by decide +kernel
theorem dX4_power_4 : decode cX4_power 4 = .ok (.lconst 0, 1) := by decide +kernel
theorem dX4_power_5 : decode cX4_power 5 = .ok (.lcmp, 1) := by decide +kernel
theorem dX4_power_6 : decode cX4_power 6 = .ok (.ifCond .ne 6, 3) := by decide +kernel
theorem dX4_power_9 : decode cX4_power 9 = .ok (.bipush (-3), 2) := by decide +kernel
theorem dX4_power_11 : decode cX4_power 11 = .ok (.ireturn, 1) := by decide +kernel
theorem dX4_power_12 : decode cX4_power 12 = .ok (.iload_n 1, 1) := by decide +kernel
theorem dX4_power_13 : decode cX4_power 13 = .ok (.invokestatic 139, 3) := by decide +kernel
theorem dX4_power_16 : decode cX4_power 16 = .ok (.ifCond .eq 16, 3) := by decide +kernel
theorem dX4_power_19 : decode cX4_power 19 = .ok (.iload_n 2, 1) := by decide +kernel
theorem dX4_power_20 : decode cX4_power 20 = .ok (.invokestatic 139, 3) := by decide +kernel
theorem dX4_power_23 : decode cX4_power 23 = .ok (.ifCond .eq 9, 3) := by decide +kernel
theorem dX4_power_26 : decode cX4_power 26 = .ok (.lload_n 3, 1) := by decide +kernel
theorem dX4_power_27 : decode cX4_power 27 = .ok (.lconst 0, 1) := by decide +kernel
theorem dX4_power_28 : decode cX4_power 28 = .ok (.lcmp, 1) := by decide +kernel
theorem dX4_power_29 : decode cX4_power 29 = .ok (.ifCond .ge 6, 3) := by decide +kernel
theorem dX4_power_32 : decode cX4_power 32 = .ok (.bipush (-2), 2) := by decide +kernel
theorem dX4_power_34 : decode cX4_power 34 = .ok (.ireturn, 1) := by decide +kernel
theorem dX4_power_35 : decode cX4_power 35 = .ok (.aload_n 0, 1) := by decide +kernel
theorem dX4_power_36 : decode cX4_power 36 = .ok (.aload_n 0, 1) := by decide +kernel
theorem dX4_power_37 : decode cX4_power 37 = .ok (.getfield 20, 3) := by decide +kernel
theorem dX4_power_40 : decode cX4_power 40 = .ok (.iload_n 2, 1) := by decide +kernel
theorem dX4_power_41 : decode cX4_power 41 = .ok (.laload, 1) := by decide +kernel
theorem dX4_power_42 : decode cX4_power 42 = .ok (.putfield 116, 3) := by decide +kernel
theorem dX4_power_45 : decode cX4_power 45 = .ok (.aload_n 0, 1) := by decide +kernel
theorem dX4_power_46 : decode cX4_power 46 = .ok (.aload_n 0, 1) := by decide +kernel
theorem dX4_power_47 : decode cX4_power 47 = .ok (.getfield 23, 3) := by decide +kernel
theorem dX4_power_50 : decode cX4_power 50 = .ok (.iload_n 2, 1) := by decide +kernel
theorem dX4_power_51 : decode cX4_power 51 = .ok (.laload, 1) := by decide +kernel
theorem dX4_power_52 : decode cX4_power 52 = .ok (.putfield 119, 3) := by decide +kernel
theorem dX4_power_55 : decode cX4_power 55 = .ok (.aload_n 0, 1) := by decide +kernel
theorem dX4_power_56 : decode cX4_power 56 = .ok (.lload_n 3, 1) := by decide +kernel
theorem dX4_power_57 : decode cX4_power 57 = .ok (.invokevirtual 134, 3) := by decide +kernel
theorem dX4_power_60 : decode cX4_power 60 = .ok (.aload_n 0, 1) := by decide +kernel
theorem dX4_power_61 : decode cX4_power 61 = .ok (.iload_n 1, 1) := by decide +kernel
theorem dX4_power_62 : decode cX4_power 62 = .ok (.invokevirtual 149, 3) := by decide +kernel
theorem dX4_power_65 : decode cX4_power 65 = .ok (.ireturn, 1) := by decide +kernel
set_option maxRecDepth 20000 in
theorem ggX4_value_X4_isValue : GoodIn wsX4_value wsX4_isValue := goodIn_r _ [7, 8, 9, 10, 6, 11] (by decide +kernel) (by decide +kernel)
set_option maxRecDepth 20000 in
theorem gX4_value_X4_isValue : GoodIn wsX4_value (va_wsS RX4 139 yX4_isValue wsX4_isValue) := goodIn_app (goodIn_of _ (by decide +kernel)) ggX4_value_X4_isValue
set_option maxRecDepth 20000 in
theorem ggX4_value_X4_in : GoodIn wsX4_value wsX4_in := goodIn_r _ [11] (by decide +kernel) (by decide +kernel)
set_option maxRecDepth 20000 in
theorem gX4_value_X4_in : GoodIn wsX4_value (va_wsS RX4 54 yX4_in wsX4_in) := goodIn_app (goodIn_of _ (by decide +kernel)) ggX4_value_X4_in
theorem dX4_value_0 : decode cX4_value 0 = .ok (.aload_n 0, 1) := by decide +kernel
theorem dX4_value_1 : decode cX4_value 1 = .ok (.getfield 28, 3) := by decide +kernel
theorem dX4_value_4 : decode cX4_value 4 = .ok (.lconst 0, 1) := by decide +kernel
theorem dX4_value_5 : decode cX4_value 5 = .ok (.lcmp, 1) := by decide +kernel
theorem dX4_value_6 : decode cX4_value 6 = .ok (.ifCond .ne 6, 3) := by decide +kernel
theorem dX4_value_9 : decode cX4_value 9 = .ok (.bipush (-3), 2) := by decide +kernel
theorem dX4_value_11 : decode cX4_value 11 = .ok (.ireturn, 1) := by decide +kernel
theorem dX4_value_12 : decode cX4_value 12 = .ok (.iload_n 1, 1) := by decide +kernel
theorem dX4_value_13 : decode cX4_value 13 = .ok (.invokestatic 139, 3) := by decide +kernel
theorem dX4_value_16 : decode cX4_value 16 = .ok (.ifCond .eq 13, 3) := by decide +kernel
theorem dX4_value_19 : decode cX4_value 19 = .ok (.iload_n 2, 1) := by decide +kernel
theorem dX4_value_20 : decode cX4_value 20 = .ok (.i2l, 1) := by decide +kernel
theorem dX4_value_21 : decode cX4_value 21 = .ok (.lconst 0, 1) := by decide +kernel
theorem dX4_value_22 : decode cX4_value 22 = .ok (.lconst 1, 1) := by decide +kernel
theorem dX4_value_23 : decode cX4_value 23 = .ok (.invokestatic 54, 3) := by decide +kernel
theorem dX4_value_26 : decode cX4_value 26 = .ok (.ifCond .ne 6, 3) := by decide +kernel
theorem dX4_value_29 : decode cX4_value 29 = .ok (.bipush (-2), 2) := by decide +kernel
theorem dX4_value_31 : decode cX4_value 31 = .ok (.ireturn, 1) := by decide +kernel
theorem dX4_value_32 : decode cX4_value 32 = .ok (.iload_n 2, 1) := by decide +kernel
theorem dX4_value_33 : decode cX4_value 33 = .ok (.ifCond .ne 12, 3) := by decide +kernel
theorem dX4_value_36 : decode cX4_value 36 = .ok (.aload_n 0, 1) := by decide +kernel
theorem dX4_value_37 : decode cX4_value 37 = .ok (.getfield 20, 3) := by decide +kernel
theorem dX4_value_40 : decode cX4_value 40 = .ok (.iload_n 1, 1) := by decide +kernel
theorem dX4_value_41 : decode cX4_value 41 = .ok (.laload, 1) := by decide +kernel
theorem dX4_value_42 : decode cX4_value 42 = .ok (.goto 9, 3) := by decide +kernel
theorem dX4_value_45 : decode cX4_value 45 = .ok (.aload_n 0, 1) := by decide +kernel
theorem dX4_value_46 : decode cX4_value 46 = .ok (.getfield 23, 3) := by decide +kernel
theorem dX4_value_49 : decode cX4_value 49 = .ok (.iload_n 1, 1) := by decide +kernel
theorem dX4_value_50 : decode cX4_value 50 = .ok (.laload, 1) := by decide +kernel
theorem dX4_value_51 : decode cX4_value 51 = .ok (.l2i, 1) := by decide +kernel
theorem dX4_value_52 : decode cX4_value 52 = .ok (.ireturn, 1) := by decide +kernel
set_option maxRecDepth 20000 in
theorem ggX4_open_X4_isSlot : GoodIn wsX4_open wsX4_isSlot := goodIn_r _ [6, 7, 8, 9, 5, 10] (by decide +kernel) (by decide +kernel)
set_option maxRecDepth 20000 in
theorem gX4_open_X4_isSlot : GoodIn wsX4_open (va_wsS RX4 86 yX4_isSlot wsX4_isSlot) := goodIn_app (goodIn_of _ (by decide +kernel)) ggX4_open_X4_isSlot
set_option maxRecDepth 20000 in
theorem ggX4_open_X4_in : GoodIn wsX4_open wsX4_in := goodIn_r _ [10] (by decide +kernel) (by decide +kernel)
set_option maxRecDepth 20000 in
theorem gX4_open_X4_in : GoodIn wsX4_open (va_wsS RX4 54 yX4_in wsX4_in) := goodIn_app (goodIn_of _ (by decide +kernel)) ggX4_open_X4_in
set_option maxRecDepth 20000 in
theorem ggX4_open_X4_turnOf : GoodIn wsX4_open wsX4_turnOf := goodIn_r _ [14, 1, 15, 16, 17, 18, 19, 20, 21, 22, 23, 5, 24, 25, 26, 27, 28, 29, 30, 31, 32, 33, 34, 35, 36, 37, 38, 39, 40, 41, 42, 43, 44, 45, 46, 47, 48, 49, 50, 51, 52, 53, 54, 62, 63, 64, 65, 66, 67, 68, 69, 70, 71, 72, 73, 74, 75] (by decide +kernel) (by decide +kernel)
set_option maxRecDepth 20000 in
theorem gX4_open_X4_turnOf : GoodIn wsX4_open (wsV RX4 101 RX4 yX4_turnOf wsX4_turnOf) := goodIn_app (goodIn_of _ (by decide +kernel)) ggX4_open_X4_turnOf
set_option maxRecDepth 20000 in
theorem ggX4_open_X4_take : GoodIn wsX4_open wsX4_take := goodIn_r _ [41, 17, 18, 19, 42, 43, 44, 5, 45, 1, 46, 47, 48, 49, 50, 15, 51, 52, 53, 54, 30, 31, 32, 33, 34, 35, 36, 37, 62, 63, 64, 65, 66, 67, 68, 69, 70, 71, 72, 73, 74, 75] (by decide +kernel) (by decide +kernel)
set_option maxRecDepth 20000 in
theorem gX4_open_X4_take : GoodIn wsX4_open (wsV RX4 97 RX4 yX4_take wsX4_take) := goodIn_app (goodIn_of _ (by decide +kernel)) ggX4_open_X4_take
set_option maxRecDepth 20000 in
theorem ggX4_open_X4_store : GoodIn wsX4_open wsX4_store := goodIn_r _ [58, 59, 17, 60, 18, 61, 19, 62, 63, 64, 65, 66, 67, 68, 69, 70, 71, 72, 73, 74, 75] (by decide +kernel) (by decide +kernel)
set_option maxRecDepth 20000 in
theorem gX4_open_X4_store : GoodIn wsX4_open (wsV RX4 93 RX4 yX4_store wsX4_store) := goodIn_app (goodIn_of _ (by decide +kernel)) ggX4_open_X4_store
theorem dX4_open_0 : decode cX4_open 0 = .ok (.aload_n 0, 1) := by decide +kernel
theorem dX4_open_1 : decode cX4_open 1 = .ok (.getfield 28, 3) := by decide +kernel
theorem dX4_open_4 : decode cX4_open 4 = .ok (.lconst 0, 1) := by decide +kernel
theorem dX4_open_5 : decode cX4_open 5 = .ok (.lcmp, 1) := by decide +kernel
theorem dX4_open_6 : decode cX4_open 6 = .ok (.ifCond .ne 6, 3) := by decide +kernel
theorem dX4_open_9 : decode cX4_open 9 = .ok (.bipush (-3), 2) := by decide +kernel
theorem dX4_open_11 : decode cX4_open 11 = .ok (.ireturn, 1) := by decide +kernel
theorem dX4_open_12 : decode cX4_open 12 = .ok (.iload_n 1, 1) := by decide +kernel
theorem dX4_open_13 : decode cX4_open 13 = .ok (.invokestatic 86, 3) := by decide +kernel
theorem dX4_open_16 : decode cX4_open 16 = .ok (.ifCond .eq 18, 3) := by decide +kernel
theorem dX4_open_19 : decode cX4_open 19 = .ok (.iload_n 2, 1) := by decide +kernel
theorem dX4_open_20 : decode cX4_open 20 = .ok (.i2l, 1) := by decide +kernel
theorem dX4_open_21 : decode cX4_open 21 = .ok (.lconst 1, 1) := by decide +kernel
theorem dX4_open_22 : decode cX4_open 22 = .ok (.aload_n 0, 1) := by decide +kernel
theorem dX4_open_23 : decode cX4_open 23 = .ok (.getfield 48, 3) := by decide +kernel
theorem dX4_open_26 : decode cX4_open 26 = .ok (.lconst 1, 1) := by decide +kernel
theorem dX4_open_27 : decode cX4_open 27 = .ok (.lsub, 1) := by decide +kernel
theorem dX4_open_28 : decode cX4_open 28 = .ok (.invokestatic 54, 3) := by decide +kernel
theorem dX4_open_31 : decode cX4_open 31 = .ok (.ifCond .ne 6, 3) := by decide +kernel
theorem dX4_open_34 : decode cX4_open 34 = .ok (.bipush (-2), 2) := by decide +kernel
theorem dX4_open_36 : decode cX4_open 36 = .ok (.ireturn, 1) := by decide +kernel
theorem dX4_open_37 : decode cX4_open 37 = .ok (.aload_n 0, 1) := by decide +kernel
theorem dX4_open_38 : decode cX4_open 38 = .ok (.lconst 1, 1) := by decide +kernel
theorem dX4_open_39 : decode cX4_open 39 = .ok (.invokevirtual 101, 3) := by decide +kernel
theorem dX4_open_42 : decode cX4_open 42 = .ok (.istore_n 3, 1) := by decide +kernel
theorem dX4_open_43 : decode cX4_open 43 = .ok (.aload_n 0, 1) := by decide +kernel
theorem dX4_open_44 : decode cX4_open 44 = .ok (.iload_n 2, 1) := by decide +kernel
theorem dX4_open_45 : decode cX4_open 45 = .ok (.i2l, 1) := by decide +kernel
theorem dX4_open_46 : decode cX4_open 46 = .ok (.invokevirtual 97, 3) := by decide +kernel
theorem dX4_open_49 : decode cX4_open 49 = .ok (.aload_n 0, 1) := by decide +kernel
theorem dX4_open_50 : decode cX4_open 50 = .ok (.iload_n 1, 1) := by decide +kernel
theorem dX4_open_51 : decode cX4_open 51 = .ok (.invokevirtual 93, 3) := by decide +kernel
theorem dX4_open_54 : decode cX4_open 54 = .ok (.iconst 1, 1) := by decide +kernel
theorem dX4_open_55 : decode cX4_open 55 = .ok (.ireturn, 1) := by decide +kernel
set_option maxRecDepth 20000 in
theorem ggX4_sign_X4_isSlot : GoodIn wsX4_sign wsX4_isSlot := goodIn_r _ [6, 7, 8, 9, 5, 10] (by decide +kernel) (by decide +kernel)
set_option maxRecDepth 20000 in
theorem gX4_sign_X4_isSlot : GoodIn wsX4_sign (va_wsS RX4 86 yX4_isSlot wsX4_isSlot) := goodIn_app (goodIn_of _ (by decide +kernel)) ggX4_sign_X4_isSlot
set_option maxRecDepth 20000 in
theorem ggX4_sign_X4_in : GoodIn wsX4_sign wsX4_in := goodIn_r _ [10] (by decide +kernel) (by decide +kernel)
set_option maxRecDepth 20000 in
theorem gX4_sign_X4_in : GoodIn wsX4_sign (va_wsS RX4 54 yX4_in wsX4_in) := goodIn_app (goodIn_of _ (by decide +kernel)) ggX4_sign_X4_in
set_option maxRecDepth 20000 in
theorem ggX4_sign_X4_turnOf : GoodIn wsX4_sign wsX4_turnOf := goodIn_r _ [14, 1, 15, 16, 17, 18, 19, 20, 21, 22, 23, 5, 24, 25, 26, 27, 28, 29, 30, 31, 32, 33, 34, 35, 36, 37, 38, 39, 40, 41, 42, 43, 44, 45, 46, 47, 48, 49, 50, 51, 52, 53, 54, 62, 63, 64, 65, 66, 67, 68, 69, 70, 71, 72, 73, 74, 75] (by decide +kernel) (by decide +kernel)
set_option maxRecDepth 20000 in
theorem gX4_sign_X4_turnOf : GoodIn wsX4_sign (wsV RX4 101 RX4 yX4_turnOf wsX4_turnOf) := goodIn_app (goodIn_of _ (by decide +kernel)) ggX4_sign_X4_turnOf
set_option maxRecDepth 20000 in
theorem ggX4_sign_X4_take : GoodIn wsX4_sign wsX4_take := goodIn_r _ [41, 17, 18, 19, 42, 43, 44, 5, 45, 1, 46, 47, 48, 49, 50, 15, 51, 52, 53, 54, 30, 31, 32, 33, 34, 35, 36, 37, 62, 63, 64, 65, 66, 67, 68, 69, 70, 71, 72, 73, 74, 75] (by decide +kernel) (by decide +kernel)
set_option maxRecDepth 20000 in
theorem gX4_sign_X4_take : GoodIn wsX4_sign (wsV RX4 97 RX4 yX4_take wsX4_take) := goodIn_app (goodIn_of _ (by decide +kernel)) ggX4_sign_X4_take
set_option maxRecDepth 20000 in
theorem ggX4_sign_X4_store : GoodIn wsX4_sign wsX4_store := goodIn_r _ [58, 59, 17, 60, 18, 61, 19, 62, 63, 64, 65, 66, 67, 68, 69, 70, 71, 72, 73, 74, 75] (by decide +kernel) (by decide +kernel)
set_option maxRecDepth 20000 in
theorem gX4_sign_X4_store : GoodIn wsX4_sign (wsV RX4 93 RX4 yX4_store wsX4_store) := goodIn_app (goodIn_of _ (by decide +kernel)) ggX4_sign_X4_store
theorem dX4_sign_0 : decode cX4_sign 0 = .ok (.aload_n 0, 1) := by decide +kernel
theorem dX4_sign_1 : decode cX4_sign 1 = .ok (.getfield 28, 3) := by decide +kernel
theorem dX4_sign_4 : decode cX4_sign 4 = .ok (.lconst 0, 1) := by decide +kernel
theorem dX4_sign_5 : decode cX4_sign 5 = .ok (.lcmp, 1) := by decide +kernel
theorem dX4_sign_6 : decode cX4_sign 6 = .ok (.ifCond .ne 6, 3) := by decide +kernel
theorem dX4_sign_9 : decode cX4_sign 9 = .ok (.bipush (-3), 2) := by decide +kernel
theorem dX4_sign_11 : decode cX4_sign 11 = .ok (.ireturn, 1) := by decide +kernel
theorem dX4_sign_12 : decode cX4_sign 12 = .ok (.iload_n 1, 1) := by decide +kernel
theorem dX4_sign_13 : decode cX4_sign 13 = .ok (.invokestatic 86, 3) := by decide +kernel
theorem dX4_sign_16 : decode cX4_sign 16 = .ok (.ifCond .eq 18, 3) := by decide +kernel
theorem dX4_sign_19 : decode cX4_sign 19 = .ok (.iload_n 2, 1) := by decide +kernel
theorem dX4_sign_20 : decode cX4_sign 20 = .ok (.i2l, 1) := by decide +kernel
theorem dX4_sign_21 : decode cX4_sign 21 = .ok (.lconst 1, 1) := by decide +kernel
theorem dX4_sign_22 : decode cX4_sign 22 = .ok (.aload_n 0, 1) := by decide +kernel
theorem dX4_sign_23 : decode cX4_sign 23 = .ok (.getfield 48, 3) := by decide +kernel
theorem dX4_sign_26 : decode cX4_sign 26 = .ok (.lconst 1, 1) := by decide +kernel
theorem dX4_sign_27 : decode cX4_sign 27 = .ok (.lsub, 1) := by decide +kernel
theorem dX4_sign_28 : decode cX4_sign 28 = .ok (.invokestatic 54, 3) := by decide +kernel
theorem dX4_sign_31 : decode cX4_sign 31 = .ok (.ifCond .ne 6, 3) := by decide +kernel
theorem dX4_sign_34 : decode cX4_sign 34 = .ok (.bipush (-2), 2) := by decide +kernel
theorem dX4_sign_36 : decode cX4_sign 36 = .ok (.ireturn, 1) := by decide +kernel
theorem dX4_sign_37 : decode cX4_sign 37 = .ok (.aload_n 0, 1) := by decide +kernel
theorem dX4_sign_38 : decode cX4_sign 38 = .ok (.lload_n 3, 1) := by decide +kernel
theorem dX4_sign_39 : decode cX4_sign 39 = .ok (.invokevirtual 101, 3) := by decide +kernel
theorem dX4_sign_42 : decode cX4_sign 42 = .ok (.istore 5, 2) := by decide +kernel
theorem dX4_sign_44 : decode cX4_sign 44 = .ok (.aload_n 0, 1) := by decide +kernel
theorem dX4_sign_45 : decode cX4_sign 45 = .ok (.iload_n 2, 1) := by decide +kernel
theorem dX4_sign_46 : decode cX4_sign 46 = .ok (.i2l, 1) := by decide +kernel
theorem dX4_sign_47 : decode cX4_sign 47 = .ok (.invokevirtual 97, 3) := by decide +kernel
theorem dX4_sign_50 : decode cX4_sign 50 = .ok (.aload_n 0, 1) := by decide +kernel
theorem dX4_sign_51 : decode cX4_sign 51 = .ok (.iload_n 1, 1) := by decide +kernel
theorem dX4_sign_52 : decode cX4_sign 52 = .ok (.invokevirtual 93, 3) := by decide +kernel
theorem dX4_sign_55 : decode cX4_sign 55 = .ok (.iconst 1, 1) := by decide +kernel
theorem dX4_sign_56 : decode cX4_sign 56 = .ok (.ireturn, 1) := by decide +kernel
set_option maxRecDepth 20000 in
theorem ggX4_pairWithBase_X4_turnOf : GoodIn wsX4_pairWithBase wsX4_turnOf := goodIn_r _ [11, 12, 13, 14, 4, 5, 6, 15, 16, 17, 18, 10, 19, 20, 21, 22, 23, 24, 25, 26, 27, 28, 29, 30, 31, 32, 33, 34, 35, 36, 37, 38, 39, 40, 41, 42, 43, 44, 45, 46, 47, 48, 49, 70, 71, 72, 73, 74, 75, 76, 77, 78, 79, 80, 81, 82, 83] (by decide +kernel) (by decide +kernel)
set_option maxRecDepth 20000 in
theorem gX4_pairWithBase_X4_turnOf : GoodIn wsX4_pairWithBase (wsV RX4 101 RX4 yX4_turnOf wsX4_turnOf) := goodIn_app (goodIn_of _ (by decide +kernel)) ggX4_pairWithBase_X4_turnOf
set_option maxRecDepth 20000 in
theorem ggX4_pairWithBase_X4_pairOf : GoodIn wsX4_pairWithBase wsX4_pairOf := goodIn_r _ [53, 54, 55, 56, 4, 5, 6, 57, 12, 58, 59, 60, 10, 61, 62, 63, 64, 65, 29, 30, 31, 32, 41, 42, 43, 44, 45, 13, 46, 47, 48, 49, 25, 26, 27, 28, 37, 38, 39, 40, 66, 67, 68, 69, 70, 71, 72, 73, 74, 75, 76, 77, 78, 79, 80, 81, 82, 83] (by decide +kernel) (by decide +kernel)
set_option maxRecDepth 20000 in
theorem gX4_pairWithBase_X4_pairOf : GoodIn wsX4_pairWithBase (wsV RX4 145 RX4 yX4_pairOf wsX4_pairOf) := goodIn_app (goodIn_of _ (by decide +kernel)) ggX4_pairWithBase_X4_pairOf
theorem dX4_pairWithBase_0 : decode cX4_pairWithBase 0 = .ok (.aload_n 0, 1) := by decide +kernel
theorem dX4_pairWithBase_1 : decode cX4_pairWithBase 1 = .ok (.lconst 1, 1) := by decide +kernel
theorem dX4_pairWithBase_2 : decode cX4_pairWithBase 2 = .ok (.invokevirtual 101, 3) := by decide +kernel
theorem dX4_pairWithBase_5 : decode cX4_pairWithBase 5 = .ok (.istore_n 2, 1) := by decide +kernel
theorem dX4_pairWithBase_6 : decode cX4_pairWithBase 6 = .ok (.aload_n 0, 1) := by decide +kernel
theorem dX4_pairWithBase_7 : decode cX4_pairWithBase 7 = .ok (.aload_n 0, 1) := by decide +kernel
theorem dX4_pairWithBase_8 : decode cX4_pairWithBase 8 = .ok (.getfield 7, 3) := by decide +kernel
theorem dX4_pairWithBase_11 : decode cX4_pairWithBase 11 = .ok (.iload_n 1, 1) := by decide +kernel
theorem dX4_pairWithBase_12 : decode cX4_pairWithBase 12 = .ok (.laload, 1) := by decide +kernel
theorem dX4_pairWithBase_13 : decode cX4_pairWithBase 13 = .ok (.aload_n 0, 1) := by decide +kernel
theorem dX4_pairWithBase_14 : decode cX4_pairWithBase 14 = .ok (.getfield 13, 3) := by decide +kernel
theorem dX4_pairWithBase_17 : decode cX4_pairWithBase 17 = .ok (.iload_n 1, 1) := by decide +kernel
theorem dX4_pairWithBase_18 : decode cX4_pairWithBase 18 = .ok (.laload, 1) := by decide +kernel
theorem dX4_pairWithBase_19 : decode cX4_pairWithBase 19 = .ok (.aload_n 0, 1) := by decide +kernel
theorem dX4_pairWithBase_20 : decode cX4_pairWithBase 20 = .ok (.getfield 16, 3) := by decide +kernel
theorem dX4_pairWithBase_23 : decode cX4_pairWithBase 23 = .ok (.iload_n 1, 1) := by decide +kernel
theorem dX4_pairWithBase_24 : decode cX4_pairWithBase 24 = .ok (.baload, 1) := by decide +kernel
theorem dX4_pairWithBase_25 : decode cX4_pairWithBase 25 = .ok (.aload_n 0, 1) := by decide +kernel
theorem dX4_pairWithBase_26 : decode cX4_pairWithBase 26 = .ok (.getfield 61, 3) := by decide +kernel
theorem dX4_pairWithBase_29 : decode cX4_pairWithBase 29 = .ok (.aload_n 0, 1) := by decide +kernel
theorem dX4_pairWithBase_30 : decode cX4_pairWithBase 30 = .ok (.getfield 64, 3) := by decide +kernel
theorem dX4_pairWithBase_33 : decode cX4_pairWithBase 33 = .ok (.aload_n 0, 1) := by decide +kernel
theorem dX4_pairWithBase_34 : decode cX4_pairWithBase 34 = .ok (.getfield 67, 3) := by decide +kernel
theorem dX4_pairWithBase_37 : decode cX4_pairWithBase 37 = .ok (.invokevirtual 145, 3) := by decide +kernel
theorem dX4_pairWithBase_40 : decode cX4_pairWithBase 40 = .ok (.return_, 1) := by decide +kernel
set_option maxRecDepth 20000 in
theorem ggX4_pairTurned_X4_turnOf : GoodIn wsX4_pairTurned wsX4_turnOf := goodIn_r _ [11, 12, 13, 14, 1, 2, 3, 15, 16, 17, 18, 10, 19, 20, 21, 22, 23, 24, 25, 26, 27, 28, 29, 30, 31, 32, 33, 34, 35, 36, 37, 38, 39, 40, 41, 42, 43, 44, 45, 46, 47, 48, 49, 70, 71, 72, 73, 74, 75, 76, 77, 78, 79, 80, 81, 82, 83] (by decide +kernel) (by decide +kernel)
set_option maxRecDepth 20000 in
theorem gX4_pairTurned_X4_turnOf : GoodIn wsX4_pairTurned (wsV RX4 101 RX4 yX4_turnOf wsX4_turnOf) := goodIn_app (goodIn_of _ (by decide +kernel)) ggX4_pairTurned_X4_turnOf
set_option maxRecDepth 20000 in
theorem ggX4_pairTurned_X4_pairOf : GoodIn wsX4_pairTurned wsX4_pairOf := goodIn_r _ [53, 54, 55, 56, 1, 2, 3, 57, 12, 58, 59, 60, 10, 61, 62, 63, 64, 65, 29, 30, 31, 32, 41, 42, 43, 44, 45, 13, 46, 47, 48, 49, 25, 26, 27, 28, 37, 38, 39, 40, 66, 67, 68, 69, 70, 71, 72, 73, 74, 75, 76, 77, 78, 79, 80, 81, 82, 83] (by decide +kernel) (by decide +kernel)
set_option maxRecDepth 20000 in
theorem gX4_pairTurned_X4_pairOf : GoodIn wsX4_pairTurned (wsV RX4 145 RX4 yX4_pairOf wsX4_pairOf) := goodIn_app (goodIn_of _ (by decide +kernel)) ggX4_pairTurned_X4_pairOf
theorem dX4_pairTurned_0 : decode cX4_pairTurned 0 = .ok (.aload_n 0, 1) := by decide +kernel
theorem dX4_pairTurned_1 : decode cX4_pairTurned 1 = .ok (.lload_n 1, 1) := by decide +kernel
theorem dX4_pairTurned_2 : decode cX4_pairTurned 2 = .ok (.invokevirtual 101, 3) := by decide +kernel
theorem dX4_pairTurned_5 : decode cX4_pairTurned 5 = .ok (.istore 4, 2) := by decide +kernel
theorem dX4_pairTurned_7 : decode cX4_pairTurned 7 = .ok (.aload_n 0, 1) := by decide +kernel
theorem dX4_pairTurned_8 : decode cX4_pairTurned 8 = .ok (.aload_n 0, 1) := by decide +kernel
theorem dX4_pairTurned_9 : decode cX4_pairTurned 9 = .ok (.getfield 61, 3) := by decide +kernel
theorem dX4_pairTurned_12 : decode cX4_pairTurned 12 = .ok (.aload_n 0, 1) := by decide +kernel
theorem dX4_pairTurned_13 : decode cX4_pairTurned 13 = .ok (.getfield 64, 3) := by decide +kernel
theorem dX4_pairTurned_16 : decode cX4_pairTurned 16 = .ok (.aload_n 0, 1) := by decide +kernel
theorem dX4_pairTurned_17 : decode cX4_pairTurned 17 = .ok (.getfield 67, 3) := by decide +kernel
theorem dX4_pairTurned_20 : decode cX4_pairTurned 20 = .ok (.aload_n 0, 1) := by decide +kernel
theorem dX4_pairTurned_21 : decode cX4_pairTurned 21 = .ok (.getfield 7, 3) := by decide +kernel
theorem dX4_pairTurned_24 : decode cX4_pairTurned 24 = .ok (.iload_n 3, 1) := by decide +kernel
theorem dX4_pairTurned_25 : decode cX4_pairTurned 25 = .ok (.laload, 1) := by decide +kernel
theorem dX4_pairTurned_26 : decode cX4_pairTurned 26 = .ok (.aload_n 0, 1) := by decide +kernel
theorem dX4_pairTurned_27 : decode cX4_pairTurned 27 = .ok (.getfield 13, 3) := by decide +kernel
theorem dX4_pairTurned_30 : decode cX4_pairTurned 30 = .ok (.iload_n 3, 1) := by decide +kernel
theorem dX4_pairTurned_31 : decode cX4_pairTurned 31 = .ok (.laload, 1) := by decide +kernel
theorem dX4_pairTurned_32 : decode cX4_pairTurned 32 = .ok (.aload_n 0, 1) := by decide +kernel
theorem dX4_pairTurned_33 : decode cX4_pairTurned 33 = .ok (.getfield 16, 3) := by decide +kernel
theorem dX4_pairTurned_36 : decode cX4_pairTurned 36 = .ok (.iload_n 3, 1) := by decide +kernel
theorem dX4_pairTurned_37 : decode cX4_pairTurned 37 = .ok (.baload, 1) := by decide +kernel
theorem dX4_pairTurned_38 : decode cX4_pairTurned 38 = .ok (.invokevirtual 145, 3) := by decide +kernel
theorem dX4_pairTurned_41 : decode cX4_pairTurned 41 = .ok (.return_, 1) := by decide +kernel
set_option maxRecDepth 20000 in
theorem ggX4_holds_X4_isSlot : GoodIn wsX4_holds wsX4_isSlot := goodIn_r _ [8, 9, 10, 11, 7, 12] (by decide +kernel) (by decide +kernel)
set_option maxRecDepth 20000 in
theorem gX4_holds_X4_isSlot : GoodIn wsX4_holds (va_wsS RX4 86 yX4_isSlot wsX4_isSlot) := goodIn_app (goodIn_of _ (by decide +kernel)) ggX4_holds_X4_isSlot
set_option maxRecDepth 20000 in
theorem ggX4_holds_X4_isOfR : GoodIn wsX4_holds wsX4_isOfR := goodIn_r _ [16, 17, 18, 19, 20, 21, 7, 22, 23, 24, 25, 26, 2, 27, 28, 29, 30, 31, 32, 33, 34, 1, 35, 36, 37, 38, 39, 40, 41, 42, 43, 44, 45, 46, 47, 48, 49, 50, 51, 52, 93, 94, 95, 96, 97, 98, 99, 100, 101, 102, 103, 104, 105, 106] (by decide +kernel) (by decide +kernel)
set_option maxRecDepth 20000 in
theorem gX4_holds_X4_isOfR : GoodIn wsX4_holds (wsV RX4 142 RX4 yX4_isOfR wsX4_isOfR) := goodIn_app (goodIn_of _ (by decide +kernel)) ggX4_holds_X4_isOfR
set_option maxRecDepth 20000 in
theorem ggX4_holds_X4_pairWithBase : GoodIn wsX4_holds wsX4_pairWithBase := goodIn_r _ [56, 23, 25, 2, 24, 26, 18, 57, 58, 59, 7, 60, 1, 40, 61, 62, 63, 64, 65, 66, 67, 68, 69, 70, 71, 45, 46, 47, 48, 49, 50, 51, 52, 27, 28, 29, 30, 31, 32, 33, 34, 35, 36, 37, 38, 39, 41, 42, 43, 44, 72, 73, 74, 75, 3, 4, 76, 17, 77, 78, 79, 80, 81, 82, 83, 84, 85, 86, 87, 88, 93, 94, 95, 96, 97, 98, 99, 100, 101, 102, 103, 104, 105, 106] (by decide +kernel) (by decide +kernel)
set_option maxRecDepth 20000 in
theorem gX4_holds_X4_pairWithBase : GoodIn wsX4_holds (wsV RX4 153 RX4 yX4_pairWithBase wsX4_pairWithBase) := goodIn_app (goodIn_of _ (by decide +kernel)) ggX4_holds_X4_pairWithBase
set_option maxRecDepth 20000 in
theorem ggX4_holds_X4_pairTurned : GoodIn wsX4_holds wsX4_pairTurned := goodIn_r _ [92, 24, 26, 18, 23, 25, 2, 57, 58, 59, 7, 60, 1, 40, 61, 62, 63, 64, 65, 66, 67, 68, 69, 70, 71, 45, 46, 47, 48, 49, 50, 51, 52, 27, 28, 29, 30, 31, 32, 33, 34, 35, 36, 37, 38, 39, 41, 42, 43, 44, 72, 73, 74, 75, 3, 4, 76, 17, 77, 78, 79, 80, 81, 82, 83, 84, 85, 86, 87, 88, 93, 94, 95, 96, 97, 98, 99, 100, 101, 102, 103, 104, 105, 106] (by decide +kernel) (by decide +kernel)
set_option maxRecDepth 20000 in
theorem gX4_holds_X4_pairTurned : GoodIn wsX4_holds (wsV RX4 156 RX4 yX4_pairTurned wsX4_pairTurned) := goodIn_app (goodIn_of _ (by decide +kernel)) ggX4_holds_X4_pairTurned
theorem dX4_holds_0 : decode cX4_holds 0 = .ok (.aload_n 0, 1) := by decide +kernel
theorem dX4_holds_1 : decode cX4_holds 1 = .ok (.getfield 28, 3) := by decide +kernel
theorem dX4_holds_4 : decode cX4_holds 4 = .ok (.lconst 0, 1) := by decide +kernel
theorem dX4_holds_5 : decode cX4_holds 5 = .ok (.lcmp, 1) := by decide +kernel
theorem dX4_holds_6 : decode cX4_holds 6 = .ok (.ifCond .ne 6, 3) := by decide +kernel
theorem dX4_holds_9 : decode cX4_holds 9 = .ok (.bipush (-3), 2) := by decide +kernel
theorem dX4_holds_11 : decode cX4_holds 11 = .ok (.ireturn, 1) := by decide +kernel
theorem dX4_holds_12 : decode cX4_holds 12 = .ok (.iload_n 1, 1) := by decide +kernel
theorem dX4_holds_13 : decode cX4_holds 13 = .ok (.invokestatic 86, 3) := by decide +kernel
theorem dX4_holds_16 : decode cX4_holds 16 = .ok (.ifCond .eq 11, 3) := by decide +kernel
theorem dX4_holds_19 : decode cX4_holds 19 = .ok (.iload 4, 2) := by decide +kernel
theorem dX4_holds_21 : decode cX4_holds 21 = .ok (.invokestatic 86, 3) := by decide +kernel
theorem dX4_holds_24 : decode cX4_holds 24 = .ok (.ifCond .ne 6, 3) := by decide +kernel
theorem dX4_holds_27 : decode cX4_holds 27 = .ok (.bipush (-2), 2) := by decide +kernel
theorem dX4_holds_29 : decode cX4_holds 29 = .ok (.ireturn, 1) := by decide +kernel
theorem dX4_holds_30 : decode cX4_holds 30 = .ok (.aload_n 0, 1) := by decide +kernel
theorem dX4_holds_31 : decode cX4_holds 31 = .ok (.iload 4, 2) := by decide +kernel
theorem dX4_holds_33 : decode cX4_holds 33 = .ok (.invokevirtual 142, 3) := by decide +kernel
theorem dX4_holds_36 : decode cX4_holds 36 = .ok (.ifCond .eq 20, 3) := by decide +kernel
theorem dX4_holds_39 : decode cX4_holds 39 = .ok (.aload_n 0, 1) := by decide +kernel
theorem dX4_holds_40 : decode cX4_holds 40 = .ok (.iload_n 1, 1) := by decide +kernel
theorem dX4_holds_41 : decode cX4_holds 41 = .ok (.invokevirtual 142, 3) := by decide +kernel
theorem dX4_holds_44 : decode cX4_holds 44 = .ok (.ifCond .eq 12, 3) := by decide +kernel
theorem dX4_holds_47 : decode cX4_holds 47 = .ok (.aload_n 0, 1) := by decide +kernel
theorem dX4_holds_48 : decode cX4_holds 48 = .ok (.getfield 16, 3) := by decide +kernel
theorem dX4_holds_51 : decode cX4_holds 51 = .ok (.iload_n 1, 1) := by decide +kernel
theorem dX4_holds_52 : decode cX4_holds 52 = .ok (.baload, 1) := by decide +kernel
theorem dX4_holds_53 : decode cX4_holds 53 = .ok (.ifCond .ne 5, 3) := by decide +kernel
theorem dX4_holds_56 : decode cX4_holds 56 = .ok (.iconst 0, 1) := by decide +kernel
theorem dX4_holds_57 : decode cX4_holds 57 = .ok (.ireturn, 1) := by decide +kernel
theorem dX4_holds_58 : decode cX4_holds 58 = .ok (.aload_n 0, 1) := by decide +kernel
theorem dX4_holds_59 : decode cX4_holds 59 = .ok (.iload 4, 2) := by decide +kernel
theorem dX4_holds_61 : decode cX4_holds 61 = .ok (.invokevirtual 153, 3) := by decide +kernel
theorem dX4_holds_64 : decode cX4_holds 64 = .ok (.aload_n 0, 1) := by decide +kernel
theorem dX4_holds_65 : decode cX4_holds 65 = .ok (.getfield 116, 3) := by decide +kernel
theorem dX4_holds_68 : decode cX4_holds 68 = .ok (.lstore 5, 2) := by decide +kernel
theorem dX4_holds_70 : decode cX4_holds 70 = .ok (.aload_n 0, 1) := by decide +kernel
theorem dX4_holds_71 : decode cX4_holds 71 = .ok (.getfield 119, 3) := by decide +kernel
theorem dX4_holds_74 : decode cX4_holds 74 = .ok (.lstore 7, 2) := by decide +kernel
theorem dX4_holds_76 : decode cX4_holds 76 = .ok (.aload_n 0, 1) := by decide +kernel
theorem dX4_holds_77 : decode cX4_holds 77 = .ok (.lload_n 2, 1) := by decide +kernel
theorem dX4_holds_78 : decode cX4_holds 78 = .ok (.iload_n 1, 1) := by decide +kernel
theorem dX4_holds_79 : decode cX4_holds 79 = .ok (.invokevirtual 156, 3) := by decide +kernel
theorem dX4_holds_82 : decode cX4_holds 82 = .ok (.aload_n 0, 1) := by decide +kernel
theorem dX4_holds_83 : decode cX4_holds 83 = .ok (.getfield 116, 3) := by decide +kernel
theorem dX4_holds_86 : decode cX4_holds 86 = .ok (.lload 5, 2) := by decide +kernel
theorem dX4_holds_88 : decode cX4_holds 88 = .ok (.lcmp, 1) := by decide +kernel
theorem dX4_holds_89 : decode cX4_holds 89 = .ok (.ifCond .ne 17, 3) := by decide +kernel
theorem dX4_holds_92 : decode cX4_holds 92 = .ok (.aload_n 0, 1) := by decide +kernel
theorem dX4_holds_93 : decode cX4_holds 93 = .ok (.getfield 119, 3) := by decide +kernel
theorem dX4_holds_96 : decode cX4_holds 96 = .ok (.lload 7, 2) := by decide +kernel
theorem dX4_holds_98 : decode cX4_holds 98 = .ok (.lcmp, 1) := by decide +kernel
theorem dX4_holds_99 : decode cX4_holds 99 = .ok (.ifCond .ne 7, 3) := by decide +kernel
theorem dX4_holds_102 : decode cX4_holds 102 = .ok (.iconst 1, 1) := by decide +kernel
theorem dX4_holds_103 : decode cX4_holds 103 = .ok (.goto 4, 3) := by decide +kernel
theorem dX4_holds_106 : decode cX4_holds 106 = .ok (.iconst 0, 1) := by decide +kernel
theorem dX4_holds_107 : decode cX4_holds 107 = .ok (.ireturn, 1) := by decide +kernel
set_option maxRecDepth 20000 in
theorem ggX4_holdsAll_X4_isSlot : GoodIn wsX4_holdsAll wsX4_isSlot := goodIn_r _ [9, 10, 11, 12, 8, 13] (by decide +kernel) (by decide +kernel)
set_option maxRecDepth 20000 in
theorem gX4_holdsAll_X4_isSlot : GoodIn wsX4_holdsAll (va_wsS RX4 86 yX4_isSlot wsX4_isSlot) := goodIn_app (goodIn_of _ (by decide +kernel)) ggX4_holdsAll_X4_isSlot
set_option maxRecDepth 20000 in
theorem ggX4_holdsAll_X4_in : GoodIn wsX4_holdsAll wsX4_in := goodIn_r _ [13] (by decide +kernel) (by decide +kernel)
set_option maxRecDepth 20000 in
theorem gX4_holdsAll_X4_in : GoodIn wsX4_holdsAll (va_wsS RX4 54 yX4_in wsX4_in) := goodIn_app (goodIn_of _ (by decide +kernel)) ggX4_holdsAll_X4_in
set_option maxRecDepth 20000 in
theorem ggX4_holdsAll_X4_isOfR : GoodIn wsX4_holdsAll wsX4_isOfR := goodIn_r _ [17, 18, 19, 20, 21, 22, 8, 23, 24, 25, 26, 27, 3, 28, 29, 30, 31, 32, 33, 34, 35, 1, 36, 37, 38, 39, 40, 41, 42, 43, 44, 45, 46, 47, 48, 49, 50, 51, 52, 53, 94, 95, 96, 97, 98, 99, 100, 101, 102, 103, 104, 105, 106, 107] (by decide +kernel) (by decide +kernel)
set_option maxRecDepth 20000 in
theorem gX4_holdsAll_X4_isOfR : GoodIn wsX4_holdsAll (wsV RX4 142 RX4 yX4_isOfR wsX4_isOfR) := goodIn_app (goodIn_of _ (by decide +kernel)) ggX4_holdsAll_X4_isOfR
set_option maxRecDepth 20000 in
theorem ggX4_holdsAll_X4_pairTurned : GoodIn wsX4_holdsAll wsX4_pairTurned := goodIn_r _ [57, 25, 27, 19, 24, 26, 3, 58, 59, 60, 8, 61, 1, 41, 62, 63, 64, 65, 66, 67, 68, 69, 70, 71, 72, 46, 47, 48, 49, 50, 51, 52, 53, 28, 29, 30, 31, 32, 33, 34, 35, 36, 37, 38, 39, 40, 42, 43, 44, 45, 73, 74, 75, 76, 4, 5, 77, 18, 78, 79, 80, 81, 82, 83, 84, 85, 86, 87, 88, 89, 94, 95, 96, 97, 98, 99, 100, 101, 102, 103, 104, 105, 106, 107] (by decide +kernel) (by decide +kernel)
set_option maxRecDepth 20000 in
theorem gX4_holdsAll_X4_pairTurned : GoodIn wsX4_holdsAll (wsV RX4 156 RX4 yX4_pairTurned wsX4_pairTurned) := goodIn_app (goodIn_of _ (by decide +kernel)) ggX4_holdsAll_X4_pairTurned
set_option maxRecDepth 20000 in
theorem ggX4_holdsAll_X4_multiply2 : GoodIn wsX4_holdsAll wsX4_multiply2 := goodIn_r _ [81, 4, 1, 5, 94, 95, 96, 97, 98, 99, 100, 101, 102, 103, 104, 105, 106, 107] (by decide +kernel) (by decide +kernel)
set_option maxRecDepth 20000 in
theorem gX4_holdsAll_X4_multiply2 : GoodIn wsX4_holdsAll (wsV RX4 122 RX4 yX4_multiply2 wsX4_multiply2) := goodIn_app (goodIn_of _ (by decide +kernel)) ggX4_holdsAll_X4_multiply2
set_option maxRecDepth 20000 in
theorem ggX4_holdsAll_X4_pairWithBase : GoodIn wsX4_holdsAll wsX4_pairWithBase := goodIn_r _ [93, 24, 26, 3, 25, 27, 19, 58, 59, 60, 8, 61, 1, 41, 62, 63, 64, 65, 66, 67, 68, 69, 70, 71, 72, 46, 47, 48, 49, 50, 51, 52, 53, 28, 29, 30, 31, 32, 33, 34, 35, 36, 37, 38, 39, 40, 42, 43, 44, 45, 73, 74, 75, 76, 4, 5, 77, 18, 78, 79, 80, 81, 82, 83, 84, 85, 86, 87, 88, 89, 94, 95, 96, 97, 98, 99, 100, 101, 102, 103, 104, 105, 106, 107] (by decide +kernel) (by decide +kernel)
set_option maxRecDepth 20000 in
theorem gX4_holdsAll_X4_pairWithBase : GoodIn wsX4_holdsAll (wsV RX4 153 RX4 yX4_pairWithBase wsX4_pairWithBase) := goodIn_app (goodIn_of _ (by decide +kernel)) ggX4_holdsAll_X4_pairWithBase
theorem dX4_holdsAll_0 : decode cX4_holdsAll 0 = .ok (.aload_n 0, 1) := by decide +kernel
theorem dX4_holdsAll_1 : decode cX4_holdsAll 1 = .ok (.getfield 28, 3) := by decide +kernel
theorem dX4_holdsAll_4 : decode cX4_holdsAll 4 = .ok (.lconst 0, 1) := by decide +kernel
theorem dX4_holdsAll_5 : decode cX4_holdsAll 5 = .ok (.lcmp, 1) := by decide +kernel
theorem dX4_holdsAll_6 : decode cX4_holdsAll 6 = .ok (.ifCond .ne 6, 3) := by decide +kernel
theorem dX4_holdsAll_9 : decode cX4_holdsAll 9 = .ok (.bipush (-3), 2) := by decide +kernel
theorem dX4_holdsAll_11 : decode cX4_holdsAll 11 = .ok (.ireturn, 1) := by decide +kernel
theorem dX4_holdsAll_12 : decode cX4_holdsAll 12 = .ok (.iload_n 1, 1) := by decide +kernel
theorem dX4_holdsAll_13 : decode cX4_holdsAll 13 = .ok (.invokestatic 86, 3) := by decide +kernel
theorem dX4_holdsAll_16 : decode cX4_holdsAll 16 = .ok (.ifCond .eq 31, 3) := by decide +kernel
theorem dX4_holdsAll_19 : decode cX4_holdsAll 19 = .ok (.iload_n 2, 1) := by decide +kernel
theorem dX4_holdsAll_20 : decode cX4_holdsAll 20 = .ok (.i2l, 1) := by decide +kernel
theorem dX4_holdsAll_21 : decode cX4_holdsAll 21 = .ok (.lconst 1, 1) := by decide +kernel
theorem dX4_holdsAll_22 : decode cX4_holdsAll 22 = .ok (.ldc2_w 160, 3) := by decide +kernel
theorem dX4_holdsAll_25 : decode cX4_holdsAll 25 = .ok (.invokestatic 54, 3) := by decide +kernel
theorem dX4_holdsAll_28 : decode cX4_holdsAll 28 = .ok (.ifCond .eq 19, 3) := by decide +kernel
theorem dX4_holdsAll_31 : decode cX4_holdsAll 31 = .ok (.iload_n 1, 1) := by decide +kernel
theorem dX4_holdsAll_32 : decode cX4_holdsAll 32 = .ok (.iload_n 2, 1) := by decide +kernel
theorem dX4_holdsAll_33 : decode cX4_holdsAll 33 = .ok (.iadd, 1) := by decide +kernel
theorem dX4_holdsAll_34 : decode cX4_holdsAll 34 = .ok (.bipush 16, 2) := by decide +kernel
theorem dX4_holdsAll_36 : decode cX4_holdsAll 36 = .ok (.if_icmp .gt 11, 3) := by decide +kernel
theorem dX4_holdsAll_39 : decode cX4_holdsAll 39 = .ok (.iload 5, 2) := by decide +kernel
theorem dX4_holdsAll_41 : decode cX4_holdsAll 41 = .ok (.invokestatic 86, 3) := by decide +kernel
theorem dX4_holdsAll_44 : decode cX4_holdsAll 44 = .ok (.ifCond .ne 6, 3) := by decide +kernel
theorem dX4_holdsAll_47 : decode cX4_holdsAll 47 = .ok (.bipush (-2), 2) := by decide +kernel
theorem dX4_holdsAll_49 : decode cX4_holdsAll 49 = .ok (.ireturn, 1) := by decide +kernel
theorem dX4_holdsAll_50 : decode cX4_holdsAll 50 = .ok (.aload_n 0, 1) := by decide +kernel
theorem dX4_holdsAll_51 : decode cX4_holdsAll 51 = .ok (.iload 5, 2) := by decide +kernel
theorem dX4_holdsAll_53 : decode cX4_holdsAll 53 = .ok (.invokevirtual 142, 3) := by decide +kernel
theorem dX4_holdsAll_56 : decode cX4_holdsAll 56 = .ok (.istore 6, 2) := by decide +kernel
theorem dX4_holdsAll_58 : decode cX4_holdsAll 58 = .ok (.iconst 0, 1) := by decide +kernel
theorem dX4_holdsAll_59 : decode cX4_holdsAll 59 = .ok (.istore 7, 2) := by decide +kernel
theorem dX4_holdsAll_61 : decode cX4_holdsAll 61 = .ok (.iload 7, 2) := by decide +kernel
theorem dX4_holdsAll_63 : decode cX4_holdsAll 63 = .ok (.iload_n 2, 1) := by decide +kernel
theorem dX4_holdsAll_64 : decode cX4_holdsAll 64 = .ok (.if_icmp .ge 44, 3) := by decide +kernel
theorem dX4_holdsAll_67 : decode cX4_holdsAll 67 = .ok (.iload 6, 2) := by decide +kernel
theorem dX4_holdsAll_69 : decode cX4_holdsAll 69 = .ok (.ifCond .eq 30, 3) := by decide +kernel
theorem dX4_holdsAll_72 : decode cX4_holdsAll 72 = .ok (.aload_n 0, 1) := by decide +kernel
theorem dX4_holdsAll_73 : decode cX4_holdsAll 73 = .ok (.iload_n 1, 1) := by decide +kernel
theorem dX4_holdsAll_74 : decode cX4_holdsAll 74 = .ok (.iload 7, 2) := by decide +kernel
theorem dX4_holdsAll_76 : decode cX4_holdsAll 76 = .ok (.iadd, 1) := by decide +kernel
theorem dX4_holdsAll_77 : decode cX4_holdsAll 77 = .ok (.invokevirtual 142, 3) := by decide +kernel
theorem dX4_holdsAll_80 : decode cX4_holdsAll 80 = .ok (.ifCond .eq 19, 3) := by decide +kernel
theorem dX4_holdsAll_83 : decode cX4_holdsAll 83 = .ok (.aload_n 0, 1) := by decide +kernel
theorem dX4_holdsAll_84 : decode cX4_holdsAll 84 = .ok (.getfield 16, 3) := by decide +kernel
theorem dX4_holdsAll_87 : decode cX4_holdsAll 87 = .ok (.iload_n 1, 1) := by decide +kernel
theorem dX4_holdsAll_88 : decode cX4_holdsAll 88 = .ok (.iload 7, 2) := by decide +kernel
theorem dX4_holdsAll_90 : decode cX4_holdsAll 90 = .ok (.iadd, 1) := by decide +kernel
theorem dX4_holdsAll_91 : decode cX4_holdsAll 91 = .ok (.baload, 1) := by decide +kernel
theorem dX4_holdsAll_92 : decode cX4_holdsAll 92 = .ok (.ifCond .eq 7, 3) := by decide +kernel
theorem dX4_holdsAll_95 : decode cX4_holdsAll 95 = .ok (.iconst 1, 1) := by decide +kernel
theorem dX4_holdsAll_96 : decode cX4_holdsAll 96 = .ok (.goto 4, 3) := by decide +kernel
theorem dX4_holdsAll_99 : decode cX4_holdsAll 99 = .ok (.iconst 0, 1) := by decide +kernel
theorem dX4_holdsAll_100 : decode cX4_holdsAll 100 = .ok (.istore 6, 2) := by decide +kernel
theorem dX4_holdsAll_102 : decode cX4_holdsAll 102 = .ok (.iinc 7 1, 3) := by decide +kernel
theorem dX4_holdsAll_105 : decode cX4_holdsAll 105 = .ok (.goto (-44), 3) := by decide +kernel
theorem dX4_holdsAll_108 : decode cX4_holdsAll 108 = .ok (.iload 6, 2) := by decide +kernel
theorem dX4_holdsAll_110 : decode cX4_holdsAll 110 = .ok (.ifCond .ne 5, 3) := by decide +kernel
theorem dX4_holdsAll_113 : decode cX4_holdsAll 113 = .ok (.iconst 0, 1) := by decide +kernel
theorem dX4_holdsAll_114 : decode cX4_holdsAll 114 = .ok (.ireturn, 1) := by decide +kernel
theorem dX4_holdsAll_115 : decode cX4_holdsAll 115 = .ok (.lconst 1, 1) := by decide +kernel
theorem dX4_holdsAll_116 : decode cX4_holdsAll 116 = .ok (.lstore 7, 2) := by decide +kernel
theorem dX4_holdsAll_118 : decode cX4_holdsAll 118 = .ok (.lconst 0, 1) := by decide +kernel
theorem dX4_holdsAll_119 : decode cX4_holdsAll 119 = .ok (.lstore 9, 2) := by decide +kernel
theorem dX4_holdsAll_121 : decode cX4_holdsAll 121 = .ok (.iconst 0, 1) := by decide +kernel
theorem dX4_holdsAll_122 : decode cX4_holdsAll 122 = .ok (.istore 11, 2) := by decide +kernel
theorem dX4_holdsAll_124 : decode cX4_holdsAll 124 = .ok (.iload 11, 2) := by decide +kernel
theorem dX4_holdsAll_126 : decode cX4_holdsAll 126 = .ok (.iload_n 2, 1) := by decide +kernel
theorem dX4_holdsAll_127 : decode cX4_holdsAll 127 = .ok (.if_icmp .ge 42, 3) := by decide +kernel
theorem dX4_holdsAll_130 : decode cX4_holdsAll 130 = .ok (.aload_n 0, 1) := by decide +kernel
theorem dX4_holdsAll_131 : decode cX4_holdsAll 131 = .ok (.lload_n 3, 1) := by decide +kernel
theorem dX4_holdsAll_132 : decode cX4_holdsAll 132 = .ok (.iload 11, 2) := by decide +kernel
theorem dX4_holdsAll_134 : decode cX4_holdsAll 134 = .ok (.i2l, 1) := by decide +kernel
theorem dX4_holdsAll_135 : decode cX4_holdsAll 135 = .ok (.ladd, 1) := by decide +kernel
theorem dX4_holdsAll_136 : decode cX4_holdsAll 136 = .ok (.iload_n 1, 1) := by decide +kernel
theorem dX4_holdsAll_137 : decode cX4_holdsAll 137 = .ok (.iload 11, 2) := by decide +kernel
theorem dX4_holdsAll_139 : decode cX4_holdsAll 139 = .ok (.iadd, 1) := by decide +kernel
theorem dX4_holdsAll_140 : decode cX4_holdsAll 140 = .ok (.invokevirtual 156, 3) := by decide +kernel
theorem dX4_holdsAll_143 : decode cX4_holdsAll 143 = .ok (.aload_n 0, 1) := by decide +kernel
theorem dX4_holdsAll_144 : decode cX4_holdsAll 144 = .ok (.lload 7, 2) := by decide +kernel
theorem dX4_holdsAll_146 : decode cX4_holdsAll 146 = .ok (.lload 9, 2) := by decide +kernel
theorem dX4_holdsAll_148 : decode cX4_holdsAll 148 = .ok (.invokevirtual 122, 3) := by decide +kernel
theorem dX4_holdsAll_151 : decode cX4_holdsAll 151 = .ok (.aload_n 0, 1) := by decide +kernel
theorem dX4_holdsAll_152 : decode cX4_holdsAll 152 = .ok (.getfield 116, 3) := by decide +kernel
theorem dX4_holdsAll_155 : decode cX4_holdsAll 155 = .ok (.lstore 7, 2) := by decide +kernel
theorem dX4_holdsAll_157 : decode cX4_holdsAll 157 = .ok (.aload_n 0, 1) := by decide +kernel
theorem dX4_holdsAll_158 : decode cX4_holdsAll 158 = .ok (.getfield 119, 3) := by decide +kernel
theorem dX4_holdsAll_161 : decode cX4_holdsAll 161 = .ok (.lstore 9, 2) := by decide +kernel
theorem dX4_holdsAll_163 : decode cX4_holdsAll 163 = .ok (.iinc 11 1, 3) := by decide +kernel
theorem dX4_holdsAll_166 : decode cX4_holdsAll 166 = .ok (.goto (-42), 3) := by decide +kernel
theorem dX4_holdsAll_169 : decode cX4_holdsAll 169 = .ok (.aload_n 0, 1) := by decide +kernel
theorem dX4_holdsAll_170 : decode cX4_holdsAll 170 = .ok (.iload 5, 2) := by decide +kernel
theorem dX4_holdsAll_172 : decode cX4_holdsAll 172 = .ok (.invokevirtual 153, 3) := by decide +kernel
theorem dX4_holdsAll_175 : decode cX4_holdsAll 175 = .ok (.aload_n 0, 1) := by decide +kernel
theorem dX4_holdsAll_176 : decode cX4_holdsAll 176 = .ok (.getfield 116, 3) := by decide +kernel
theorem dX4_holdsAll_179 : decode cX4_holdsAll 179 = .ok (.lload 7, 2) := by decide +kernel
theorem dX4_holdsAll_181 : decode cX4_holdsAll 181 = .ok (.lcmp, 1) := by decide +kernel
theorem dX4_holdsAll_182 : decode cX4_holdsAll 182 = .ok (.ifCond .ne 17, 3) := by decide +kernel
theorem dX4_holdsAll_185 : decode cX4_holdsAll 185 = .ok (.aload_n 0, 1) := by decide +kernel
theorem dX4_holdsAll_186 : decode cX4_holdsAll 186 = .ok (.getfield 119, 3) := by decide +kernel
theorem dX4_holdsAll_189 : decode cX4_holdsAll 189 = .ok (.lload 9, 2) := by decide +kernel
theorem dX4_holdsAll_191 : decode cX4_holdsAll 191 = .ok (.lcmp, 1) := by decide +kernel
theorem dX4_holdsAll_192 : decode cX4_holdsAll 192 = .ok (.ifCond .ne 7, 3) := by decide +kernel
theorem dX4_holdsAll_195 : decode cX4_holdsAll 195 = .ok (.iconst 1, 1) := by decide +kernel
theorem dX4_holdsAll_196 : decode cX4_holdsAll 196 = .ok (.goto 4, 3) := by decide +kernel
theorem dX4_holdsAll_199 : decode cX4_holdsAll 199 = .ok (.iconst 0, 1) := by decide +kernel
theorem dX4_holdsAll_200 : decode cX4_holdsAll 200 = .ok (.ireturn, 1) := by decide +kernel
set_option maxRecDepth 20000 in
theorem ggX4_digest_X4_written : GoodIn wsX4_digest wsX4_written := goodIn_r _ [11, 12, 13, 14, 15, 16, 17, 18, 19, 20, 21, 22, 23, 24, 25, 26, 27, 28, 29, 30] (by decide +kernel) (by decide +kernel)
set_option maxRecDepth 20000 in
theorem gX4_digest_X4_written : GoodIn wsX4_digest (wsV RX4 110 RX4 yX4_written wsX4_written) := goodIn_app (goodIn_of _ (by decide +kernel)) ggX4_digest_X4_written
theorem dX4_digest_0 : decode cX4_digest 0 = .ok (.aload_n 0, 1) := by decide +kernel
theorem dX4_digest_1 : decode cX4_digest 1 = .ok (.getfield 28, 3) := by decide +kernel
theorem dX4_digest_4 : decode cX4_digest 4 = .ok (.lconst 0, 1) := by decide +kernel
theorem dX4_digest_5 : decode cX4_digest 5 = .ok (.lcmp, 1) := by decide +kernel
theorem dX4_digest_6 : decode cX4_digest 6 = .ok (.ifCond .ne 7, 3) := by decide +kernel
theorem dX4_digest_9 : decode cX4_digest 9 = .ok (.ldc2_w 108, 3) := by decide +kernel
theorem dX4_digest_12 : decode cX4_digest 12 = .ok (.lreturn, 1) := by decide +kernel
theorem dX4_digest_13 : decode cX4_digest 13 = .ok (.ldc2_w 162, 3) := by decide +kernel
theorem dX4_digest_16 : decode cX4_digest 16 = .ok (.lstore_n 1, 1) := by decide +kernel
theorem dX4_digest_17 : decode cX4_digest 17 = .ok (.iconst 0, 1) := by decide +kernel
theorem dX4_digest_18 : decode cX4_digest 18 = .ok (.istore_n 3, 1) := by decide +kernel
theorem dX4_digest_19 : decode cX4_digest 19 = .ok (.iload_n 3, 1) := by decide +kernel
theorem dX4_digest_20 : decode cX4_digest 20 = .ok (.bipush 16, 2) := by decide +kernel
theorem dX4_digest_22 : decode cX4_digest 22 = .ok (.if_icmp .ge 21, 3) := by decide +kernel
theorem dX4_digest_25 : decode cX4_digest 25 = .ok (.ldc2_w 164, 3) := by decide +kernel
theorem dX4_digest_28 : decode cX4_digest 28 = .ok (.lload_n 1, 1) := by decide +kernel
theorem dX4_digest_29 : decode cX4_digest 29 = .ok (.lmul, 1) := by decide +kernel
theorem dX4_digest_30 : decode cX4_digest 30 = .ok (.aload_n 0, 1) := by decide +kernel
theorem dX4_digest_31 : decode cX4_digest 31 = .ok (.iload_n 3, 1) := by decide +kernel
theorem dX4_digest_32 : decode cX4_digest 32 = .ok (.invokevirtual 110, 3) := by decide +kernel
theorem dX4_digest_35 : decode cX4_digest 35 = .ok (.ladd, 1) := by decide +kernel
theorem dX4_digest_36 : decode cX4_digest 36 = .ok (.lstore_n 1, 1) := by decide +kernel
theorem dX4_digest_37 : decode cX4_digest 37 = .ok (.iinc 3 1, 3) := by decide +kernel
theorem dX4_digest_40 : decode cX4_digest 40 = .ok (.goto (-21), 3) := by decide +kernel
theorem dX4_digest_43 : decode cX4_digest 43 = .ok (.iconst 0, 1) := by decide +kernel
theorem dX4_digest_44 : decode cX4_digest 44 = .ok (.istore_n 3, 1) := by decide +kernel
theorem dX4_digest_45 : decode cX4_digest 45 = .ok (.iload_n 3, 1) := by decide +kernel
theorem dX4_digest_46 : decode cX4_digest 46 = .ok (.bipush 8, 2) := by decide +kernel
theorem dX4_digest_48 : decode cX4_digest 48 = .ok (.if_icmp .ge 35, 3) := by decide +kernel
theorem dX4_digest_51 : decode cX4_digest 51 = .ok (.ldc2_w 164, 3) := by decide +kernel
theorem dX4_digest_54 : decode cX4_digest 54 = .ok (.lload_n 1, 1) := by decide +kernel
theorem dX4_digest_55 : decode cX4_digest 55 = .ok (.lmul, 1) := by decide +kernel
theorem dX4_digest_56 : decode cX4_digest 56 = .ok (.aload_n 0, 1) := by decide +kernel
theorem dX4_digest_57 : decode cX4_digest 57 = .ok (.getfield 20, 3) := by decide +kernel
theorem dX4_digest_60 : decode cX4_digest 60 = .ok (.iload_n 3, 1) := by decide +kernel
theorem dX4_digest_61 : decode cX4_digest 61 = .ok (.laload, 1) := by decide +kernel
theorem dX4_digest_62 : decode cX4_digest 62 = .ok (.ladd, 1) := by decide +kernel
theorem dX4_digest_63 : decode cX4_digest 63 = .ok (.lstore_n 1, 1) := by decide +kernel
theorem dX4_digest_64 : decode cX4_digest 64 = .ok (.ldc2_w 164, 3) := by decide +kernel
theorem dX4_digest_67 : decode cX4_digest 67 = .ok (.lload_n 1, 1) := by decide +kernel
theorem dX4_digest_68 : decode cX4_digest 68 = .ok (.lmul, 1) := by decide +kernel
theorem dX4_digest_69 : decode cX4_digest 69 = .ok (.aload_n 0, 1) := by decide +kernel
theorem dX4_digest_70 : decode cX4_digest 70 = .ok (.getfield 23, 3) := by decide +kernel
theorem dX4_digest_73 : decode cX4_digest 73 = .ok (.iload_n 3, 1) := by decide +kernel
theorem dX4_digest_74 : decode cX4_digest 74 = .ok (.laload, 1) := by decide +kernel
theorem dX4_digest_75 : decode cX4_digest 75 = .ok (.ladd, 1) := by decide +kernel
theorem dX4_digest_76 : decode cX4_digest 76 = .ok (.lstore_n 1, 1) := by decide +kernel
theorem dX4_digest_77 : decode cX4_digest 77 = .ok (.iinc 3 1, 3) := by decide +kernel
theorem dX4_digest_80 : decode cX4_digest 80 = .ok (.goto (-35), 3) := by decide +kernel
theorem dX4_digest_83 : decode cX4_digest 83 = .ok (.lload_n 1, 1) := by decide +kernel
theorem dX4_digest_84 : decode cX4_digest 84 = .ok (.lreturn, 1) := by decide +kernel
end
