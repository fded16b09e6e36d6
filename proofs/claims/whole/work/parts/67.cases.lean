section
variable {p : Program} {l : Launch} {e : Env} {s : State} {m : MethodId} {below : List Frame} {meth : Method} {c : Code} {b L : Nat} {xs : Nat → Int32} {D : va_G} {cJ cZ : ClassId} {H : Heap} {locs : List Loc} {cells slots : Nat} {Q : State → Prop} {ls : Array Slot} {dk mo i : Nat}
set_option maxHeartbeats 4000000 in
set_option maxRecDepth 100000 in
theorem cs_open (hF : LF p s m c b L xs) (hE : EV D cJ cZ s) (hL : L ≤ 3072) (hi : i + 6 ≤ L) (hl : lv_has ls 4 [(0, .ref b), (1, .ref dk), (2, .ref mo), (3, .int (nI i))]) (hcl : cells + 3 ≤ room_1.cells) (hsl : slots + 10 ≤ room_1.slots) (hI : IV D cJ cZ dk mo s H locs) (nx : ∀ (H : Heap) (locs : List Loc), IV D cJ cZ dk mo s H locs → W p l e room_1 s m #[Value.ref b] below meth c H locs (cells + 3) (slots + 10) Q (F0 m 1067 ls [])) : W p l e room_1 s m #[Value.ref b] below meth c H locs cells slots Q (F0 m 791 ls []) := by
  obtain ⟨C0, hX, hbl⟩ := id hF
  have hx := C0.1
  have hb := C0.2.1
  have hA : ∀ q : Nat, s.heap.size ≤ q → LA s q := fun _ h => h
  obtain ⟨N, hN⟩ : ∃ N : Nat, 100000 ≤ N := ⟨100000, Nat.le_refl _⟩
  have hc0 : cells ≤ room_1.cells := Nat.le_trans (Nat.le_add_right cells 3) hcl
  have hs0 : slots ≤ room_1.slots := Nat.le_trans (Nat.le_add_right slots 10) hsl
  obtain ⟨hS, hM⟩ := hI
  rcases hM with ⟨so, vo, a1, a2, a3, a4, a5, zS, zV, zx, zy, zi, zu, zv, zl, zpx, zpy, zip, zvu, zvv, hP, hD⟩ | ⟨so, vo, po, co, fo, a1, a2, a3, a4, a5, P, R, hh, ne, h, zt, zS, zV, zx, zy, zi, zu, zv, zl, zpx, zpy, zip, zvu, zvv, pP, h0, hR, hH, hP, hD, sR, vR⟩
  · have hP : va_P D vwCl ((wN cJ dk so vo zS zV) ++ (wM cJ cZ mo a1 a2 a3 a4 a5 0 0 0 zx zy zi zu zv zl zpx zpy zip zvu zvv)) H := hP
    have hD : va_D (LA s) ((wN cJ dk so vo zS zV) ++ (wM cJ cZ mo a1 a2 a3 a4 a5 0 0 0 zx zy zi zu zv zl zpx zpy zip zvu zvv)) := hD
    refine lv_aload_n hx hb dL_law_791 rfl (lv_at hl 1 rfl) ?_
    refine sc_ld (k := 1) hF hS hl (by omega) hL dL_law_792 dL_law_793 dL_law_794 (by decide) dL_law_795 dL_law_796 ?_
    refine sc_ld (k := 2) hF hS hl (by omega) hL dL_law_797 dL_law_798 dL_law_799 (by decide) dL_law_800 dL_law_801 ?_
    refine ki (kV (As := [.int (xs (i + 1)), .int (xs (i + 2))]) (rest := []) C0 (kX3_open_null l D cJ cZ dk so vo zS zV (xs (i + 1)) (xs (i + 2)) (-3) rfl) gL_law_X3_open rfl ⟨rfl, rfl⟩ hdX3_open ⟨Nat.le_of_ble_eq_true rfl, Nat.le_of_ble_eq_true rfl⟩ 3 0 rfl rfl rfl (hP.sub [0, 1, 2] rfl) hE hl rfl rfl (Nat.le_of_ble_eq_true rfl) dL_law_802 hc0 hs0) ?_
    refine lv_aload_n hx hb dL_law_805 rfl (lv_at hl 2 rfl) ?_
    refine sc_ld (k := 1) hF hS hl (by omega) hL dL_law_806 dL_law_807 dL_law_808 (by decide) dL_law_809 dL_law_810 ?_
    refine sc_ld (k := 2) hF hS hl (by omega) hL dL_law_811 dL_law_812 dL_law_813 (by decide) dL_law_814 dL_law_815 ?_
    refine kE (wc := (wM cJ cZ mo a1 a2 a3 a4 a5 0 0 0 zx zy zi zu zv zl zpx zpy zip zvu zvv)) (wr := (wN cJ dk so vo zS zV)) [3, 4, 5, 6, 7, 8] [0, 1, 2] hP hD hS hA rfl rfl rfl (by decide) rfl (eV (As := [.int (xs (i + 1)), .int (xs (i + 2))]) (rest := [.int (-3)]) C0 (kX4_open l D cJ cZ mo a1 a2 a3 a4 a5 N 0 0 0 zx zy zi zu zv zl zpx zpy zip zvu zvv (xs (i + 1)) (xs (i + 2)) H.size (-3) zx zy zi zpx zpy zip (by unfold fX4_open; exact if_pos rfl)) gL_law_X4_open rfl ⟨rfl, rfl⟩ hdX4_open ⟨Nat.le_of_ble_eq_true rfl, Nat.le_of_ble_eq_true rfl⟩ 4 0 rfl rfl rfl (hP.sub [3, 4, 5, 6, 7, 8] rfl) (hD.sub [3, 4, 5, 6, 7, 8] rfl rfl) hE hl rfl rfl (Nat.le_of_ble_eq_true rfl) dL_law_816 ⟨hc0, hs0⟩) (fun H locs hP hD hS => ?_)
    refine W.eq (g2 := F0 m 819 ls [.int (-3), .int (-3)]) rfl ?_
    refine lv_icmp_eq (tgt := 1067) hx hb dL_law_819 (by decide) (fun _ => ?_) (fun cx => absurd rfl cx)
    exact W.widen (by omega) (by omega) (nx _ _ ⟨hS, .inl ⟨so, vo, a1, a2, a3, a4, a5, zS, zV, zx, zy, zi, zu, zv, zl, zpx, zpy, zip, zvu, zvv, hP, hD⟩⟩)
  · obtain ⟨r, czS, mzx, mzy, mzi, mzpx, mzpy, mzip, k1, k2, k3⟩ := g_open h pP hN h0 hR hH sR zx zy zi (xs (i + 1)) (xs (i + 2))
    have hP : va_P D vwCl ((wF cJ dk so vo po co fo (lN P) (lN R) (lN hh) (ept (tT h hh 1).1) zt zS zV) ++ (wM cJ cZ mo a1 a2 a3 a4 a5 (lN P) (lN R) (lN hh) zx zy zi zu zv zl zpx zpy zip zvu zvv)) H := hP
    have hD : va_D (LA s) ((wF cJ dk so vo po co fo (lN P) (lN R) (lN hh) (ept (tT h hh 1).1) zt zS zV) ++ (wM cJ cZ mo a1 a2 a3 a4 a5 (lN P) (lN R) (lN hh) zx zy zi zu zv zl zpx zpy zip zvu zvv)) := hD
    refine lv_aload_n hx hb dL_law_791 rfl (lv_at hl 1 rfl) ?_
    refine sc_ld (k := 1) hF hS hl (by omega) hL dL_law_792 dL_law_793 dL_law_794 (by decide) dL_law_795 dL_law_796 ?_
    refine sc_ld (k := 2) hF hS hl (by omega) hL dL_law_797 dL_law_798 dL_law_799 (by decide) dL_law_800 dL_law_801 ?_
    refine kE (wc := (wF cJ dk so vo po co fo (lN P) (lN R) (lN hh) (ept (tT h hh 1).1) zt zS zV)) (wr := (wM cJ cZ mo a1 a2 a3 a4 a5 (lN P) (lN R) (lN hh) zx zy zi zu zv zl zpx zpy zip zvu zvv)) [0, 1, 2, 3, 4, 5] [6, 7, 8, 9, 10, 11] hP hD hS hA rfl rfl rfl (by decide) rfl (eV (As := [.int (xs (i + 1)), .int (xs (i + 2))]) (rest := []) C0 (kX3_open l D cJ cZ dk so vo po co fo N (lN P) (lN R) (lN hh) (ept (tT h hh 1).1) zt zS zV (xs (i + 1)) (xs (i + 2)) H.size r czS k1) gL_law_X3_open rfl ⟨rfl, rfl⟩ hdX3_open ⟨Nat.le_of_ble_eq_true rfl, Nat.le_of_ble_eq_true rfl⟩ 3 0 rfl rfl rfl (hP.sub [0, 1, 2, 3, 4, 5] rfl) (hD.sub [0, 1, 2, 3, 4, 5] rfl rfl) hE hl rfl rfl (Nat.le_of_ble_eq_true rfl) dL_law_802 ⟨hc0, hs0⟩) (fun H locs hP hD hS => ?_)
    have hP : va_P D vwCl ((wF cJ dk so vo po co fo (lN P) (lN R) (lN hh) (ept (tT h hh 1).1) zt czS zV) ++ (wM cJ cZ mo a1 a2 a3 a4 a5 (lN P) (lN R) (lN hh) zx zy zi zu zv zl zpx zpy zip zvu zvv)) H := hP.sub [6, 7, 8, 9, 10, 11, 0, 1, 2, 3, 4, 5] rfl
    have hD : va_D (LA s) ((wF cJ dk so vo po co fo (lN P) (lN R) (lN hh) (ept (tT h hh 1).1) zt czS zV) ++ (wM cJ cZ mo a1 a2 a3 a4 a5 (lN P) (lN R) (lN hh) zx zy zi zu zv zl zpx zpy zip zvu zvv)) := hD.sub [6, 7, 8, 9, 10, 11, 0, 1, 2, 3, 4, 5] rfl rfl
    refine W.eq (g2 := F0 m 805 ls [.int r]) rfl ?_
    refine lv_aload_n hx hb dL_law_805 rfl (lv_at hl 2 rfl) ?_
    refine sc_ld (k := 1) hF hS hl (by omega) hL dL_law_806 dL_law_807 dL_law_808 (by decide) dL_law_809 dL_law_810 ?_
    refine sc_ld (k := 2) hF hS hl (by omega) hL dL_law_811 dL_law_812 dL_law_813 (by decide) dL_law_814 dL_law_815 ?_
    refine kE (wc := (wM cJ cZ mo a1 a2 a3 a4 a5 (lN P) (lN R) (lN hh) zx zy zi zu zv zl zpx zpy zip zvu zvv)) (wr := (wF cJ dk so vo po co fo (lN P) (lN R) (lN hh) (ept (tT h hh 1).1) zt czS zV)) [6, 7, 8, 9, 10, 11] [0, 1, 2, 3, 4, 5] hP hD hS hA rfl rfl rfl (by decide) rfl (eV (As := [.int (xs (i + 1)), .int (xs (i + 2))]) (rest := [.int r]) C0 (kX4_open l D cJ cZ mo a1 a2 a3 a4 a5 N (lN P) (lN R) (lN hh) zx zy zi zu zv zl zpx zpy zip zvu zvv (xs (i + 1)) (xs (i + 2)) H.size r mzx mzy mzi mzpx mzpy mzip k2) gL_law_X4_open rfl ⟨rfl, rfl⟩ hdX4_open ⟨Nat.le_of_ble_eq_true rfl, Nat.le_of_ble_eq_true rfl⟩ 4 0 rfl rfl rfl (hP.sub [6, 7, 8, 9, 10, 11] rfl) (hD.sub [6, 7, 8, 9, 10, 11] rfl rfl) hE hl rfl rfl (Nat.le_of_ble_eq_true rfl) dL_law_816 ⟨hc0, hs0⟩) (fun H locs hP hD hS => ?_)
    refine W.eq (g2 := F0 m 819 ls [.int r, .int r]) rfl ?_
    refine lv_icmp_eq (tgt := 1067) hx hb dL_law_819 (by decide) (fun _ => ?_) (fun cx => absurd rfl cx)
    exact W.widen (by omega) (by omega) (nx _ _ ⟨hS, .inr ⟨so, vo, po, co, fo, a1, a2, a3, a4, a5, P, R, hh, ne, h, zt, czS, zV, mzx, mzy, mzi, zu, zv, zl, mzpx, mzpy, mzip, zvu, zvv, pP, h0, hR, hH, hP, hD, k3, vR⟩⟩)
set_option maxHeartbeats 4000000 in
set_option maxRecDepth 100000 in
theorem cs_sign (hF : LF p s m c b L xs) (hE : EV D cJ cZ s) (hL : L ≤ 3072) (hi : i + 6 ≤ L) (hl : lv_has ls 4 [(0, .ref b), (1, .ref dk), (2, .ref mo), (3, .int (nI i))]) (hcl : cells + 3 ≤ room_1.cells) (hsl : slots + 10 ≤ room_1.slots) (hI : IV D cJ cZ dk mo s H locs) (nx : ∀ (H : Heap) (locs : List Loc), IV D cJ cZ dk mo s H locs → W p l e room_1 s m #[Value.ref b] below meth c H locs (cells + 3) (slots + 10) Q (F0 m 1067 ls [])) : W p l e room_1 s m #[Value.ref b] below meth c H locs cells slots Q (F0 m 824 ls []) := by
  obtain ⟨C0, hX, hbl⟩ := id hF
  have hx := C0.1
  have hb := C0.2.1
  have hA : ∀ q : Nat, s.heap.size ≤ q → LA s q := fun _ h => h
  obtain ⟨N, hN⟩ : ∃ N : Nat, 100000 ≤ N := ⟨100000, Nat.le_refl _⟩
  have hc0 : cells ≤ room_1.cells := Nat.le_trans (Nat.le_add_right cells 3) hcl
  have hs0 : slots ≤ room_1.slots := Nat.le_trans (Nat.le_add_right slots 10) hsl
  obtain ⟨hS, hM⟩ := hI
  rcases hM with ⟨so, vo, a1, a2, a3, a4, a5, zS, zV, zx, zy, zi, zu, zv, zl, zpx, zpy, zip, zvu, zvv, hP, hD⟩ | ⟨so, vo, po, co, fo, a1, a2, a3, a4, a5, P, R, hh, ne, h, zt, zS, zV, zx, zy, zi, zu, zv, zl, zpx, zpy, zip, zvu, zvv, pP, h0, hR, hH, hP, hD, sR, vR⟩
  · have hP : va_P D vwCl ((wN cJ dk so vo zS zV) ++ (wM cJ cZ mo a1 a2 a3 a4 a5 0 0 0 zx zy zi zu zv zl zpx zpy zip zvu zvv)) H := hP
    have hD : va_D (LA s) ((wN cJ dk so vo zS zV) ++ (wM cJ cZ mo a1 a2 a3 a4 a5 0 0 0 zx zy zi zu zv zl zpx zpy zip zvu zvv)) := hD
    refine lv_aload_n hx hb dL_law_824 rfl (lv_at hl 1 rfl) ?_
    refine sc_ld (k := 1) hF hS hl (by omega) hL dL_law_825 dL_law_826 dL_law_827 (by decide) dL_law_828 dL_law_829 ?_
    refine sc_ld (k := 2) hF hS hl (by omega) hL dL_law_830 dL_law_831 dL_law_832 (by decide) dL_law_833 dL_law_834 ?_
    refine sc_ll (k := 3) hF hS hl (by omega) hL dL_law_835 dL_law_836 dL_law_837 dL_law_838 dL_law_839 dL_law_840 dL_law_841 dL_law_843 dL_law_844 dL_law_845 dL_law_846 dL_law_847 dL_law_848 dL_law_849 (by decide) (by decide) dL_law_850 lk36 dL_law_853 dL_law_854 ?_
    refine ki (kV (As := [.int (xs (i + 1)), .int (xs (i + 2)), .long (lw2 (xs (i + 3)) (xs (i + 4)))]) (rest := []) C0 (kX3_sign_null l D cJ cZ dk so vo zS zV (xs (i + 1)) (xs (i + 2)) (lw2 (xs (i + 3)) (xs (i + 4))) (-3) rfl) gL_law_X3_sign rfl ⟨rfl, rfl⟩ hdX3_sign ⟨Nat.le_of_ble_eq_true rfl, Nat.le_of_ble_eq_true rfl⟩ 3 0 rfl rfl rfl (hP.sub [0, 1, 2] rfl) hE hl rfl rfl (Nat.le_of_ble_eq_true rfl) dL_law_855 hc0 hs0) ?_
    refine lv_aload_n hx hb dL_law_858 rfl (lv_at hl 2 rfl) ?_
    refine sc_ld (k := 1) hF hS hl (by omega) hL dL_law_859 dL_law_860 dL_law_861 (by decide) dL_law_862 dL_law_863 ?_
    refine sc_ld (k := 2) hF hS hl (by omega) hL dL_law_864 dL_law_865 dL_law_866 (by decide) dL_law_867 dL_law_868 ?_
    refine sc_ll (k := 3) hF hS hl (by omega) hL dL_law_869 dL_law_870 dL_law_871 dL_law_872 dL_law_873 dL_law_874 dL_law_875 dL_law_877 dL_law_878 dL_law_879 dL_law_880 dL_law_881 dL_law_882 dL_law_883 (by decide) (by decide) dL_law_884 lk36 dL_law_887 dL_law_888 ?_
    refine kE (wc := (wM cJ cZ mo a1 a2 a3 a4 a5 0 0 0 zx zy zi zu zv zl zpx zpy zip zvu zvv)) (wr := (wN cJ dk so vo zS zV)) [3, 4, 5, 6, 7, 8] [0, 1, 2] hP hD hS hA rfl rfl rfl (by decide) rfl (eV (As := [.int (xs (i + 1)), .int (xs (i + 2)), .long (lw2 (xs (i + 3)) (xs (i + 4)))]) (rest := [.int (-3)]) C0 (kX4_sign l D cJ cZ mo a1 a2 a3 a4 a5 N 0 0 0 zx zy zi zu zv zl zpx zpy zip zvu zvv (xs (i + 1)) (xs (i + 2)) (lw2 (xs (i + 3)) (xs (i + 4))) H.size (-3) zx zy zi zpx zpy zip (by unfold fX4_sign; exact if_pos rfl)) gL_law_X4_sign rfl ⟨rfl, rfl⟩ hdX4_sign ⟨Nat.le_of_ble_eq_true rfl, Nat.le_of_ble_eq_true rfl⟩ 4 0 rfl rfl rfl (hP.sub [3, 4, 5, 6, 7, 8] rfl) (hD.sub [3, 4, 5, 6, 7, 8] rfl rfl) hE hl rfl rfl (Nat.le_of_ble_eq_true rfl) dL_law_889 ⟨hc0, hs0⟩) (fun H locs hP hD hS => ?_)
    refine W.eq (g2 := F0 m 892 ls [.int (-3), .int (-3)]) rfl ?_
    refine lv_icmp_eq (tgt := 1067) hx hb dL_law_892 (by decide) (fun _ => ?_) (fun cx => absurd rfl cx)
    exact W.widen (by omega) (by omega) (nx _ _ ⟨hS, .inl ⟨so, vo, a1, a2, a3, a4, a5, zS, zV, zx, zy, zi, zu, zv, zl, zpx, zpy, zip, zvu, zvv, hP, hD⟩⟩)
  · obtain ⟨r, czt, czS, mzx, mzy, mzi, mzpx, mzpy, mzip, k1, k2, k3⟩ := g_sign h pP hN h0 hR hH sR zt zx zy zi (xs (i + 1)) (xs (i + 2)) (lw2 (xs (i + 3)) (xs (i + 4)))
    have hP : va_P D vwCl ((wF cJ dk so vo po co fo (lN P) (lN R) (lN hh) (ept (tT h hh 1).1) zt zS zV) ++ (wM cJ cZ mo a1 a2 a3 a4 a5 (lN P) (lN R) (lN hh) zx zy zi zu zv zl zpx zpy zip zvu zvv)) H := hP
    have hD : va_D (LA s) ((wF cJ dk so vo po co fo (lN P) (lN R) (lN hh) (ept (tT h hh 1).1) zt zS zV) ++ (wM cJ cZ mo a1 a2 a3 a4 a5 (lN P) (lN R) (lN hh) zx zy zi zu zv zl zpx zpy zip zvu zvv)) := hD
    refine lv_aload_n hx hb dL_law_824 rfl (lv_at hl 1 rfl) ?_
    refine sc_ld (k := 1) hF hS hl (by omega) hL dL_law_825 dL_law_826 dL_law_827 (by decide) dL_law_828 dL_law_829 ?_
    refine sc_ld (k := 2) hF hS hl (by omega) hL dL_law_830 dL_law_831 dL_law_832 (by decide) dL_law_833 dL_law_834 ?_
    refine sc_ll (k := 3) hF hS hl (by omega) hL dL_law_835 dL_law_836 dL_law_837 dL_law_838 dL_law_839 dL_law_840 dL_law_841 dL_law_843 dL_law_844 dL_law_845 dL_law_846 dL_law_847 dL_law_848 dL_law_849 (by decide) (by decide) dL_law_850 lk36 dL_law_853 dL_law_854 ?_
    refine kE (wc := (wF cJ dk so vo po co fo (lN P) (lN R) (lN hh) (ept (tT h hh 1).1) zt zS zV)) (wr := (wM cJ cZ mo a1 a2 a3 a4 a5 (lN P) (lN R) (lN hh) zx zy zi zu zv zl zpx zpy zip zvu zvv)) [0, 1, 2, 3, 4, 5] [6, 7, 8, 9, 10, 11] hP hD hS hA rfl rfl rfl (by decide) rfl (eV (As := [.int (xs (i + 1)), .int (xs (i + 2)), .long (lw2 (xs (i + 3)) (xs (i + 4)))]) (rest := []) C0 (kX3_sign l D cJ cZ dk so vo po co fo N (lN P) (lN R) (lN hh) (ept (tT h hh 1).1) zt zS zV (xs (i + 1)) (xs (i + 2)) (lw2 (xs (i + 3)) (xs (i + 4))) H.size r czt czS k1) gL_law_X3_sign rfl ⟨rfl, rfl⟩ hdX3_sign ⟨Nat.le_of_ble_eq_true rfl, Nat.le_of_ble_eq_true rfl⟩ 3 0 rfl rfl rfl (hP.sub [0, 1, 2, 3, 4, 5] rfl) (hD.sub [0, 1, 2, 3, 4, 5] rfl rfl) hE hl rfl rfl (Nat.le_of_ble_eq_true rfl) dL_law_855 ⟨hc0, hs0⟩) (fun H locs hP hD hS => ?_)
    have hP : va_P D vwCl ((wF cJ dk so vo po co fo (lN P) (lN R) (lN hh) (ept (tT h hh 1).1) czt czS zV) ++ (wM cJ cZ mo a1 a2 a3 a4 a5 (lN P) (lN R) (lN hh) zx zy zi zu zv zl zpx zpy zip zvu zvv)) H := hP.sub [6, 7, 8, 9, 10, 11, 0, 1, 2, 3, 4, 5] rfl
    have hD : va_D (LA s) ((wF cJ dk so vo po co fo (lN P) (lN R) (lN hh) (ept (tT h hh 1).1) czt czS zV) ++ (wM cJ cZ mo a1 a2 a3 a4 a5 (lN P) (lN R) (lN hh) zx zy zi zu zv zl zpx zpy zip zvu zvv)) := hD.sub [6, 7, 8, 9, 10, 11, 0, 1, 2, 3, 4, 5] rfl rfl
    refine W.eq (g2 := F0 m 858 ls [.int r]) rfl ?_
    refine lv_aload_n hx hb dL_law_858 rfl (lv_at hl 2 rfl) ?_
    refine sc_ld (k := 1) hF hS hl (by omega) hL dL_law_859 dL_law_860 dL_law_861 (by decide) dL_law_862 dL_law_863 ?_
    refine sc_ld (k := 2) hF hS hl (by omega) hL dL_law_864 dL_law_865 dL_law_866 (by decide) dL_law_867 dL_law_868 ?_
    refine sc_ll (k := 3) hF hS hl (by omega) hL dL_law_869 dL_law_870 dL_law_871 dL_law_872 dL_law_873 dL_law_874 dL_law_875 dL_law_877 dL_law_878 dL_law_879 dL_law_880 dL_law_881 dL_law_882 dL_law_883 (by decide) (by decide) dL_law_884 lk36 dL_law_887 dL_law_888 ?_
    refine kE (wc := (wM cJ cZ mo a1 a2 a3 a4 a5 (lN P) (lN R) (lN hh) zx zy zi zu zv zl zpx zpy zip zvu zvv)) (wr := (wF cJ dk so vo po co fo (lN P) (lN R) (lN hh) (ept (tT h hh 1).1) czt czS zV)) [6, 7, 8, 9, 10, 11] [0, 1, 2, 3, 4, 5] hP hD hS hA rfl rfl rfl (by decide) rfl (eV (As := [.int (xs (i + 1)), .int (xs (i + 2)), .long (lw2 (xs (i + 3)) (xs (i + 4)))]) (rest := [.int r]) C0 (kX4_sign l D cJ cZ mo a1 a2 a3 a4 a5 N (lN P) (lN R) (lN hh) zx zy zi zu zv zl zpx zpy zip zvu zvv (xs (i + 1)) (xs (i + 2)) (lw2 (xs (i + 3)) (xs (i + 4))) H.size r mzx mzy mzi mzpx mzpy mzip k2) gL_law_X4_sign rfl ⟨rfl, rfl⟩ hdX4_sign ⟨Nat.le_of_ble_eq_true rfl, Nat.le_of_ble_eq_true rfl⟩ 4 0 rfl rfl rfl (hP.sub [6, 7, 8, 9, 10, 11] rfl) (hD.sub [6, 7, 8, 9, 10, 11] rfl rfl) hE hl rfl rfl (Nat.le_of_ble_eq_true rfl) dL_law_889 ⟨hc0, hs0⟩) (fun H locs hP hD hS => ?_)
    refine W.eq (g2 := F0 m 892 ls [.int r, .int r]) rfl ?_
    refine lv_icmp_eq (tgt := 1067) hx hb dL_law_892 (by decide) (fun _ => ?_) (fun cx => absurd rfl cx)
    exact W.widen (by omega) (by omega) (nx _ _ ⟨hS, .inr ⟨so, vo, po, co, fo, a1, a2, a3, a4, a5, P, R, hh, ne, h, czt, czS, zV, mzx, mzy, mzi, zu, zv, zl, mzpx, mzpy, mzip, zvu, zvv, pP, h0, hR, hH, hP, hD, k3, vR⟩⟩)
set_option maxHeartbeats 4000000 in
set_option maxRecDepth 100000 in
theorem cs_holds (hF : LF p s m c b L xs) (hE : EV D cJ cZ s) (hL : L ≤ 3072) (hi : i + 6 ≤ L) (hl : lv_has ls 4 [(0, .ref b), (1, .ref dk), (2, .ref mo), (3, .int (nI i))]) (hcl : cells + 3 ≤ room_1.cells) (hsl : slots + 10 ≤ room_1.slots) (hI : IV D cJ cZ dk mo s H locs) (nx : ∀ (H : Heap) (locs : List Loc), IV D cJ cZ dk mo s H locs → W p l e room_1 s m #[Value.ref b] below meth c H locs (cells + 3) (slots + 10) Q (F0 m 1067 ls [])) : W p l e room_1 s m #[Value.ref b] below meth c H locs cells slots Q (F0 m 897 ls []) := by
  obtain ⟨C0, hX, hbl⟩ := id hF
  have hx := C0.1
  have hb := C0.2.1
  have hA : ∀ q : Nat, s.heap.size ≤ q → LA s q := fun _ h => h
  obtain ⟨N, hN⟩ : ∃ N : Nat, 100000 ≤ N := ⟨100000, Nat.le_refl _⟩
  have hc0 : cells ≤ room_1.cells := Nat.le_trans (Nat.le_add_right cells 3) hcl
  have hs0 : slots ≤ room_1.slots := Nat.le_trans (Nat.le_add_right slots 10) hsl
  obtain ⟨hS, hM⟩ := hI
  rcases hM with ⟨so, vo, a1, a2, a3, a4, a5, zS, zV, zx, zy, zi, zu, zv, zl, zpx, zpy, zip, zvu, zvv, hP, hD⟩ | ⟨so, vo, po, co, fo, a1, a2, a3, a4, a5, P, R, hh, ne, h, zt, zS, zV, zx, zy, zi, zu, zv, zl, zpx, zpy, zip, zvu, zvv, pP, h0, hR, hH, hP, hD, sR, vR⟩
  · have hP : va_P D vwCl ((wN cJ dk so vo zS zV) ++ (wM cJ cZ mo a1 a2 a3 a4 a5 0 0 0 zx zy zi zu zv zl zpx zpy zip zvu zvv)) H := hP
    have hD : va_D (LA s) ((wN cJ dk so vo zS zV) ++ (wM cJ cZ mo a1 a2 a3 a4 a5 0 0 0 zx zy zi zu zv zl zpx zpy zip zvu zvv)) := hD
    refine lv_aload_n hx hb dL_law_897 rfl (lv_at hl 1 rfl) ?_
    refine sc_ld (k := 1) hF hS hl (by omega) hL dL_law_898 dL_law_899 dL_law_900 (by decide) dL_law_901 dL_law_902 ?_
    refine sc_ll (k := 2) hF hS hl (by omega) hL dL_law_903 dL_law_904 dL_law_905 dL_law_906 dL_law_907 dL_law_908 dL_law_909 dL_law_911 dL_law_912 dL_law_913 dL_law_914 dL_law_915 dL_law_916 dL_law_917 (by decide) (by decide) dL_law_918 lk36 dL_law_921 dL_law_922 ?_
    refine sc_ld (k := 4) hF hS hl (by omega) hL dL_law_923 dL_law_924 dL_law_925 (by decide) dL_law_926 dL_law_927 ?_
    refine ki (kV (As := [.int (xs (i + 1)), .long (lw2 (xs (i + 2)) (xs (i + 3))), .int (xs (i + 4))]) (rest := []) C0 (kX3_holds_null l D cJ cZ dk so vo zS zV (xs (i + 1)) (lw2 (xs (i + 2)) (xs (i + 3))) (xs (i + 4)) (-3) rfl) gL_law_X3_holds rfl ⟨rfl, rfl⟩ hdX3_holds ⟨Nat.le_of_ble_eq_true rfl, Nat.le_of_ble_eq_true rfl⟩ 3 0 rfl rfl rfl (hP.sub [0, 1, 2] rfl) hE hl rfl rfl (Nat.le_of_ble_eq_true rfl) dL_law_928 hc0 hs0) ?_
    refine lv_aload_n hx hb dL_law_931 rfl (lv_at hl 2 rfl) ?_
    refine sc_ld (k := 1) hF hS hl (by omega) hL dL_law_932 dL_law_933 dL_law_934 (by decide) dL_law_935 dL_law_936 ?_
    refine sc_ll (k := 2) hF hS hl (by omega) hL dL_law_937 dL_law_938 dL_law_939 dL_law_940 dL_law_941 dL_law_942 dL_law_943 dL_law_945 dL_law_946 dL_law_947 dL_law_948 dL_law_949 dL_law_950 dL_law_951 (by decide) (by decide) dL_law_952 lk36 dL_law_955 dL_law_956 ?_
    refine sc_ld (k := 4) hF hS hl (by omega) hL dL_law_957 dL_law_958 dL_law_959 (by decide) dL_law_960 dL_law_961 ?_
    refine kE (wc := (wM cJ cZ mo a1 a2 a3 a4 a5 0 0 0 zx zy zi zu zv zl zpx zpy zip zvu zvv)) (wr := (wN cJ dk so vo zS zV)) [3, 4, 5, 6, 7, 8] [0, 1, 2] hP hD hS hA rfl rfl rfl (by decide) rfl (eV (As := [.int (xs (i + 1)), .long (lw2 (xs (i + 2)) (xs (i + 3))), .int (xs (i + 4))]) (rest := [.int (-3)]) C0 (kX4_holds l D cJ cZ mo a1 a2 a3 a4 a5 N 0 0 0 zx zy zi zu zv zl zpx zpy zip zvu zvv (xs (i + 1)) (lw2 (xs (i + 2)) (xs (i + 3))) (xs (i + 4)) H.size (-3) zx zy zi zu zv zl (by unfold fX4_holds; exact if_pos rfl)) gL_law_X4_holds rfl ⟨rfl, rfl⟩ hdX4_holds ⟨Nat.le_of_ble_eq_true rfl, Nat.le_of_ble_eq_true rfl⟩ 4 0 rfl rfl rfl (hP.sub [3, 4, 5, 6, 7, 8] rfl) (hD.sub [3, 4, 5, 6, 7, 8] rfl rfl) hE hl rfl rfl (Nat.le_of_ble_eq_true rfl) dL_law_962 ⟨hc0, hs0⟩) (fun H locs hP hD hS => ?_)
    refine W.eq (g2 := F0 m 965 ls [.int (-3), .int (-3)]) rfl ?_
    refine lv_icmp_eq (tgt := 1067) hx hb dL_law_965 (by decide) (fun _ => ?_) (fun cx => absurd rfl cx)
    exact W.widen (by omega) (by omega) (nx _ _ ⟨hS, .inl ⟨so, vo, a1, a2, a3, a4, a5, zS, zV, zx, zy, zi, zu, zv, zl, zpx, zpy, zip, zvu, zvv, hP, hD⟩⟩)
  · obtain ⟨hbt, hr⟩ := RB_of h0 hR
    obtain ⟨r, czt, mzx, mzy, mzi, mzu, mzv, mzl, k1, k2⟩ := g_holds h pP hN hr hH sR zt zx zy zu zv zi zl (xs (i + 1)) (lw2 (xs (i + 2)) (xs (i + 3))) (xs (i + 4))
    have hP : va_P D vwCl ((wF cJ dk so vo po co fo (lN P) (lN R) (lN hh) (ept (tT h hh 1).1) zt zS zV) ++ (wM cJ cZ mo a1 a2 a3 a4 a5 (lN P) (lN R) (lN hh) zx zy zi zu zv zl zpx zpy zip zvu zvv)) H := hP
    have hD : va_D (LA s) ((wF cJ dk so vo po co fo (lN P) (lN R) (lN hh) (ept (tT h hh 1).1) zt zS zV) ++ (wM cJ cZ mo a1 a2 a3 a4 a5 (lN P) (lN R) (lN hh) zx zy zi zu zv zl zpx zpy zip zvu zvv)) := hD
    refine lv_aload_n hx hb dL_law_897 rfl (lv_at hl 1 rfl) ?_
    refine sc_ld (k := 1) hF hS hl (by omega) hL dL_law_898 dL_law_899 dL_law_900 (by decide) dL_law_901 dL_law_902 ?_
    refine sc_ll (k := 2) hF hS hl (by omega) hL dL_law_903 dL_law_904 dL_law_905 dL_law_906 dL_law_907 dL_law_908 dL_law_909 dL_law_911 dL_law_912 dL_law_913 dL_law_914 dL_law_915 dL_law_916 dL_law_917 (by decide) (by decide) dL_law_918 lk36 dL_law_921 dL_law_922 ?_
    refine sc_ld (k := 4) hF hS hl (by omega) hL dL_law_923 dL_law_924 dL_law_925 (by decide) dL_law_926 dL_law_927 ?_
    refine kE (wc := (wF cJ dk so vo po co fo (lN P) (lN R) (lN hh) (ept (tT h hh 1).1) zt zS zV)) (wr := (wM cJ cZ mo a1 a2 a3 a4 a5 (lN P) (lN R) (lN hh) zx zy zi zu zv zl zpx zpy zip zvu zvv)) [0, 1, 2, 3, 4, 5] [6, 7, 8, 9, 10, 11] hP hD hS hA rfl rfl rfl (by decide) rfl (eV (As := [.int (xs (i + 1)), .long (lw2 (xs (i + 2)) (xs (i + 3))), .int (xs (i + 4))]) (rest := []) C0 (kX3_holds l D cJ cZ dk so vo po co fo N (lN P) (lN R) (lN hh) (ept (tT h hh 1).1) zt zS zV (xs (i + 1)) (lw2 (xs (i + 2)) (xs (i + 3))) (xs (i + 4)) H.size r czt k1) gL_law_X3_holds rfl ⟨rfl, rfl⟩ hdX3_holds ⟨Nat.le_of_ble_eq_true rfl, Nat.le_of_ble_eq_true rfl⟩ 3 0 rfl rfl rfl (hP.sub [0, 1, 2, 3, 4, 5] rfl) (hD.sub [0, 1, 2, 3, 4, 5] rfl rfl) hE hl rfl rfl (Nat.le_of_ble_eq_true rfl) dL_law_928 ⟨hc0, hs0⟩) (fun H locs hP hD hS => ?_)
    have hP : va_P D vwCl ((wF cJ dk so vo po co fo (lN P) (lN R) (lN hh) (ept (tT h hh 1).1) czt zS zV) ++ (wM cJ cZ mo a1 a2 a3 a4 a5 (lN P) (lN R) (lN hh) zx zy zi zu zv zl zpx zpy zip zvu zvv)) H := hP.sub [6, 7, 8, 9, 10, 11, 0, 1, 2, 3, 4, 5] rfl
    have hD : va_D (LA s) ((wF cJ dk so vo po co fo (lN P) (lN R) (lN hh) (ept (tT h hh 1).1) czt zS zV) ++ (wM cJ cZ mo a1 a2 a3 a4 a5 (lN P) (lN R) (lN hh) zx zy zi zu zv zl zpx zpy zip zvu zvv)) := hD.sub [6, 7, 8, 9, 10, 11, 0, 1, 2, 3, 4, 5] rfl rfl
    refine W.eq (g2 := F0 m 931 ls [.int r]) rfl ?_
    refine lv_aload_n hx hb dL_law_931 rfl (lv_at hl 2 rfl) ?_
    refine sc_ld (k := 1) hF hS hl (by omega) hL dL_law_932 dL_law_933 dL_law_934 (by decide) dL_law_935 dL_law_936 ?_
    refine sc_ll (k := 2) hF hS hl (by omega) hL dL_law_937 dL_law_938 dL_law_939 dL_law_940 dL_law_941 dL_law_942 dL_law_943 dL_law_945 dL_law_946 dL_law_947 dL_law_948 dL_law_949 dL_law_950 dL_law_951 (by decide) (by decide) dL_law_952 lk36 dL_law_955 dL_law_956 ?_
    refine sc_ld (k := 4) hF hS hl (by omega) hL dL_law_957 dL_law_958 dL_law_959 (by decide) dL_law_960 dL_law_961 ?_
    refine kE (wc := (wM cJ cZ mo a1 a2 a3 a4 a5 (lN P) (lN R) (lN hh) zx zy zi zu zv zl zpx zpy zip zvu zvv)) (wr := (wF cJ dk so vo po co fo (lN P) (lN R) (lN hh) (ept (tT h hh 1).1) czt zS zV)) [6, 7, 8, 9, 10, 11] [0, 1, 2, 3, 4, 5] hP hD hS hA rfl rfl rfl (by decide) rfl (eV (As := [.int (xs (i + 1)), .long (lw2 (xs (i + 2)) (xs (i + 3))), .int (xs (i + 4))]) (rest := [.int r]) C0 (kX4_holds l D cJ cZ mo a1 a2 a3 a4 a5 N (lN P) (lN R) (lN hh) zx zy zi zu zv zl zpx zpy zip zvu zvv (xs (i + 1)) (lw2 (xs (i + 2)) (xs (i + 3))) (xs (i + 4)) H.size r mzx mzy mzi mzu mzv mzl k2) gL_law_X4_holds rfl ⟨rfl, rfl⟩ hdX4_holds ⟨Nat.le_of_ble_eq_true rfl, Nat.le_of_ble_eq_true rfl⟩ 4 0 rfl rfl rfl (hP.sub [6, 7, 8, 9, 10, 11] rfl) (hD.sub [6, 7, 8, 9, 10, 11] rfl rfl) hE hl rfl rfl (Nat.le_of_ble_eq_true rfl) dL_law_962 ⟨hc0, hs0⟩) (fun H locs hP hD hS => ?_)
    refine W.eq (g2 := F0 m 965 ls [.int r, .int r]) rfl ?_
    refine lv_icmp_eq (tgt := 1067) hx hb dL_law_965 (by decide) (fun _ => ?_) (fun cx => absurd rfl cx)
    exact W.widen (by omega) (by omega) (nx _ _ ⟨hS, .inr ⟨so, vo, po, co, fo, a1, a2, a3, a4, a5, P, R, hh, ne, h, czt, zS, zV, mzx, mzy, mzi, mzu, mzv, mzl, zpx, zpy, zip, zvu, zvv, pP, h0, hR, hH, hP, hD, sR, vR⟩⟩)
set_option maxHeartbeats 4000000 in
set_option maxRecDepth 100000 in
theorem cs_holdsAll (hF : LF p s m c b L xs) (hE : EV D cJ cZ s) (hL : L ≤ 3072) (hi : i + 6 ≤ L) (hl : lv_has ls 4 [(0, .ref b), (1, .ref dk), (2, .ref mo), (3, .int (nI i))]) (hcl : cells + 3 ≤ room_1.cells) (hsl : slots + 10 ≤ room_1.slots) (hI : IV D cJ cZ dk mo s H locs) (nx : ∀ (H : Heap) (locs : List Loc), IV D cJ cZ dk mo s H locs → W p l e room_1 s m #[Value.ref b] below meth c H locs (cells + 3) (slots + 10) Q (F0 m 1067 ls [])) : W p l e room_1 s m #[Value.ref b] below meth c H locs cells slots Q (F0 m 970 ls []) := by
  obtain ⟨C0, hX, hbl⟩ := id hF
  have hx := C0.1
  have hb := C0.2.1
  have hA : ∀ q : Nat, s.heap.size ≤ q → LA s q := fun _ h => h
  obtain ⟨N, hN⟩ : ∃ N : Nat, 100000 ≤ N := ⟨100000, Nat.le_refl _⟩
  have hc0 : cells ≤ room_1.cells := Nat.le_trans (Nat.le_add_right cells 3) hcl
  have hs0 : slots ≤ room_1.slots := Nat.le_trans (Nat.le_add_right slots 10) hsl
  obtain ⟨hS, hM⟩ := hI
  rcases hM with ⟨so, vo, a1, a2, a3, a4, a5, zS, zV, zx, zy, zi, zu, zv, zl, zpx, zpy, zip, zvu, zvv, hP, hD⟩ | ⟨so, vo, po, co, fo, a1, a2, a3, a4, a5, P, R, hh, ne, h, zt, zS, zV, zx, zy, zi, zu, zv, zl, zpx, zpy, zip, zvu, zvv, pP, h0, hR, hH, hP, hD, sR, vR⟩
  · have hP : va_P D vwCl ((wN cJ dk so vo zS zV) ++ (wM cJ cZ mo a1 a2 a3 a4 a5 0 0 0 zx zy zi zu zv zl zpx zpy zip zvu zvv)) H := hP
    have hD : va_D (LA s) ((wN cJ dk so vo zS zV) ++ (wM cJ cZ mo a1 a2 a3 a4 a5 0 0 0 zx zy zi zu zv zl zpx zpy zip zvu zvv)) := hD
    refine lv_aload_n hx hb dL_law_970 rfl (lv_at hl 1 rfl) ?_
    refine sc_ld (k := 1) hF hS hl (by omega) hL dL_law_971 dL_law_972 dL_law_973 (by decide) dL_law_974 dL_law_975 ?_
    refine sc_ld (k := 2) hF hS hl (by omega) hL dL_law_976 dL_law_977 dL_law_978 (by decide) dL_law_979 dL_law_980 ?_
    refine sc_ll (k := 3) hF hS hl (by omega) hL dL_law_981 dL_law_982 dL_law_983 dL_law_984 dL_law_985 dL_law_986 dL_law_987 dL_law_989 dL_law_990 dL_law_991 dL_law_992 dL_law_993 dL_law_994 dL_law_995 (by decide) (by decide) dL_law_996 lk36 dL_law_999 dL_law_1000 ?_
    refine sc_ld (k := 5) hF hS hl (by omega) hL dL_law_1001 dL_law_1002 dL_law_1003 (by decide) dL_law_1004 dL_law_1005 ?_
    refine ki (kV (As := [.int (xs (i + 1)), .int (xs (i + 2)), .long (lw2 (xs (i + 3)) (xs (i + 4))), .int (xs (i + 5))]) (rest := []) C0 (kX3_holdsAll_null l D cJ cZ dk so vo zS zV (xs (i + 1)) (xs (i + 2)) (lw2 (xs (i + 3)) (xs (i + 4))) (xs (i + 5)) (-3) rfl) gL_law_X3_holdsAll rfl ⟨rfl, rfl⟩ hdX3_holdsAll ⟨Nat.le_of_ble_eq_true rfl, Nat.le_of_ble_eq_true rfl⟩ 3 0 rfl rfl rfl (hP.sub [0, 1, 2] rfl) hE hl rfl rfl (Nat.le_of_ble_eq_true rfl) dL_law_1006 hc0 hs0) ?_
    refine lv_aload_n hx hb dL_law_1009 rfl (lv_at hl 2 rfl) ?_
    refine sc_ld (k := 1) hF hS hl (by omega) hL dL_law_1010 dL_law_1011 dL_law_1012 (by decide) dL_law_1013 dL_law_1014 ?_
    refine sc_ld (k := 2) hF hS hl (by omega) hL dL_law_1015 dL_law_1016 dL_law_1017 (by decide) dL_law_1018 dL_law_1019 ?_
    refine sc_ll (k := 3) hF hS hl (by omega) hL dL_law_1020 dL_law_1021 dL_law_1022 dL_law_1023 dL_law_1024 dL_law_1025 dL_law_1026 dL_law_1028 dL_law_1029 dL_law_1030 dL_law_1031 dL_law_1032 dL_law_1033 dL_law_1034 (by decide) (by decide) dL_law_1035 lk36 dL_law_1038 dL_law_1039 ?_
    refine sc_ld (k := 5) hF hS hl (by omega) hL dL_law_1040 dL_law_1041 dL_law_1042 (by decide) dL_law_1043 dL_law_1044 ?_
    refine kE (wc := (wM cJ cZ mo a1 a2 a3 a4 a5 0 0 0 zx zy zi zu zv zl zpx zpy zip zvu zvv)) (wr := (wN cJ dk so vo zS zV)) [3, 4, 5, 6, 7, 8] [0, 1, 2] hP hD hS hA rfl rfl rfl (by decide) rfl (eV (As := [.int (xs (i + 1)), .int (xs (i + 2)), .long (lw2 (xs (i + 3)) (xs (i + 4))), .int (xs (i + 5))]) (rest := [.int (-3)]) C0 (kX4_holdsAll l D cJ cZ mo a1 a2 a3 a4 a5 N 0 0 0 zx zy zi zu zv zl zpx zpy zip zvu zvv (xs (i + 1)) (xs (i + 2)) (lw2 (xs (i + 3)) (xs (i + 4))) (xs (i + 5)) H.size (-3) zx zy zi zu zv zl (by unfold fX4_holdsAll; exact if_pos rfl)) gL_law_X4_holdsAll rfl ⟨rfl, rfl⟩ hdX4_holdsAll ⟨Nat.le_of_ble_eq_true rfl, Nat.le_of_ble_eq_true rfl⟩ 4 0 rfl rfl rfl (hP.sub [3, 4, 5, 6, 7, 8] rfl) (hD.sub [3, 4, 5, 6, 7, 8] rfl rfl) hE hl rfl rfl (Nat.le_of_ble_eq_true rfl) dL_law_1045 ⟨hc0, hs0⟩) (fun H locs hP hD hS => ?_)
    refine W.eq (g2 := F0 m 1048 ls [.int (-3), .int (-3)]) rfl ?_
    refine lv_icmp_eq (tgt := 1067) hx hb dL_law_1048 (by decide) (fun _ => ?_) (fun cx => absurd rfl cx)
    exact W.widen (by omega) (by omega) (nx _ _ ⟨hS, .inl ⟨so, vo, a1, a2, a3, a4, a5, zS, zV, zx, zy, zi, zu, zv, zl, zpx, zpy, zip, zvu, zvv, hP, hD⟩⟩)
  · obtain ⟨hbt, hr⟩ := RB_of h0 hR
    obtain ⟨r, czt, mzx, mzy, mzi, mzu, mzv, mzl, k1, k2⟩ := g_holdsAll h pP hN hr hH sR zt zx zy zu zv zi zl (xs (i + 1)) (xs (i + 2)) (lw2 (xs (i + 3)) (xs (i + 4))) (xs (i + 5))
    have hP : va_P D vwCl ((wF cJ dk so vo po co fo (lN P) (lN R) (lN hh) (ept (tT h hh 1).1) zt zS zV) ++ (wM cJ cZ mo a1 a2 a3 a4 a5 (lN P) (lN R) (lN hh) zx zy zi zu zv zl zpx zpy zip zvu zvv)) H := hP
    have hD : va_D (LA s) ((wF cJ dk so vo po co fo (lN P) (lN R) (lN hh) (ept (tT h hh 1).1) zt zS zV) ++ (wM cJ cZ mo a1 a2 a3 a4 a5 (lN P) (lN R) (lN hh) zx zy zi zu zv zl zpx zpy zip zvu zvv)) := hD
    refine lv_aload_n hx hb dL_law_970 rfl (lv_at hl 1 rfl) ?_
    refine sc_ld (k := 1) hF hS hl (by omega) hL dL_law_971 dL_law_972 dL_law_973 (by decide) dL_law_974 dL_law_975 ?_
    refine sc_ld (k := 2) hF hS hl (by omega) hL dL_law_976 dL_law_977 dL_law_978 (by decide) dL_law_979 dL_law_980 ?_
    refine sc_ll (k := 3) hF hS hl (by omega) hL dL_law_981 dL_law_982 dL_law_983 dL_law_984 dL_law_985 dL_law_986 dL_law_987 dL_law_989 dL_law_990 dL_law_991 dL_law_992 dL_law_993 dL_law_994 dL_law_995 (by decide) (by decide) dL_law_996 lk36 dL_law_999 dL_law_1000 ?_
    refine sc_ld (k := 5) hF hS hl (by omega) hL dL_law_1001 dL_law_1002 dL_law_1003 (by decide) dL_law_1004 dL_law_1005 ?_
    refine kE (wc := (wF cJ dk so vo po co fo (lN P) (lN R) (lN hh) (ept (tT h hh 1).1) zt zS zV)) (wr := (wM cJ cZ mo a1 a2 a3 a4 a5 (lN P) (lN R) (lN hh) zx zy zi zu zv zl zpx zpy zip zvu zvv)) [0, 1, 2, 3, 4, 5] [6, 7, 8, 9, 10, 11] hP hD hS hA rfl rfl rfl (by decide) rfl (eV (As := [.int (xs (i + 1)), .int (xs (i + 2)), .long (lw2 (xs (i + 3)) (xs (i + 4))), .int (xs (i + 5))]) (rest := []) C0 (kX3_holdsAll l D cJ cZ dk so vo po co fo N (lN P) (lN R) (lN hh) (ept (tT h hh 1).1) zt zS zV (xs (i + 1)) (xs (i + 2)) (lw2 (xs (i + 3)) (xs (i + 4))) (xs (i + 5)) H.size r czt k1) gL_law_X3_holdsAll rfl ⟨rfl, rfl⟩ hdX3_holdsAll ⟨Nat.le_of_ble_eq_true rfl, Nat.le_of_ble_eq_true rfl⟩ 3 0 rfl rfl rfl (hP.sub [0, 1, 2, 3, 4, 5] rfl) (hD.sub [0, 1, 2, 3, 4, 5] rfl rfl) hE hl rfl rfl (Nat.le_of_ble_eq_true rfl) dL_law_1006 ⟨hc0, hs0⟩) (fun H locs hP hD hS => ?_)
    have hP : va_P D vwCl ((wF cJ dk so vo po co fo (lN P) (lN R) (lN hh) (ept (tT h hh 1).1) czt zS zV) ++ (wM cJ cZ mo a1 a2 a3 a4 a5 (lN P) (lN R) (lN hh) zx zy zi zu zv zl zpx zpy zip zvu zvv)) H := hP.sub [6, 7, 8, 9, 10, 11, 0, 1, 2, 3, 4, 5] rfl
    have hD : va_D (LA s) ((wF cJ dk so vo po co fo (lN P) (lN R) (lN hh) (ept (tT h hh 1).1) czt zS zV) ++ (wM cJ cZ mo a1 a2 a3 a4 a5 (lN P) (lN R) (lN hh) zx zy zi zu zv zl zpx zpy zip zvu zvv)) := hD.sub [6, 7, 8, 9, 10, 11, 0, 1, 2, 3, 4, 5] rfl rfl
    refine W.eq (g2 := F0 m 1009 ls [.int r]) rfl ?_
    refine lv_aload_n hx hb dL_law_1009 rfl (lv_at hl 2 rfl) ?_
    refine sc_ld (k := 1) hF hS hl (by omega) hL dL_law_1010 dL_law_1011 dL_law_1012 (by decide) dL_law_1013 dL_law_1014 ?_
    refine sc_ld (k := 2) hF hS hl (by omega) hL dL_law_1015 dL_law_1016 dL_law_1017 (by decide) dL_law_1018 dL_law_1019 ?_
    refine sc_ll (k := 3) hF hS hl (by omega) hL dL_law_1020 dL_law_1021 dL_law_1022 dL_law_1023 dL_law_1024 dL_law_1025 dL_law_1026 dL_law_1028 dL_law_1029 dL_law_1030 dL_law_1031 dL_law_1032 dL_law_1033 dL_law_1034 (by decide) (by decide) dL_law_1035 lk36 dL_law_1038 dL_law_1039 ?_
    refine sc_ld (k := 5) hF hS hl (by omega) hL dL_law_1040 dL_law_1041 dL_law_1042 (by decide) dL_law_1043 dL_law_1044 ?_
    refine kE (wc := (wM cJ cZ mo a1 a2 a3 a4 a5 (lN P) (lN R) (lN hh) zx zy zi zu zv zl zpx zpy zip zvu zvv)) (wr := (wF cJ dk so vo po co fo (lN P) (lN R) (lN hh) (ept (tT h hh 1).1) czt zS zV)) [6, 7, 8, 9, 10, 11] [0, 1, 2, 3, 4, 5] hP hD hS hA rfl rfl rfl (by decide) rfl (eV (As := [.int (xs (i + 1)), .int (xs (i + 2)), .long (lw2 (xs (i + 3)) (xs (i + 4))), .int (xs (i + 5))]) (rest := [.int r]) C0 (kX4_holdsAll l D cJ cZ mo a1 a2 a3 a4 a5 N (lN P) (lN R) (lN hh) zx zy zi zu zv zl zpx zpy zip zvu zvv (xs (i + 1)) (xs (i + 2)) (lw2 (xs (i + 3)) (xs (i + 4))) (xs (i + 5)) H.size r mzx mzy mzi mzu mzv mzl k2) gL_law_X4_holdsAll rfl ⟨rfl, rfl⟩ hdX4_holdsAll ⟨Nat.le_of_ble_eq_true rfl, Nat.le_of_ble_eq_true rfl⟩ 4 0 rfl rfl rfl (hP.sub [6, 7, 8, 9, 10, 11] rfl) (hD.sub [6, 7, 8, 9, 10, 11] rfl rfl) hE hl rfl rfl (Nat.le_of_ble_eq_true rfl) dL_law_1045 ⟨hc0, hs0⟩) (fun H locs hP hD hS => ?_)
    refine W.eq (g2 := F0 m 1048 ls [.int r, .int r]) rfl ?_
    refine lv_icmp_eq (tgt := 1067) hx hb dL_law_1048 (by decide) (fun _ => ?_) (fun cx => absurd rfl cx)
    exact W.widen (by omega) (by omega) (nx _ _ ⟨hS, .inr ⟨so, vo, po, co, fo, a1, a2, a3, a4, a5, P, R, hh, ne, h, czt, zS, zV, mzx, mzy, mzi, mzu, mzv, mzl, zpx, zpy, zip, zvu, zvv, pP, h0, hR, hH, hP, hD, sR, vR⟩⟩)
set_option maxHeartbeats 4000000 in
set_option maxRecDepth 100000 in
theorem cs_digest (hF : LF p s m c b L xs) (hE : EV D cJ cZ s) (hL : L ≤ 3072) (hi : i + 6 ≤ L) (hl : lv_has ls 4 [(0, .ref b), (1, .ref dk), (2, .ref mo), (3, .int (nI i))]) (hcl : cells + 3 ≤ room_1.cells) (hsl : slots + 10 ≤ room_1.slots) (hI : IV D cJ cZ dk mo s H locs) (nx : ∀ (H : Heap) (locs : List Loc), IV D cJ cZ dk mo s H locs → W p l e room_1 s m #[Value.ref b] below meth c H locs (cells + 3) (slots + 10) Q (F0 m 1067 ls [])) : W p l e room_1 s m #[Value.ref b] below meth c H locs cells slots Q (F0 m 1053 ls []) := by
  obtain ⟨C0, hX, hbl⟩ := id hF
  have hx := C0.1
  have hb := C0.2.1
  have hA : ∀ q : Nat, s.heap.size ≤ q → LA s q := fun _ h => h
  obtain ⟨N, hN⟩ : ∃ N : Nat, 100000 ≤ N := ⟨100000, Nat.le_refl _⟩
  have hc0 : cells ≤ room_1.cells := Nat.le_trans (Nat.le_add_right cells 3) hcl
  have hs0 : slots ≤ room_1.slots := Nat.le_trans (Nat.le_add_right slots 10) hsl
  obtain ⟨hS, hM⟩ := hI
  rcases hM with ⟨so, vo, a1, a2, a3, a4, a5, zS, zV, zx, zy, zi, zu, zv, zl, zpx, zpy, zip, zvu, zvv, hP, hD⟩ | ⟨so, vo, po, co, fo, a1, a2, a3, a4, a5, P, R, hh, ne, h, zt, zS, zV, zx, zy, zi, zu, zv, zl, zpx, zpy, zip, zvu, zvv, pP, h0, hR, hH, hP, hD, sR, vR⟩
  · have hP : va_P D vwCl ((wN cJ dk so vo zS zV) ++ (wM cJ cZ mo a1 a2 a3 a4 a5 0 0 0 zx zy zi zu zv zl zpx zpy zip zvu zvv)) H := hP
    have hD : va_D (LA s) ((wN cJ dk so vo zS zV) ++ (wM cJ cZ mo a1 a2 a3 a4 a5 0 0 0 zx zy zi zu zv zl zpx zpy zip zvu zvv)) := hD
    refine lv_aload_n hx hb dL_law_1053 rfl (lv_at hl 1 rfl) ?_
    refine kl (kV (As := []) (rest := []) C0 (kX3_digest_null l D cJ cZ dk so vo zS zV (-3) rfl) gL_law_X3_digest rfl ⟨rfl, rfl⟩ hdX3_digest ⟨Nat.le_of_ble_eq_true rfl, Nat.le_of_ble_eq_true rfl⟩ 3 0 rfl rfl rfl (hP.sub [0, 1, 2] rfl) hE hl rfl rfl (Nat.le_of_ble_eq_true rfl) dL_law_1054 hc0 hs0) ?_
    refine lv_aload_n hx hb dL_law_1057 rfl (lv_at hl 2 rfl) ?_
    refine kl (kV (As := []) (rest := [.long (-3)]) C0 (kX4_digest l D cJ cZ mo a1 a2 a3 a4 a5 N 0 0 0 zx zy zi zu zv zl zpx zpy zip zvu zvv (-3) (by unfold fX4_digest; exact if_pos rfl)) gL_law_X4_digest rfl ⟨rfl, rfl⟩ hdX4_digest ⟨Nat.le_of_ble_eq_true rfl, Nat.le_of_ble_eq_true rfl⟩ 4 0 rfl rfl rfl (hP.sub [3, 4, 5, 6, 7, 8] rfl) hE hl rfl rfl (Nat.le_of_ble_eq_true rfl) dL_law_1058 hc0 hs0) ?_
    refine lc_eq (tgt := 1067) hx hb dL_law_1061 dL_law_1062 (by decide) (fun _ => ?_) (fun cx => absurd rfl cx)
    exact W.widen (by omega) (by omega) (nx _ _ ⟨hS, .inl ⟨so, vo, a1, a2, a3, a4, a5, zS, zV, zx, zy, zi, zu, zv, zl, zpx, zpy, zip, zvu, zvv, hP, hD⟩⟩)
  · obtain ⟨r, k1, k2⟩ := g_digest pP hN sR vR
    have hP : va_P D vwCl ((wF cJ dk so vo po co fo (lN P) (lN R) (lN hh) (ept (tT h hh 1).1) zt zS zV) ++ (wM cJ cZ mo a1 a2 a3 a4 a5 (lN P) (lN R) (lN hh) zx zy zi zu zv zl zpx zpy zip zvu zvv)) H := hP
    have hD : va_D (LA s) ((wF cJ dk so vo po co fo (lN P) (lN R) (lN hh) (ept (tT h hh 1).1) zt zS zV) ++ (wM cJ cZ mo a1 a2 a3 a4 a5 (lN P) (lN R) (lN hh) zx zy zi zu zv zl zpx zpy zip zvu zvv)) := hD
    refine lv_aload_n hx hb dL_law_1053 rfl (lv_at hl 1 rfl) ?_
    refine kl (kV (As := []) (rest := []) C0 (kX3_digest l D cJ cZ dk so vo po co fo N (lN P) (lN R) (lN hh) (ept (tT h hh 1).1) zt zS zV r k1) gL_law_X3_digest rfl ⟨rfl, rfl⟩ hdX3_digest ⟨Nat.le_of_ble_eq_true rfl, Nat.le_of_ble_eq_true rfl⟩ 3 0 rfl rfl rfl (hP.sub [0, 1, 2, 3, 4, 5] rfl) hE hl rfl rfl (Nat.le_of_ble_eq_true rfl) dL_law_1054 hc0 hs0) ?_
    refine lv_aload_n hx hb dL_law_1057 rfl (lv_at hl 2 rfl) ?_
    refine kl (kV (As := []) (rest := [.long r]) C0 (kX4_digest l D cJ cZ mo a1 a2 a3 a4 a5 N (lN P) (lN R) (lN hh) zx zy zi zu zv zl zpx zpy zip zvu zvv r k2) gL_law_X4_digest rfl ⟨rfl, rfl⟩ hdX4_digest ⟨Nat.le_of_ble_eq_true rfl, Nat.le_of_ble_eq_true rfl⟩ 4 0 rfl rfl rfl (hP.sub [6, 7, 8, 9, 10, 11] rfl) hE hl rfl rfl (Nat.le_of_ble_eq_true rfl) dL_law_1058 hc0 hs0) ?_
    refine lc_eq (tgt := 1067) hx hb dL_law_1061 dL_law_1062 (by decide) (fun _ => ?_) (fun cx => absurd rfl cx)
    exact W.widen (by omega) (by omega) (nx _ _ ⟨hS, .inr ⟨so, vo, po, co, fo, a1, a2, a3, a4, a5, P, R, hh, ne, h, zt, zS, zV, zx, zy, zi, zu, zv, zl, zpx, zpy, zip, zvu, zvv, pP, h0, hR, hH, hP, hD, sR, vR⟩⟩)
end
