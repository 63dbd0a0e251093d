set_option maxHeartbeats 4000000 in
set_option maxRecDepth 100000 in
theorem case_isSound {p : Program} {l : Launch} {e : Env} {R : Room} {s : State} {m : MethodId} {args : Array Value} {below : List Frame} {meth : Method} {c : Code} {Q : State → Prop} {A : Nat → Prop} {D : va_G} {cI cL cZ cA cB cD : ClassId} {b L : Nat} {xs : Nat → Int32} {ad ad2 : Nat → Nat} {oo od : Nat}
    (C9 : lawC p l s m args c A D cI cL cZ cA cB cD b L xs R) {i : Nat} (hi : i + 4 ≤ L) {S : CS} {f : Nat → Int64} {fd : Nat → UInt64} {T : MS} (I9 : lawI S T) {H : Heap} {locs : List Loc} {ls : Array Slot} {cells slots : Nat} (hcc : cells + 2 ≤ R.cells) (hss : slots + 26 ≤ R.slots)
    (hP : va_P D vwCl (lawW ad ad2 cI cL cZ cA cB cD oo od S f fd T) H) (hD : va_D A (lawW ad ad2 cI cL cZ cA cB cD oo od S f fd T)) (hS : va_S A s.heap H locs) (hl : lv_has ls 9 [(5, .int (nI i)), (4, .ref od), (3, .ref oo), (2, .ref (ad2 0)), (1, .ref (ad 0)), (0, .ref b)])
    (kk9 : lawK p l e R s m args below meth c Q A D cI cL cZ cA cB cD b ad ad2 oo od i cells slots) : W p l e R s m args below meth c H locs cells slots Q (F0 m 2850 ls []) := by
  obtain ⟨hx, hb, hml, hown, hts, hN, hE, hfl, hX, hbl, hbA, hA, hK, hR1, hR2, hL⟩ := C9
  obtain ⟨ok0, ok1, hL0, hL1⟩ := I9
  refine lv_aload_n hx hb dL_law_2850 rfl (lv_at hl 4 rfl) ?_
  refine law_di (fun E u h => absurd h.1 List.not_mem_nil) (vx_runV (As := []) (rest := []) ⟨hx, hb, hml, hown, hts⟩ (K_isSound l D cI cL cZ H.size ad S ok0 ok1) (cwV 0 hts (lw_gV q_249 q_250 q_251 q_31 q_252) rfl rfl rfl (by decide +kernel) ⟨Nat.le_trans (Nat.le_of_ble_eq_true rfl) hR1, Nat.le_trans (Nat.le_of_ble_eq_true rfl) hR2⟩) (su_pvx hE hS hA hN hK hP hD [2, 3, 4, 5, 6, 7, 8, 9, 10, 11, 12, 13, 14, 15, 16, 17, 18, 19, 20, 21, 22, 23, 24, 25, 26, 27, 28, 29, 30, 31, 32, 33, 34, 35, 36, 37, 38, 39, 40, 41, 42, 43, 44, 45, 46, 47, 48, 49, 50, 51, 52, 53, 54, 55, 56, 57, 58, 59, 60, 61, 62, 63, 64, 65, 66, 67, 68, 69, 70] [0, 1, 2] rfl rfl rfl (ci := 9) (q0 := 0) rfl rfl rfl) rfl rfl hl.1 rfl (lv_room (Nat.le_of_ble_eq_true rfl)) dL_law_2851 ⟨(Nat.le_trans (Nat.add_le_add_left (Nat.le_of_ble_eq_true rfl) _) hcc), (Nat.le_trans (Nat.add_le_add_left (Nat.le_of_ble_eq_true rfl) _) hss)⟩) hP hD hS hA (fun r u H locs hw hP hD hS => ?_)
  refine lv_aload_n hx hb dL_law_2854 rfl (lv_at hl 3 rfl) ?_
  refine law_mi (va_runV (As := []) (rest := [.int r]) ⟨hx, hb, hml, hown, hts⟩ (M_isSound l D cI cL cZ cA cB H.size ad2 T (S.1 0) (S.1 1) (S.2.1 0) (S.2.1 1) hL0 hL1 ok0 ok1) (cwV 0 hts (lw_gV q_1227 q_1228 q_1229 q_42 q_1230) rfl rfl rfl (by decide +kernel) ⟨Nat.le_trans (Nat.le_of_ble_eq_true rfl) hR1, Nat.le_trans (Nat.le_of_ble_eq_true rfl) hR2⟩) (su_pv hN hK hP hD [71, 72, 73, 74, 75, 76, 77, 78, 79, 80] [0, 1, 2, 3, 4] rfl rfl rfl (ci := 10) (q0 := 0) rfl rfl rfl) rfl rfl hl.1 rfl (lv_room (Nat.le_of_ble_eq_true rfl)) dL_law_2855 ⟨Nat.le_trans (by omega) hcc, Nat.le_trans (by omega) hss⟩) hP hD hS hA (fun r2 T1 H locs hw2 hP hD hS => ?_)
  have hv : r = r2 := hw.1.2.trans (hw2.2.1 rfl).symm
  refine lv_icmp_eq (tgt := 2877) hx hb dL_law_2858 (by decide) (fun _ => ?_) (fun h9 => absurd hv h9)
  refine W.widen (k := cells + 2) (n := slots + 26) (by omega) (by omega) ?_
  exact kk9 u f fd T1 H locs ls (lawI_of hw.2.1 hw.2.2 hw2.2.2.1 hw2.2.2.2 ok0 ok1) hP hD hS hl
set_option maxHeartbeats 4000000 in
set_option maxRecDepth 100000 in
theorem case_checksum {p : Program} {l : Launch} {e : Env} {R : Room} {s : State} {m : MethodId} {args : Array Value} {below : List Frame} {meth : Method} {c : Code} {Q : State → Prop} {A : Nat → Prop} {D : va_G} {cI cL cZ cA cB cD : ClassId} {b L : Nat} {xs : Nat → Int32} {ad ad2 : Nat → Nat} {oo od : Nat}
    (C9 : lawC p l s m args c A D cI cL cZ cA cB cD b L xs R) {i : Nat} (hi : i + 4 ≤ L) {S : CS} {f : Nat → Int64} {fd : Nat → UInt64} {T : MS} (I9 : lawI S T) {H : Heap} {locs : List Loc} {ls : Array Slot} {cells slots : Nat} (hcc : cells + 2 ≤ R.cells) (hss : slots + 26 ≤ R.slots)
    (hP : va_P D vwCl (lawW ad ad2 cI cL cZ cA cB cD oo od S f fd T) H) (hD : va_D A (lawW ad ad2 cI cL cZ cA cB cD oo od S f fd T)) (hS : va_S A s.heap H locs) (hl : lv_has ls 9 [(5, .int (nI i)), (4, .ref od), (3, .ref oo), (2, .ref (ad2 0)), (1, .ref (ad 0)), (0, .ref b)])
    (kk9 : lawK p l e R s m args below meth c Q A D cI cL cZ cA cB cD b ad ad2 oo od i cells slots) : W p l e R s m args below meth c H locs cells slots Q (F0 m 2863 ls []) := by
  obtain ⟨hx, hb, hml, hown, hts, hN, hE, hfl, hX, hbl, hbA, hA, hK, hR1, hR2, hL⟩ := C9
  obtain ⟨ok0, ok1, hL0, hL1⟩ := I9
  refine lv_aload_n hx hb dL_law_2863 rfl (lv_at hl 4 rfl) ?_
  refine law_dl (fun E u h => absurd h.1 List.not_mem_nil) (vx_runV (As := []) (rest := []) ⟨hx, hb, hml, hown, hts⟩ (K_checksum l D cI cL cZ H.size ad S ok0 ok1) (cwV 0 hts (lw_gV q_430 q_431 q_432 q_31 q_433) rfl rfl rfl (by decide +kernel) ⟨Nat.le_trans (Nat.le_of_ble_eq_true rfl) hR1, Nat.le_trans (Nat.le_of_ble_eq_true rfl) hR2⟩) (su_pvx hE hS hA hN hK hP hD [2, 3, 4, 5, 6, 7, 8, 9, 10, 11, 12, 13, 14, 15, 16, 17, 18, 19, 20, 21, 22, 23, 24, 25, 26, 27, 28, 29, 30, 31, 32, 33, 34, 35, 36, 37, 38, 39, 40, 41, 42, 43, 44, 45, 46, 47, 48, 49, 50, 51, 52, 53, 54, 55, 56, 57, 58, 59, 60, 61, 62, 63, 64, 65, 66, 67, 68, 69, 70] [0, 1, 2] rfl rfl rfl (ci := 9) (q0 := 0) rfl rfl rfl) rfl rfl hl.1 rfl (lv_room (Nat.le_of_ble_eq_true rfl)) dL_law_2864 ⟨(Nat.le_trans (Nat.add_le_add_left (Nat.le_of_ble_eq_true rfl) _) hcc), (Nat.le_trans (Nat.add_le_add_left (Nat.le_of_ble_eq_true rfl) _) hss)⟩) hP hD hS hA (fun r u H locs hw hP hD hS => ?_)
  refine lv_aload_n hx hb dL_law_2867 rfl (lv_at hl 3 rfl) ?_
  refine law_ml (va_runV (As := []) (rest := [.long r]) ⟨hx, hb, hml, hown, hts⟩ (M_checksum l D cI cL cZ cA cB H.size ad2 T (S.1 0) (S.1 1) (S.2.1 0) (S.2.1 1) hL0 hL1 ok0 ok1) (cwV 0 hts (lw_gV q_1231 q_1232 q_1233 q_42 q_1234) rfl rfl rfl (by decide +kernel) ⟨Nat.le_trans (Nat.le_of_ble_eq_true rfl) hR1, Nat.le_trans (Nat.le_of_ble_eq_true rfl) hR2⟩) (su_pv hN hK hP hD [71, 72, 73, 74, 75, 76, 77, 78, 79, 80] [0, 1, 2, 3, 4] rfl rfl rfl (ci := 10) (q0 := 0) rfl rfl rfl) rfl rfl hl.1 rfl (lv_room (Nat.le_of_ble_eq_true rfl)) dL_law_2868 ⟨Nat.le_trans (by omega) hcc, Nat.le_trans (by omega) hss⟩) hP hD hS hA (fun r2 T1 H locs hw2 hP hD hS => ?_)
  have hv : r = r2 := hw.1.2.trans (hw2.2.1 rfl).symm
  refine W.lcmp hx hb dL_law_2871 ?_
  refine su_eqi 0 (by rw [hv]; exact lg_self _) ?_
  refine lv_if_eq (tgt := 2877) hx hb dL_law_2872 (by decide) (fun _ => ?_) (fun h9 => absurd rfl h9)
  refine W.widen (k := cells + 2) (n := slots + 26) (by omega) (by omega) ?_
  exact kk9 u f fd T1 H locs ls (lawI_of hw.2.1 hw.2.2 hw2.2.2.1 hw2.2.2.2 ok0 ok1) hP hD hS hl
theorem law_head {p : Program} {l : Launch} {e : Env} {R : Room} {s : State} {m : MethodId} {args : Array Value} {below : List Frame} {meth : Method} {c : Code} {Q : State → Prop} {A : Nat → Prop} {D : va_G} {cI cL cZ cA cB cD : ClassId} {b L : Nat} {xs : Nat → Int32} {ad ad2 : Nat → Nat} {oo od : Nat}
    (C9 : lawC p l s m args c A D cI cL cZ cA cB cD b L xs R) {i : Nat} (hi : i < 2 ^ 30) {H : Heap} {locs : List Loc} {ls : Array Slot} {cells slots : Nat} (hS : va_S A s.heap H locs) (hl : lv_has ls 9 [(5, .int (nI i)), (4, .ref od), (3, .ref oo), (2, .ref (ad2 0)), (1, .ref (ad 0)), (0, .ref b)])
    (k1 : W p l e R s m args below meth c H locs cells slots Q (F0 m 2883 ls [])) (k2 : i + 4 ≤ L → W p l e R s m args below meth c H locs cells slots Q (F0 m 44 ls [.int (xs i &&& nI 63)])) : W p l e R s m args below meth c H locs cells slots Q (F0 m 28 ls []) := by
  obtain ⟨hx, hb, hml, hown, hts, hN, hE, hfl, hX, hbl, hbA, hA, hK, hR1, hR2, hL⟩ := C9
  refine lv_iload hx hb dL_law_28 (lv_at hl 0 rfl) ?_
  refine lv_aload_n hx hb dL_law_30 rfl (lv_at hl 5 rfl) ?_
  refine va_slen hx hb hX hbl hbA hS dL_law_31 ?_
  refine su_eqi (nI L) rfl ?_
  refine lv_iconst (v := nI 4) hx hb dL_law_32 (by decide) ?_
  refine lv_isub hx hb dL_law_33 ?_
  refine lv_icmp_gt (tgt := 2883) hx hb dL_law_34 (by decide) (fun c34 => k1) (fun c34 => ?_)
  have c34 : i + 4 ≤ L := by have h9 : ¬ L < i + 4 := fun q => c34 ((su_lt4 hi (by omega)).mpr q); omega
  refine lv_aload_n hx hb dL_law_37 rfl (lv_at hl 5 rfl) ?_
  refine lv_iload hx hb dL_law_38 (lv_at hl 0 rfl) ?_
  refine va_sld hx hb hX hbl hbA hS (vp_in_nI (by omega) (by omega)) dL_law_40 ?_
  refine su_eqi (xs i) (by rw [nI_clamp (by omega)]) ?_
  refine lv_bipush (v := nI 63) hx hb dL_law_41 (by decide) ?_
  refine lv_iand hx hb dL_law_43 ?_
  exact k2 c34
set_option maxHeartbeats 4000000 in
set_option maxRecDepth 100000 in
theorem law_body {p : Program} {l : Launch} {e : Env} {R : Room} {s : State} {m : MethodId} {args : Array Value} {below : List Frame} {meth : Method} {c : Code} {Q : State → Prop} {A : Nat → Prop} {D : va_G} {cI cL cZ cA cB cD : ClassId} {b L : Nat} {xs : Nat → Int32} {ad ad2 : Nat → Nat} {oo od : Nat}
    (C9 : lawC p l s m args c A D cI cL cZ cA cB cD b L xs R) {i : Nat} (hi : i + 4 ≤ L) {S : CS} {f : Nat → Int64} {fd : Nat → UInt64} {T : MS} (I9 : lawI S T) {H : Heap} {locs : List Loc} {ls : Array Slot} {cells slots : Nat} (hcc : cells + 2 ≤ R.cells) (hss : slots + 26 ≤ R.slots)
    (hP : va_P D vwCl (lawW ad ad2 cI cL cZ cA cB cD oo od S f fd T) H) (hD : va_D A (lawW ad ad2 cI cL cZ cA cB cD oo od S f fd T)) (hS : va_S A s.heap H locs) (hl : lv_has ls 9 [(5, .int (nI i)), (4, .ref od), (3, .ref oo), (2, .ref (ad2 0)), (1, .ref (ad 0)), (0, .ref b)])
    (kk9 : lawK p l e R s m args below meth c Q A D cI cL cZ cA cB cD b ad ad2 oo od i cells slots) {w : Int32} : W p l e R s m args below meth c H locs cells slots Q (F0 m 44 ls [.int w]) := by
  have hx := C9.1
  have hb := C9.2.1
  rcases (show (w.toInt < 0 ∨ 36 < w.toInt) ∨ w.toInt = 0 ∨ w.toInt = 1 ∨ w.toInt = 2 ∨ w.toInt = 3 ∨ w.toInt = 4 ∨ w.toInt = 5 ∨ w.toInt = 6 ∨ w.toInt = 7 ∨ w.toInt = 8 ∨ w.toInt = 9 ∨ w.toInt = 10 ∨ w.toInt = 11 ∨ w.toInt = 12 ∨ w.toInt = 13 ∨ w.toInt = 14 ∨ w.toInt = 15 ∨ w.toInt = 16 ∨ w.toInt = 17 ∨ w.toInt = 18 ∨ w.toInt = 19 ∨ w.toInt = 20 ∨ w.toInt = 21 ∨ w.toInt = 22 ∨ w.toInt = 23 ∨ w.toInt = 24 ∨ w.toInt = 25 ∨ w.toInt = 26 ∨ w.toInt = 27 ∨ w.toInt = 28 ∨ w.toInt = 29 ∨ w.toInt = 30 ∨ w.toInt = 31 ∨ w.toInt = 32 ∨ w.toInt = 33 ∨ w.toInt = 34 ∨ w.toInt = 35 ∨ w.toInt = 36 by omega) with h | h | h | h | h | h | h | h | h | h | h | h | h | h | h | h | h | h | h | h | h | h | h | h | h | h | h | h | h | h | h | h | h | h | h | h | h | h
  · refine lv_tableOut (tgt := 2877) hx hb dL_law_44 h (by decide) ?_
    refine W.widen (k := cells + 2) (n := slots + 26) (by omega) (by omega) ?_
    exact kk9 S f fd T H locs ls I9 hP hD hS hl
  · exact lv_tableIn (off := 164) (tgt := 208) hx hb dL_law_44 (by rw [h]; decide) (by rw [h]; decide) (by rw [h]; rfl) (by decide) (case_add C9 hi I9 hcc hss hP hD hS hl kk9)
  · exact lv_tableIn (off := 232) (tgt := 276) hx hb dL_law_44 (by rw [h]; decide) (by rw [h]; decide) (by rw [h]; rfl) (by decide) (case_insert C9 hi I9 hcc hss hP hD hS hl kk9)
  · exact lv_tableIn (off := 312) (tgt := 356) hx hb dL_law_44 (by rw [h]; decide) (by rw [h]; decide) (by rw [h]; rfl) (by decide) (case_takeOut C9 hi I9 hcc hss hP hD hS hl kk9)
  · exact lv_tableIn (off := 380) (tgt := 424) hx hb dL_law_44 (by rw [h]; decide) (by rw [h]; decide) (by rw [h]; rfl) (by decide) (case_exchange C9 hi I9 hcc hss hP hD hS hl kk9)
  · exact lv_tableIn (off := 460) (tgt := 504) hx hb dL_law_44 (by rw [h]; decide) (by rw [h]; decide) (by rw [h]; rfl) (by decide) (case_move C9 hi I9 hcc hss hP hD hS hl kk9)
  · exact lv_tableIn (off := 540) (tgt := 584) hx hb dL_law_44 (by rw [h]; decide) (by rw [h]; decide) (by rw [h]; rfl) (by decide) (case_sort C9 hi I9 hcc hss hP hD hS hl kk9)
  · exact lv_tableIn (off := 596) (tgt := 640) hx hb dL_law_44 (by rw [h]; decide) (by rw [h]; decide) (by rw [h]; rfl) (by decide) (case_clear C9 hi I9 hcc hss hP hD hS hl kk9)
  · exact lv_tableIn (off := 652) (tgt := 696) hx hb dL_law_44 (by rw [h]; decide) (by rw [h]; decide) (by rw [h]; rfl) (by decide) (case_join C9 hi I9 hcc hss hP hD hS hl kk9)
  · exact lv_tableIn (off := 732) (tgt := 776) hx hb dL_law_44 (by rw [h]; decide) (by rw [h]; decide) (by rw [h]; rfl) (by decide) (case_size C9 hi I9 hcc hss hP hD hS hl kk9)
  · exact lv_tableIn (off := 788) (tgt := 832) hx hb dL_law_44 (by rw [h]; decide) (by rw [h]; decide) (by rw [h]; rfl) (by decide) (case_number C9 hi I9 hcc hss hP hD hS hl kk9)
  · exact lv_tableIn (off := 856) (tgt := 900) hx hb dL_law_44 (by rw [h]; decide) (by rw [h]; decide) (by rw [h]; rfl) (by decide) (case_total C9 hi I9 hcc hss hP hD hS hl kk9)
  · exact lv_tableIn (off := 912) (tgt := 956) hx hb dL_law_44 (by rw [h]; decide) (by rw [h]; decide) (by rw [h]; rfl) (by decide) (case_isSum C9 hi I9 hcc hss hP hD hS hl kk9)
  · exact lv_tableIn (off := 1015) (tgt := 1059) hx hb dL_law_44 (by rw [h]; decide) (by rw [h]; decide) (by rw [h]; rfl) (by decide) (case_sums C9 hi I9 hcc hss hP hD hS hl kk9)
  · exact lv_tableIn (off := 1099) (tgt := 1143) hx hb dL_law_44 (by rw [h]; decide) (by rw [h]; decide) (by rw [h]; rfl) (by decide) (case_next C9 hi I9 hcc hss hP hD hS hl kk9)
  · exact lv_tableIn (off := 1195) (tgt := 1239) hx hb dL_law_44 (by rw [h]; decide) (by rw [h]; decide) (by rw [h]; rfl) (by decide) (case_previous C9 hi I9 hcc hss hP hD hS hl kk9)
  · exact lv_tableIn (off := 1291) (tgt := 1335) hx hb dL_law_44 (by rw [h]; decide) (by rw [h]; decide) (by rw [h]; rfl) (by decide) (case_gap C9 hi I9 hcc hss hP hD hS hl kk9)
  · exact lv_tableIn (off := 1387) (tgt := 1431) hx hb dL_law_44 (by rw [h]; decide) (by rw [h]; decide) (by rw [h]; rfl) (by decide) (case_lastGap C9 hi I9 hcc hss hP hD hS hl kk9)
  · exact lv_tableIn (off := 1471) (tgt := 1515) hx hb dL_law_44 (by rw [h]; decide) (by rw [h]; decide) (by rw [h]; rfl) (by decide) (case_ways C9 hi I9 hcc hss hP hD hS hl kk9)
  · exact lv_tableIn (off := 1566) (tgt := 1610) hx hb dL_law_44 (by rw [h]; decide) (by rw [h]; decide) (by rw [h]; rfl) (by decide) (case_most C9 hi I9 hcc hss hP hD hS hl kk9)
  · exact lv_tableIn (off := 1622) (tgt := 1666) hx hb dL_law_44 (by rw [h]; decide) (by rw [h]; decide) (by rw [h]; rfl) (by decide) (case_fewest C9 hi I9 hcc hss hP hD hS hl kk9)
  · exact lv_tableIn (off := 1718) (tgt := 1762) hx hb dL_law_44 (by rw [h]; decide) (by rw [h]; decide) (by rw [h]; rfl) (by decide) (case_withMany C9 hi I9 hcc hss hP hD hS hl kk9)
  · exact lv_tableIn (off := 1786) (tgt := 1830) hx hb dL_law_44 (by rw [h]; decide) (by rw [h]; decide) (by rw [h]; rfl) (by decide) (case_fair C9 hi I9 hcc hss hP hD hS hl kk9)
  · exact lv_tableIn (off := 1842) (tgt := 1886) hx hb dL_law_44 (by rw [h]; decide) (by rw [h]; decide) (by rw [h]; rfl) (by decide) (case_share C9 hi I9 hcc hss hP hD hS hl kk9)
  · exact lv_tableIn (off := 1920) (tgt := 1964) hx hb dL_law_44 (by rw [h]; decide) (by rw [h]; decide) (by rw [h]; rfl) (by decide) (case_meanWays C9 hi I9 hcc hss hP hD hS hl kk9)
  · exact lv_tableIn (off := 1997) (tgt := 2041) hx hb dL_law_44 (by rw [h]; decide) (by rw [h]; decide) (by rw [h]; rfl) (by decide) (case_choice C9 hi I9 hcc hss hP hD hS hl kk9)
  · exact lv_tableIn (off := 2077) (tgt := 2121) hx hb dL_law_44 (by rw [h]; decide) (by rw [h]; decide) (by rw [h]; rfl) (by decide) (case_rank C9 hi I9 hcc hss hP hD hS hl kk9)
  · exact lv_tableIn (off := 2145) (tgt := 2189) hx hb dL_law_44 (by rw [h]; decide) (by rw [h]; decide) (by rw [h]; rfl) (by decide) (case_sumOf C9 hi I9 hcc hss hP hD hS hl kk9)
  · exact lv_tableIn (off := 2213) (tgt := 2257) hx hb dL_law_44 (by rw [h]; decide) (by rw [h]; decide) (by rw [h]; rfl) (by decide) (case_partSums C9 hi I9 hcc hss hP hD hS hl kk9)
  · exact lv_tableIn (off := 2281) (tgt := 2325) hx hb dL_law_44 (by rw [h]; decide) (by rw [h]; decide) (by rw [h]; rfl) (by decide) (case_compare C9 hi I9 hcc hss hP hD hS hl kk9)
  · exact lv_tableIn (off := 2363) (tgt := 2407) hx hb dL_law_44 (by rw [h]; decide) (by rw [h]; decide) (by rw [h]; rfl) (by decide) (case_isLike C9 hi I9 hcc hss hP hD hS hl kk9)
  · exact lv_tableIn (off := 2438) (tgt := 2482) hx hb dL_law_44 (by rw [h]; decide) (by rw [h]; decide) (by rw [h]; rfl) (by decide) (case_together C9 hi I9 hcc hss hP hD hS hl kk9)
  · exact lv_tableIn (off := 2518) (tgt := 2562) hx hb dL_law_44 (by rw [h]; decide) (by rw [h]; decide) (by rw [h]; rfl) (by decide) (case_isParted C9 hi I9 hcc hss hP hD hS hl kk9)
  · exact lv_tableIn (off := 2593) (tgt := 2637) hx hb dL_law_44 (by rw [h]; decide) (by rw [h]; decide) (by rw [h]; rfl) (by decide) (case_isAll C9 hi I9 hcc hss hP hD hS hl kk9)
  · exact lv_tableIn (off := 2668) (tgt := 2712) hx hb dL_law_44 (by rw [h]; decide) (by rw [h]; decide) (by rw [h]; rfl) (by decide) (case_isLeft C9 hi I9 hcc hss hP hD hS hl kk9)
  · exact lv_tableIn (off := 2743) (tgt := 2787) hx hb dL_law_44 (by rw [h]; decide) (by rw [h]; decide) (by rw [h]; rfl) (by decide) (case_isOftenAlike C9 hi I9 hcc hss hP hD hS hl kk9)
  · exact lv_tableIn (off := 2806) (tgt := 2850) hx hb dL_law_44 (by rw [h]; decide) (by rw [h]; decide) (by rw [h]; rfl) (by decide) (case_isSound C9 hi I9 hcc hss hP hD hS hl kk9)
  · exact lv_tableIn (off := 2819) (tgt := 2863) hx hb dL_law_44 (by rw [h]; decide) (by rw [h]; decide) (by rw [h]; rfl) (by decide) (case_checksum C9 hi I9 hcc hss hP hD hS hl kk9)
theorem law_loop {p : Program} {l : Launch} {e : Env} {R : Room} {s : State} {m : MethodId} {args : Array Value} {below : List Frame} {meth : Method} {c : Code} {Q : State → Prop} {A : Nat → Prop} {D : va_G} {cI cL cZ cA cB cD : ClassId} {b L : Nat} {xs : Nat → Int32} {ad ad2 : Nat → Nat} {oo od : Nat}
    (C9 : lawC p l s m args c A D cI cL cZ cA cB cD b L xs R) (kx : ∀ (H : Heap) (locs : List Loc) (ls : Array Slot) (cells slots : Nat), cells ≤ R.cells → slots ≤ R.slots → va_S A s.heap H locs → W p l e R s m args below meth c H locs cells slots Q (F0 m 2883 ls [])) :
    ∀ (k i : Nat) (S : CS) (f : Nat → Int64) (fd : Nat → UInt64) (T : MS) (H : Heap) (locs : List Loc) (ls : Array Slot) (cells slots : Nat), L < i + 4 * k → i ≤ L → cells + 2 * k ≤ R.cells → slots + 26 * k ≤ R.slots → lawI S T →
    va_P D vwCl (lawW ad ad2 cI cL cZ cA cB cD oo od S f fd T) H → va_D A (lawW ad ad2 cI cL cZ cA cB cD oo od S f fd T) → va_S A s.heap H locs → lv_has ls 9 [(5, .int (nI i)), (4, .ref od), (3, .ref oo), (2, .ref (ad2 0)), (1, .ref (ad 0)), (0, .ref b)] → W p l e R s m args below meth c H locs cells slots Q (F0 m 28 ls []) := by
  intro k
  have hL := C9.2.2.2.2.2.2.2.2.2.2.2.2.2.2.2
  induction k with
  | zero => intro i S f fd T H locs ls cells slots h1 h2; omega
  | succ k ih =>
    intro i S f fd T H locs ls cells slots h1 h2 h3 h4 I9 hP hD hS hl
    refine law_head C9 (by omega) hS hl (kx H locs ls cells slots (by omega) (by omega) hS) (fun hi => ?_)
    refine law_body C9 hi I9 (by omega) (by omega) hP hD hS hl (fun S f fd T H locs ls I9 hP hD hS hl => ?_)
    have hx := C9.1
    have hb := C9.2.1
    refine lv_iinc (v := nI (i + 4)) (lv' := [(5, .int (nI (i + 4))), (4, .ref od), (3, .ref oo), (2, .ref (ad2 0)), (1, .ref (ad 0)), (0, .ref b)]) hx hb dL_law_2877 hl (k := 0) rfl (nI_ad i 4) (by decide) rfl (fun ls hl => ?_)
    refine lv_goto (tgt := 28) hx hb dL_law_2880 (by decide) ?_
    exact ih (i + 4) S f fd T H locs ls (cells + 2) (slots + 26) (by omega) (by omega) (by omega) (by omega) I9 hP hD hS hl
