set_option maxHeartbeats 4000000 in
set_option maxRecDepth 100000 in
theorem case_takeOut {p : Program} {l : Launch} {e : Env} {R : Room} {s : State} {m : MethodId} {args : Array Value} {below : List Frame} {meth : Method} {c : Code} {Q : State → Prop} {A : Nat → Prop} {D : va_G} {cI cL cZ cA cB cD : ClassId} {b L : Nat} {xs : Nat → Int32} {ad ad2 : Nat → Nat} {oo od : Nat}
    (C9 : lawC p l s m args c A D cI cL cZ cA cB cD b L xs R) {i : Nat} (hi : i + 4 ≤ L) {S : CS} {f : Nat → Int64} {fd : Nat → UInt64} {T : MS} (I9 : lawI S T) {H : Heap} {locs : List Loc} {ls : Array Slot} {cells slots : Nat} (hcc : cells + 2 ≤ R.cells) (hss : slots + 26 ≤ R.slots)
    (hP : va_P D vwCl (lawW ad ad2 cI cL cZ cA cB cD oo od S f fd T) H) (hD : va_D A (lawW ad ad2 cI cL cZ cA cB cD oo od S f fd T)) (hS : va_S A s.heap H locs) (hl : lv_has ls 9 [(5, .int (nI i)), (4, .ref od), (3, .ref oo), (2, .ref (ad2 0)), (1, .ref (ad 0)), (0, .ref b)])
    (kk9 : lawK p l e R s m args below meth c Q A D cI cL cZ cA cB cD b ad ad2 oo od i cells slots) : W p l e R s m args below meth c H locs cells slots Q (F0 m 356 ls []) := by
  obtain ⟨hx, hb, hml, hown, hts, hN, hE, hfl, hX, hbl, hbA, hA, hK, hR1, hR2, hL⟩ := C9
  obtain ⟨ok0, ok1, hL0, hL1⟩ := I9
  obtain ⟨kk, v, L0, L1, hr, hk0, hk1, hk4⟩ := su_h1_tot ((0 : Int32)) (RT := fun g n => R_takeOut g n (xs (i + 2))) (fun g n ok => T_takeOut g n (xs (i + 2)) ok) ok0 ok1 (xs (i + 1))
  refine lv_aload_n hx hb dL_law_356 rfl (lv_at hl 4 rfl) ?_
  refine lv_aload_n hx hb dL_law_357 rfl (lv_at hl 5 rfl) ?_
  refine lv_iload hx hb dL_law_358 (lv_at hl 0 rfl) ?_
  refine lv_iconst (v := nI 1) hx hb dL_law_360 (by decide) ?_
  refine lv_iadd hx hb dL_law_361 ?_
  refine su_eqi (nI (i + 1)) (nI_ad _ _) ?_
  refine va_sld hx hb hX hbl hbA hS (vp_in_nI (by omega) (by omega)) dL_law_362 ?_
  refine su_eqi (xs (i + 1)) (by rw [nI_clamp (by omega)]) ?_
  refine lv_aload_n hx hb dL_law_363 rfl (lv_at hl 5 rfl) ?_
  refine lv_iload hx hb dL_law_364 (lv_at hl 0 rfl) ?_
  refine lv_iconst (v := nI 2) hx hb dL_law_366 (by decide) ?_
  refine lv_iadd hx hb dL_law_367 ?_
  refine su_eqi (nI (i + 2)) (nI_ad _ _) ?_
  refine va_sld hx hb hX hbl hbA hS (vp_in_nI (by omega) (by omega)) dL_law_368 ?_
  refine su_eqi (xs (i + 2)) (by rw [nI_clamp (by omega)]) ?_
  refine lv_aload_n hx hb dL_law_369 rfl (lv_at hl 2 rfl) ?_
  refine law_wL (vx_runSW (As := [.ref (ad 0), .int (xs (i + 1)), .int (xs (i + 2)), .ref oo]) (rest := []) ⟨hx, hb, hml, hown, hts⟩ (L_takeOut l hfl D cI cL cZ H.size ad S oo f ok0 ok1 (xs (i + 1)) (xs (i + 2)) kk v L0 L1 hr) (vx_cwSW 4 hts (lw_gH q_584 q_585 q_30 q_586) rfl rfl rfl (by decide +kernel) ⟨Nat.le_trans (Nat.le_of_ble_eq_true rfl) hR1, Nat.le_trans (Nat.le_of_ble_eq_true rfl) hR2⟩) (su_psx hE hS hA hN hK hP hD [0, 2, 3, 4, 5, 6, 7, 8, 9, 10, 11, 12, 13, 14, 15, 16, 17, 18, 19, 20, 21, 22, 23, 24, 25, 26, 27, 28, 29, 30, 31, 32, 33, 34, 35, 36, 37, 38, 39, 40, 41, 42, 43, 44, 45, 46, 47, 48, 49, 50, 51, 52, 53, 54, 55, 56, 57, 58, 59, 60, 61, 62, 63, 64, 65, 66, 67, 68, 69, 70] [0, 1, 2] rfl rfl rfl) rfl rfl hl.1 rfl (lv_room (Nat.le_of_ble_eq_true rfl)) dL_law_370 ⟨Nat.le_trans (Nat.add_le_add_left (Nat.le_of_ble_eq_true rfl) _) hcc, Nat.le_trans (Nat.add_le_add_left (Nat.le_of_ble_eq_true rfl) _) hss⟩) hP hD hS hA (fun r u H locs hw hP hD hS => ?_)
  obtain ⟨S1, f1⟩ := u
  obtain rfl := hw.1
  refine lv_istore (lv' := [(6, .int (nI kk)), (5, .int (nI i)), (4, .ref od), (3, .ref oo), (2, .ref (ad2 0)), (1, .ref (ad 0)), (0, .ref b)]) hx hb dL_law_373 hl (by decide) rfl (fun ls hl => ?_)
  refine lv_aload_n hx hb dL_law_375 rfl (lv_at hl 4 rfl) ?_
  refine lv_aload_n hx hb dL_law_376 rfl (lv_at hl 6 rfl) ?_
  refine lv_iload hx hb dL_law_377 (lv_at hl 1 rfl) ?_
  refine lv_iconst (v := nI 1) hx hb dL_law_379 (by decide) ?_
  refine lv_iadd hx hb dL_law_380 ?_
  refine su_eqi (nI (i + 1)) (nI_ad _ _) ?_
  refine va_sld hx hb hX hbl hbA hS (vp_in_nI (by omega) (by omega)) dL_law_381 ?_
  refine su_eqi (xs (i + 1)) (by rw [nI_clamp (by omega)]) ?_
  refine lv_aload_n hx hb dL_law_382 rfl (lv_at hl 6 rfl) ?_
  refine lv_iload hx hb dL_law_383 (lv_at hl 1 rfl) ?_
  refine lv_iconst (v := nI 2) hx hb dL_law_385 (by decide) ?_
  refine lv_iadd hx hb dL_law_386 ?_
  refine su_eqi (nI (i + 2)) (nI_ad _ _) ?_
  refine va_sld hx hb hX hbl hbA hS (vp_in_nI (by omega) (by omega)) dL_law_387 ?_
  refine su_eqi (xs (i + 2)) (by rw [nI_clamp (by omega)]) ?_
  refine law_mi (va_runV (As := [.int (xs (i + 1)), .int (xs (i + 2))]) (rest := []) ⟨hx, hb, hml, hown, hts⟩ (M_takeOut l D cI cL cZ cA cB H.size ad2 T (S.1 0) (S.1 1) (S.2.1 0) (S.2.1 1) hL0 hL1 ok0 ok1 (xs (i + 1)) (xs (i + 2)) kk v L0 L1 hr) (cwV 2 hts (lw_gV q_1063 q_1064 q_1065 q_42 q_1066) rfl rfl rfl (by decide +kernel) ⟨Nat.le_trans (Nat.le_of_ble_eq_true rfl) hR1, Nat.le_trans (Nat.le_of_ble_eq_true rfl) hR2⟩) (su_pv hN hK hP hD [71, 72, 73, 74, 75, 76, 77, 78, 79, 80] [0, 1, 2, 3, 4] rfl rfl rfl (ci := 10) (q0 := 0) rfl rfl rfl) rfl rfl hl.1 rfl (lv_room (Nat.le_of_ble_eq_true rfl)) dL_law_388 ⟨Nat.le_trans (by omega) hcc, Nat.le_trans (by omega) hss⟩) hP hD hS hA (fun r2 T1 H locs hw2 hP hD hS => ?_)
  refine lv_istore (lv' := [(7, .int r2), (6, .int (nI kk)), (5, .int (nI i)), (4, .ref od), (3, .ref oo), (2, .ref (ad2 0)), (1, .ref (ad 0)), (0, .ref b)]) hx hb dL_law_391 hl (by decide) rfl (fun ls hl => ?_)
  refine lv_aload_n hx hb dL_law_393 rfl (lv_at hl 5 rfl) ?_
  refine law_mi (va_runV (As := []) (rest := []) ⟨hx, hb, hml, hown, hts⟩ (M_thrown l D cI cL cZ cA cB H.size ad2 T1) (cwV 0 hts (lw_gV q_1018 q_1019 q_1020 q_42 q_1021) rfl rfl rfl (by decide +kernel) ⟨Nat.le_trans (Nat.le_of_ble_eq_true rfl) hR1, Nat.le_trans (Nat.le_of_ble_eq_true rfl) hR2⟩) (su_pv hN hK hP hD [71, 72, 73, 74, 75, 76, 77, 78, 79, 80] [0, 1, 2, 3, 4] rfl rfl rfl (ci := 10) (q0 := 0) rfl rfl rfl) rfl rfl hl.1 rfl (lv_room (Nat.le_of_ble_eq_true rfl)) dL_law_394 ⟨Nat.le_trans (by omega) hcc, Nat.le_trans (by omega) hss⟩) hP hD hS hA (fun r3 u H locs ht hP hD hS => ?_)
  obtain ⟨ht, hu⟩ := ht
  have hu := hu.symm
  subst hu
  obtain rfl : r3 = nI kk := ht.trans hw2.1
  have ht : nI kk = nI kk ∧ True := ⟨rfl, trivial⟩
  refine lv_iload hx hb dL_law_397 (lv_at hl 1 rfl) ?_
  refine lv_icmp_eq (tgt := 404) hx hb dL_law_399 (by decide) (fun _ => ?_) (fun h9 => absurd (by first | exact ht.1 | rfl) h9)
  refine lv_iload hx hb dL_law_404 (lv_at hl 1 rfl) ?_
  refine lv_if_ne (tgt := 421) hx hb dL_law_406 (by decide) (fun h9 => ?_) (fun h9 => ?_)
  · refine lv_goto (tgt := 2877) hx hb dL_law_421 (by decide) ?_
    refine W.widen (k := cells + 2) (n := slots + 26) (by omega) (by omega) ?_
    exact kk9 S1 f1 fd T1 H locs ls (lawI_of hw.2.2.1 hw.2.2.2 hw2.2.2.1 hw2.2.2.2 hk0 hk1) hP hD hS (lv_sub hl [2, 3, 4, 5, 6, 7] rfl)
  · have hk := kk_0 hk4 h9
    have ho : f1 0 = v.toInt64 := hw.2.1 hk
    have hv2 := hw2.2.1 hk
    refine lv_aload_n hx hb dL_law_409 rfl (lv_at hl 4 rfl) ?_
    refine lv_iconst (v := nI 0) hx hb dL_law_410 (by decide) ?_
    refine su_lald hx hb hK hP 0 1 rfl rfl (i := 0) (by decide) (by decide) (f1 0) rfl dL_law_411 ?_
    refine lv_iload hx hb dL_law_412 (lv_at hl 0 rfl) ?_
    refine lv_i2l (v := r2.toInt64) hx hb dL_law_414 rfl ?_
    refine W.lcmp hx hb dL_law_415 ?_
    refine su_eqi 0 (by first | (rw [ho]; exact lg_self _) | (rw [ho, hv2]; exact lg_self _)) ?_
    refine lv_if_eq (tgt := 421) hx hb dL_law_416 (by decide) (fun _ => ?_) (fun h9 => absurd rfl h9)
    refine lv_goto (tgt := 2877) hx hb dL_law_421 (by decide) ?_
    refine W.widen (k := cells + 2) (n := slots + 26) (by omega) (by omega) ?_
    exact kk9 S1 f1 fd T1 H locs ls (lawI_of hw.2.2.1 hw.2.2.2 hw2.2.2.1 hw2.2.2.2 hk0 hk1) hP hD hS (lv_sub hl [2, 3, 4, 5, 6, 7] rfl)
set_option maxHeartbeats 4000000 in
set_option maxRecDepth 100000 in
theorem case_join {p : Program} {l : Launch} {e : Env} {R : Room} {s : State} {m : MethodId} {args : Array Value} {below : List Frame} {meth : Method} {c : Code} {Q : State → Prop} {A : Nat → Prop} {D : va_G} {cI cL cZ cA cB cD : ClassId} {b L : Nat} {xs : Nat → Int32} {ad ad2 : Nat → Nat} {oo od : Nat}
    (C9 : lawC p l s m args c A D cI cL cZ cA cB cD b L xs R) {i : Nat} (hi : i + 4 ≤ L) {S : CS} {f : Nat → Int64} {fd : Nat → UInt64} {T : MS} (I9 : lawI S T) {H : Heap} {locs : List Loc} {ls : Array Slot} {cells slots : Nat} (hcc : cells + 2 ≤ R.cells) (hss : slots + 26 ≤ R.slots)
    (hP : va_P D vwCl (lawW ad ad2 cI cL cZ cA cB cD oo od S f fd T) H) (hD : va_D A (lawW ad ad2 cI cL cZ cA cB cD oo od S f fd T)) (hS : va_S A s.heap H locs) (hl : lv_has ls 9 [(5, .int (nI i)), (4, .ref od), (3, .ref oo), (2, .ref (ad2 0)), (1, .ref (ad 0)), (0, .ref b)])
    (kk9 : lawK p l e R s m args below meth c Q A D cI cL cZ cA cB cD b ad ad2 oo od i cells slots) : W p l e R s m args below meth c H locs cells slots Q (F0 m 696 ls []) := by
  obtain ⟨hx, hb, hml, hown, hts, hN, hE, hfl, hX, hbl, hbA, hA, hK, hR1, hR2, hL⟩ := C9
  obtain ⟨ok0, ok1, hL0, hL1⟩ := I9
  obtain ⟨kk, v, L0, L1, hr, hk0, hk1, hk4⟩ := T_join (S.1 0) (S.2.1 0) (S.1 1) (S.2.1 1) (xs (i + 1)) (xs (i + 2)) (xs (i + 3)) ok0 ok1
  refine lv_aload_n hx hb dL_law_696 rfl (lv_at hl 4 rfl) ?_
  refine lv_aload_n hx hb dL_law_697 rfl (lv_at hl 5 rfl) ?_
  refine lv_iload hx hb dL_law_698 (lv_at hl 0 rfl) ?_
  refine lv_iconst (v := nI 1) hx hb dL_law_700 (by decide) ?_
  refine lv_iadd hx hb dL_law_701 ?_
  refine su_eqi (nI (i + 1)) (nI_ad _ _) ?_
  refine va_sld hx hb hX hbl hbA hS (vp_in_nI (by omega) (by omega)) dL_law_702 ?_
  refine su_eqi (xs (i + 1)) (by rw [nI_clamp (by omega)]) ?_
  refine lv_aload_n hx hb dL_law_703 rfl (lv_at hl 5 rfl) ?_
  refine lv_iload hx hb dL_law_704 (lv_at hl 0 rfl) ?_
  refine lv_iconst (v := nI 2) hx hb dL_law_706 (by decide) ?_
  refine lv_iadd hx hb dL_law_707 ?_
  refine su_eqi (nI (i + 2)) (nI_ad _ _) ?_
  refine va_sld hx hb hX hbl hbA hS (vp_in_nI (by omega) (by omega)) dL_law_708 ?_
  refine su_eqi (xs (i + 2)) (by rw [nI_clamp (by omega)]) ?_
  refine lv_aload_n hx hb dL_law_709 rfl (lv_at hl 5 rfl) ?_
  refine lv_iload hx hb dL_law_710 (lv_at hl 0 rfl) ?_
  refine lv_iconst (v := nI 3) hx hb dL_law_712 (by decide) ?_
  refine lv_iadd hx hb dL_law_713 ?_
  refine su_eqi (nI (i + 3)) (nI_ad _ _) ?_
  refine va_sld hx hb hX hbl hbA hS (vp_in_nI (by omega) (by omega)) dL_law_714 ?_
  refine su_eqi (xs (i + 3)) (by rw [nI_clamp (by omega)]) ?_
  refine lv_aload_n hx hb dL_law_715 rfl (lv_at hl 2 rfl) ?_
  refine law_wL (vx_runSW (As := [.ref (ad 0), .int (xs (i + 1)), .int (xs (i + 2)), .int (xs (i + 3)), .ref oo]) (rest := []) ⟨hx, hb, hml, hown, hts⟩ (L_join l hfl D cI cL cZ H.size ad S oo f ok0 ok1 (xs (i + 1)) (xs (i + 2)) (xs (i + 3)) kk v L0 L1 hr) (vx_cwSW 5 hts (lw_gH q_646 q_647 q_30 q_648) rfl rfl rfl (by decide +kernel) ⟨Nat.le_trans (Nat.le_of_ble_eq_true rfl) hR1, Nat.le_trans (Nat.le_of_ble_eq_true rfl) hR2⟩) (su_psx hE hS hA hN hK hP hD [0, 2, 3, 4, 5, 6, 7, 8, 9, 10, 11, 12, 13, 14, 15, 16, 17, 18, 19, 20, 21, 22, 23, 24, 25, 26, 27, 28, 29, 30, 31, 32, 33, 34, 35, 36, 37, 38, 39, 40, 41, 42, 43, 44, 45, 46, 47, 48, 49, 50, 51, 52, 53, 54, 55, 56, 57, 58, 59, 60, 61, 62, 63, 64, 65, 66, 67, 68, 69, 70] [0, 1, 2] rfl rfl rfl) rfl rfl hl.1 rfl (lv_room (Nat.le_of_ble_eq_true rfl)) dL_law_716 ⟨Nat.le_trans (Nat.add_le_add_left (Nat.le_of_ble_eq_true rfl) _) hcc, Nat.le_trans (Nat.add_le_add_left (Nat.le_of_ble_eq_true rfl) _) hss⟩) hP hD hS hA (fun r u H locs hw hP hD hS => ?_)
  obtain ⟨S1, f1⟩ := u
  obtain rfl := hw.1
  refine lv_istore (lv' := [(6, .int (nI kk)), (5, .int (nI i)), (4, .ref od), (3, .ref oo), (2, .ref (ad2 0)), (1, .ref (ad 0)), (0, .ref b)]) hx hb dL_law_719 hl (by decide) rfl (fun ls hl => ?_)
  refine lv_aload_n hx hb dL_law_721 rfl (lv_at hl 4 rfl) ?_
  refine lv_aload_n hx hb dL_law_722 rfl (lv_at hl 6 rfl) ?_
  refine lv_iload hx hb dL_law_723 (lv_at hl 1 rfl) ?_
  refine lv_iconst (v := nI 1) hx hb dL_law_725 (by decide) ?_
  refine lv_iadd hx hb dL_law_726 ?_
  refine su_eqi (nI (i + 1)) (nI_ad _ _) ?_
  refine va_sld hx hb hX hbl hbA hS (vp_in_nI (by omega) (by omega)) dL_law_727 ?_
  refine su_eqi (xs (i + 1)) (by rw [nI_clamp (by omega)]) ?_
  refine lv_aload_n hx hb dL_law_728 rfl (lv_at hl 6 rfl) ?_
  refine lv_iload hx hb dL_law_729 (lv_at hl 1 rfl) ?_
  refine lv_iconst (v := nI 2) hx hb dL_law_731 (by decide) ?_
  refine lv_iadd hx hb dL_law_732 ?_
  refine su_eqi (nI (i + 2)) (nI_ad _ _) ?_
  refine va_sld hx hb hX hbl hbA hS (vp_in_nI (by omega) (by omega)) dL_law_733 ?_
  refine su_eqi (xs (i + 2)) (by rw [nI_clamp (by omega)]) ?_
  refine lv_aload_n hx hb dL_law_734 rfl (lv_at hl 6 rfl) ?_
  refine lv_iload hx hb dL_law_735 (lv_at hl 1 rfl) ?_
  refine lv_iconst (v := nI 3) hx hb dL_law_737 (by decide) ?_
  refine lv_iadd hx hb dL_law_738 ?_
  refine su_eqi (nI (i + 3)) (nI_ad _ _) ?_
  refine va_sld hx hb hX hbl hbA hS (vp_in_nI (by omega) (by omega)) dL_law_739 ?_
  refine su_eqi (xs (i + 3)) (by rw [nI_clamp (by omega)]) ?_
  refine law_mi (va_runV (As := [.int (xs (i + 1)), .int (xs (i + 2)), .int (xs (i + 3))]) (rest := []) ⟨hx, hb, hml, hown, hts⟩ (M_join l D cI cL cZ cA cB H.size ad2 T (S.1 0) (S.1 1) (S.2.1 0) (S.2.1 1) hL0 hL1 ok0 ok1 (xs (i + 1)) (xs (i + 2)) (xs (i + 3)) kk v L0 L1 hr) (cwV 3 hts (lw_gV q_1087 q_1088 q_1089 q_42 q_1090) rfl rfl rfl (by decide +kernel) ⟨Nat.le_trans (Nat.le_of_ble_eq_true rfl) hR1, Nat.le_trans (Nat.le_of_ble_eq_true rfl) hR2⟩) (su_pv hN hK hP hD [71, 72, 73, 74, 75, 76, 77, 78, 79, 80] [0, 1, 2, 3, 4] rfl rfl rfl (ci := 10) (q0 := 0) rfl rfl rfl) rfl rfl hl.1 rfl (lv_room (Nat.le_of_ble_eq_true rfl)) dL_law_740 ⟨Nat.le_trans (by omega) hcc, Nat.le_trans (by omega) hss⟩) hP hD hS hA (fun r2 T1 H locs hw2 hP hD hS => ?_)
  refine lv_istore (lv' := [(7, .int r2), (6, .int (nI kk)), (5, .int (nI i)), (4, .ref od), (3, .ref oo), (2, .ref (ad2 0)), (1, .ref (ad 0)), (0, .ref b)]) hx hb dL_law_743 hl (by decide) rfl (fun ls hl => ?_)
  refine lv_aload_n hx hb dL_law_745 rfl (lv_at hl 5 rfl) ?_
  refine law_mi (va_runV (As := []) (rest := []) ⟨hx, hb, hml, hown, hts⟩ (M_thrown l D cI cL cZ cA cB H.size ad2 T1) (cwV 0 hts (lw_gV q_1018 q_1019 q_1020 q_42 q_1021) rfl rfl rfl (by decide +kernel) ⟨Nat.le_trans (Nat.le_of_ble_eq_true rfl) hR1, Nat.le_trans (Nat.le_of_ble_eq_true rfl) hR2⟩) (su_pv hN hK hP hD [71, 72, 73, 74, 75, 76, 77, 78, 79, 80] [0, 1, 2, 3, 4] rfl rfl rfl (ci := 10) (q0 := 0) rfl rfl rfl) rfl rfl hl.1 rfl (lv_room (Nat.le_of_ble_eq_true rfl)) dL_law_746 ⟨Nat.le_trans (by omega) hcc, Nat.le_trans (by omega) hss⟩) hP hD hS hA (fun r3 u H locs ht hP hD hS => ?_)
  obtain ⟨ht, hu⟩ := ht
  have hu := hu.symm
  subst hu
  obtain rfl : r3 = nI kk := ht.trans hw2.1
  have ht : nI kk = nI kk ∧ True := ⟨rfl, trivial⟩
  refine lv_iload hx hb dL_law_749 (lv_at hl 1 rfl) ?_
  refine lv_icmp_eq (tgt := 756) hx hb dL_law_751 (by decide) (fun _ => ?_) (fun h9 => absurd (by first | exact ht.1 | rfl) h9)
  refine lv_iload hx hb dL_law_756 (lv_at hl 1 rfl) ?_
  refine lv_if_ne (tgt := 773) hx hb dL_law_758 (by decide) (fun h9 => ?_) (fun h9 => ?_)
  · refine lv_goto (tgt := 2877) hx hb dL_law_773 (by decide) ?_
    refine W.widen (k := cells + 2) (n := slots + 26) (by omega) (by omega) ?_
    exact kk9 S1 f1 fd T1 H locs ls (lawI_of hw.2.2.1 hw.2.2.2 hw2.2.2.1 hw2.2.2.2 hk0 hk1) hP hD hS (lv_sub hl [2, 3, 4, 5, 6, 7] rfl)
  · have hk := kk_0 hk4 h9
    have ho : f1 0 = v.toInt64 := hw.2.1 hk
    have hv2 := hw2.2.1 hk
    refine lv_aload_n hx hb dL_law_761 rfl (lv_at hl 4 rfl) ?_
    refine lv_iconst (v := nI 0) hx hb dL_law_762 (by decide) ?_
    refine su_lald hx hb hK hP 0 1 rfl rfl (i := 0) (by decide) (by decide) (f1 0) rfl dL_law_763 ?_
    refine lv_iload hx hb dL_law_764 (lv_at hl 0 rfl) ?_
    refine lv_i2l (v := r2.toInt64) hx hb dL_law_766 rfl ?_
    refine W.lcmp hx hb dL_law_767 ?_
    refine su_eqi 0 (by first | (rw [ho]; exact lg_self _) | (rw [ho, hv2]; exact lg_self _)) ?_
    refine lv_if_eq (tgt := 773) hx hb dL_law_768 (by decide) (fun _ => ?_) (fun h9 => absurd rfl h9)
    refine lv_goto (tgt := 2877) hx hb dL_law_773 (by decide) ?_
    refine W.widen (k := cells + 2) (n := slots + 26) (by omega) (by omega) ?_
    exact kk9 S1 f1 fd T1 H locs ls (lawI_of hw.2.2.1 hw.2.2.2 hw2.2.2.1 hw2.2.2.2 hk0 hk1) hP hD hS (lv_sub hl [2, 3, 4, 5, 6, 7] rfl)
set_option maxHeartbeats 4000000 in
set_option maxRecDepth 100000 in
theorem case_sums {p : Program} {l : Launch} {e : Env} {R : Room} {s : State} {m : MethodId} {args : Array Value} {below : List Frame} {meth : Method} {c : Code} {Q : State → Prop} {A : Nat → Prop} {D : va_G} {cI cL cZ cA cB cD : ClassId} {b L : Nat} {xs : Nat → Int32} {ad ad2 : Nat → Nat} {oo od : Nat}
    (C9 : lawC p l s m args c A D cI cL cZ cA cB cD b L xs R) {i : Nat} (hi : i + 4 ≤ L) {S : CS} {f : Nat → Int64} {fd : Nat → UInt64} {T : MS} (I9 : lawI S T) {H : Heap} {locs : List Loc} {ls : Array Slot} {cells slots : Nat} (hcc : cells + 2 ≤ R.cells) (hss : slots + 26 ≤ R.slots)
    (hP : va_P D vwCl (lawW ad ad2 cI cL cZ cA cB cD oo od S f fd T) H) (hD : va_D A (lawW ad ad2 cI cL cZ cA cB cD oo od S f fd T)) (hS : va_S A s.heap H locs) (hl : lv_has ls 9 [(5, .int (nI i)), (4, .ref od), (3, .ref oo), (2, .ref (ad2 0)), (1, .ref (ad 0)), (0, .ref b)])
    (kk9 : lawK p l e R s m args below meth c Q A D cI cL cZ cA cB cD b ad ad2 oo od i cells slots) : W p l e R s m args below meth c H locs cells slots Q (F0 m 1059 ls []) := by
  obtain ⟨hx, hb, hml, hown, hts, hN, hE, hfl, hX, hbl, hbA, hA, hK, hR1, hR2, hL⟩ := C9
  obtain ⟨ok0, ok1, hL0, hL1⟩ := I9
  by_cases hz : xs (i + 2) = 0
  · obtain ⟨kk, v, L0, L1, hr, hk0, hk1, hk4⟩ := su_h1_tot ((0 : Int32)) (RT := fun g n => R_sums g n false) (fun g n ok => T_sums g n false ok) ok0 ok1 (xs (i + 1))
    refine lv_aload_n hx hb dL_law_1059 rfl (lv_at hl 4 rfl) ?_
    refine lv_aload_n hx hb dL_law_1060 rfl (lv_at hl 5 rfl) ?_
    refine lv_iload hx hb dL_law_1061 (lv_at hl 0 rfl) ?_
    refine lv_iconst (v := nI 1) hx hb dL_law_1063 (by decide) ?_
    refine lv_iadd hx hb dL_law_1064 ?_
    refine su_eqi (nI (i + 1)) (nI_ad _ _) ?_
    refine va_sld hx hb hX hbl hbA hS (vp_in_nI (by omega) (by omega)) dL_law_1065 ?_
    refine su_eqi (xs (i + 1)) (by rw [nI_clamp (by omega)]) ?_
    refine lv_aload_n hx hb dL_law_1066 rfl (lv_at hl 5 rfl) ?_
    refine lv_iload hx hb dL_law_1067 (lv_at hl 0 rfl) ?_
    refine lv_iconst (v := nI 2) hx hb dL_law_1069 (by decide) ?_
    refine lv_iadd hx hb dL_law_1070 ?_
    refine su_eqi (nI (i + 2)) (nI_ad _ _) ?_
    refine va_sld hx hb hX hbl hbA hS (vp_in_nI (by omega) (by omega)) dL_law_1071 ?_
    refine su_eqi (xs (i + 2)) (by rw [nI_clamp (by omega)]) ?_
    refine lv_if_eq (tgt := 1079) hx hb dL_law_1072 (by decide) (fun _ => ?_) (fun h9 => absurd hz h9)
    refine lv_iconst (v := nI 0) hx hb dL_law_1079 (by decide) ?_
    refine lv_aload_n hx hb dL_law_1080 rfl (lv_at hl 2 rfl) ?_
    refine law_wL (vx_runSW (As := [.ref (ad 0), .int (xs (i + 1)), .int (bI false), .ref oo]) (rest := []) ⟨hx, hb, hml, hown, hts⟩ (L_sums l hfl D cI cL cZ H.size ad S oo f ok0 ok1 (xs (i + 1)) false kk v L0 L1 hr) (vx_cwSW 4 hts (lw_gH q_702 q_703 q_30 q_704) rfl rfl rfl (by decide +kernel) ⟨Nat.le_trans (Nat.le_of_ble_eq_true rfl) hR1, Nat.le_trans (Nat.le_of_ble_eq_true rfl) hR2⟩) (su_psx hE hS hA hN hK hP hD [0, 2, 3, 4, 5, 6, 7, 8, 9, 10, 11, 12, 13, 14, 15, 16, 17, 18, 19, 20, 21, 22, 23, 24, 25, 26, 27, 28, 29, 30, 31, 32, 33, 34, 35, 36, 37, 38, 39, 40, 41, 42, 43, 44, 45, 46, 47, 48, 49, 50, 51, 52, 53, 54, 55, 56, 57, 58, 59, 60, 61, 62, 63, 64, 65, 66, 67, 68, 69, 70] [0, 1, 2] rfl rfl rfl) rfl rfl hl.1 rfl (lv_room (Nat.le_of_ble_eq_true rfl)) dL_law_1081 ⟨Nat.le_trans (Nat.add_le_add_left (Nat.le_of_ble_eq_true rfl) _) hcc, Nat.le_trans (Nat.add_le_add_left (Nat.le_of_ble_eq_true rfl) _) hss⟩) hP hD hS hA (fun r u H locs hw hP hD hS => ?_)
    obtain ⟨S1, f1⟩ := u
    obtain rfl := hw.1
    refine lv_istore (lv' := [(6, .int (nI kk)), (5, .int (nI i)), (4, .ref od), (3, .ref oo), (2, .ref (ad2 0)), (1, .ref (ad 0)), (0, .ref b)]) hx hb dL_law_1084 hl (by decide) rfl (fun ls hl => ?_)
    refine lv_aload_n hx hb dL_law_1086 rfl (lv_at hl 4 rfl) ?_
    refine lv_aload_n hx hb dL_law_1087 rfl (lv_at hl 6 rfl) ?_
    refine lv_iload hx hb dL_law_1088 (lv_at hl 1 rfl) ?_
    refine lv_iconst (v := nI 1) hx hb dL_law_1090 (by decide) ?_
    refine lv_iadd hx hb dL_law_1091 ?_
    refine su_eqi (nI (i + 1)) (nI_ad _ _) ?_
    refine va_sld hx hb hX hbl hbA hS (vp_in_nI (by omega) (by omega)) dL_law_1092 ?_
    refine su_eqi (xs (i + 1)) (by rw [nI_clamp (by omega)]) ?_
    refine lv_aload_n hx hb dL_law_1093 rfl (lv_at hl 6 rfl) ?_
    refine lv_iload hx hb dL_law_1094 (lv_at hl 1 rfl) ?_
    refine lv_iconst (v := nI 2) hx hb dL_law_1096 (by decide) ?_
    refine lv_iadd hx hb dL_law_1097 ?_
    refine su_eqi (nI (i + 2)) (nI_ad _ _) ?_
    refine va_sld hx hb hX hbl hbA hS (vp_in_nI (by omega) (by omega)) dL_law_1098 ?_
    refine su_eqi (xs (i + 2)) (by rw [nI_clamp (by omega)]) ?_
    refine lv_if_eq (tgt := 1106) hx hb dL_law_1099 (by decide) (fun _ => ?_) (fun h9 => absurd hz h9)
    refine lv_iconst (v := nI 0) hx hb dL_law_1106 (by decide) ?_
    refine law_mi (va_runV (As := [.int (xs (i + 1)), .int (bI false)]) (rest := []) ⟨hx, hb, hml, hown, hts⟩ (M_sums l D cI cL cZ cA cB H.size ad2 T (S.1 0) (S.1 1) (S.2.1 0) (S.2.1 1) hL0 hL1 ok0 ok1 (xs (i + 1)) false kk v L0 L1 hr) (cwV 2 hts (lw_gV q_1119 q_1120 q_1121 q_42 q_1122) rfl rfl rfl (by decide +kernel) ⟨Nat.le_trans (Nat.le_of_ble_eq_true rfl) hR1, Nat.le_trans (Nat.le_of_ble_eq_true rfl) hR2⟩) (su_pv hN hK hP hD [71, 72, 73, 74, 75, 76, 77, 78, 79, 80] [0, 1, 2, 3, 4] rfl rfl rfl (ci := 10) (q0 := 0) rfl rfl rfl) rfl rfl hl.1 rfl (lv_room (Nat.le_of_ble_eq_true rfl)) dL_law_1107 ⟨Nat.le_trans (by omega) hcc, Nat.le_trans (by omega) hss⟩) hP hD hS hA (fun r2 T1 H locs hw2 hP hD hS => ?_)
    refine lv_istore (lv' := [(7, .int r2), (6, .int (nI kk)), (5, .int (nI i)), (4, .ref od), (3, .ref oo), (2, .ref (ad2 0)), (1, .ref (ad 0)), (0, .ref b)]) hx hb dL_law_1110 hl (by decide) rfl (fun ls hl => ?_)
    refine lv_aload_n hx hb dL_law_1112 rfl (lv_at hl 5 rfl) ?_
    refine law_mi (va_runV (As := []) (rest := []) ⟨hx, hb, hml, hown, hts⟩ (M_thrown l D cI cL cZ cA cB H.size ad2 T1) (cwV 0 hts (lw_gV q_1018 q_1019 q_1020 q_42 q_1021) rfl rfl rfl (by decide +kernel) ⟨Nat.le_trans (Nat.le_of_ble_eq_true rfl) hR1, Nat.le_trans (Nat.le_of_ble_eq_true rfl) hR2⟩) (su_pv hN hK hP hD [71, 72, 73, 74, 75, 76, 77, 78, 79, 80] [0, 1, 2, 3, 4] rfl rfl rfl (ci := 10) (q0 := 0) rfl rfl rfl) rfl rfl hl.1 rfl (lv_room (Nat.le_of_ble_eq_true rfl)) dL_law_1113 ⟨Nat.le_trans (by omega) hcc, Nat.le_trans (by omega) hss⟩) hP hD hS hA (fun r3 u H locs ht hP hD hS => ?_)
    obtain ⟨ht, hu⟩ := ht
    have hu := hu.symm
    subst hu
    obtain rfl : r3 = nI kk := ht.trans hw2.1
    have ht : nI kk = nI kk ∧ True := ⟨rfl, trivial⟩
    refine lv_iload hx hb dL_law_1116 (lv_at hl 1 rfl) ?_
    refine lv_icmp_eq (tgt := 1123) hx hb dL_law_1118 (by decide) (fun _ => ?_) (fun h9 => absurd (by first | exact ht.1 | rfl) h9)
    refine lv_iload hx hb dL_law_1123 (lv_at hl 1 rfl) ?_
    refine lv_if_ne (tgt := 1140) hx hb dL_law_1125 (by decide) (fun h9 => ?_) (fun h9 => ?_)
    · refine lv_goto (tgt := 2877) hx hb dL_law_1140 (by decide) ?_
      refine W.widen (k := cells + 2) (n := slots + 26) (by omega) (by omega) ?_
      exact kk9 S1 f1 fd T1 H locs ls (lawI_of hw.2.2.1 hw.2.2.2 hw2.2.2.1 hw2.2.2.2 hk0 hk1) hP hD hS (lv_sub hl [2, 3, 4, 5, 6, 7] rfl)
    · have hk := kk_0 hk4 h9
      have ho : f1 0 = v.toInt64 := hw.2.1 hk
      have hv2 := hw2.2.1 hk
      refine lv_aload_n hx hb dL_law_1128 rfl (lv_at hl 4 rfl) ?_
      refine lv_iconst (v := nI 0) hx hb dL_law_1129 (by decide) ?_
      refine su_lald hx hb hK hP 0 1 rfl rfl (i := 0) (by decide) (by decide) (f1 0) rfl dL_law_1130 ?_
      refine lv_iload hx hb dL_law_1131 (lv_at hl 0 rfl) ?_
      refine lv_i2l (v := r2.toInt64) hx hb dL_law_1133 rfl ?_
      refine W.lcmp hx hb dL_law_1134 ?_
      refine su_eqi 0 (by first | (rw [ho]; exact lg_self _) | (rw [ho, hv2]; exact lg_self _)) ?_
      refine lv_if_eq (tgt := 1140) hx hb dL_law_1135 (by decide) (fun _ => ?_) (fun h9 => absurd rfl h9)
      refine lv_goto (tgt := 2877) hx hb dL_law_1140 (by decide) ?_
      refine W.widen (k := cells + 2) (n := slots + 26) (by omega) (by omega) ?_
      exact kk9 S1 f1 fd T1 H locs ls (lawI_of hw.2.2.1 hw.2.2.2 hw2.2.2.1 hw2.2.2.2 hk0 hk1) hP hD hS (lv_sub hl [2, 3, 4, 5, 6, 7] rfl)
  · obtain ⟨kk, v, L0, L1, hr, hk0, hk1, hk4⟩ := su_h1_tot ((0 : Int32)) (RT := fun g n => R_sums g n true) (fun g n ok => T_sums g n true ok) ok0 ok1 (xs (i + 1))
    refine lv_aload_n hx hb dL_law_1059 rfl (lv_at hl 4 rfl) ?_
    refine lv_aload_n hx hb dL_law_1060 rfl (lv_at hl 5 rfl) ?_
    refine lv_iload hx hb dL_law_1061 (lv_at hl 0 rfl) ?_
    refine lv_iconst (v := nI 1) hx hb dL_law_1063 (by decide) ?_
    refine lv_iadd hx hb dL_law_1064 ?_
    refine su_eqi (nI (i + 1)) (nI_ad _ _) ?_
    refine va_sld hx hb hX hbl hbA hS (vp_in_nI (by omega) (by omega)) dL_law_1065 ?_
    refine su_eqi (xs (i + 1)) (by rw [nI_clamp (by omega)]) ?_
    refine lv_aload_n hx hb dL_law_1066 rfl (lv_at hl 5 rfl) ?_
    refine lv_iload hx hb dL_law_1067 (lv_at hl 0 rfl) ?_
    refine lv_iconst (v := nI 2) hx hb dL_law_1069 (by decide) ?_
    refine lv_iadd hx hb dL_law_1070 ?_
    refine su_eqi (nI (i + 2)) (nI_ad _ _) ?_
    refine va_sld hx hb hX hbl hbA hS (vp_in_nI (by omega) (by omega)) dL_law_1071 ?_
    refine su_eqi (xs (i + 2)) (by rw [nI_clamp (by omega)]) ?_
    refine lv_if_eq (tgt := 1079) hx hb dL_law_1072 (by decide) (fun h9 => absurd h9 hz) (fun _ => ?_)
    refine lv_iconst (v := nI 1) hx hb dL_law_1075 (by decide) ?_
    refine lv_goto (tgt := 1080) hx hb dL_law_1076 (by decide) ?_
    refine lv_aload_n hx hb dL_law_1080 rfl (lv_at hl 2 rfl) ?_
    refine law_wL (vx_runSW (As := [.ref (ad 0), .int (xs (i + 1)), .int (bI true), .ref oo]) (rest := []) ⟨hx, hb, hml, hown, hts⟩ (L_sums l hfl D cI cL cZ H.size ad S oo f ok0 ok1 (xs (i + 1)) true kk v L0 L1 hr) (vx_cwSW 4 hts (lw_gH q_702 q_703 q_30 q_704) rfl rfl rfl (by decide +kernel) ⟨Nat.le_trans (Nat.le_of_ble_eq_true rfl) hR1, Nat.le_trans (Nat.le_of_ble_eq_true rfl) hR2⟩) (su_psx hE hS hA hN hK hP hD [0, 2, 3, 4, 5, 6, 7, 8, 9, 10, 11, 12, 13, 14, 15, 16, 17, 18, 19, 20, 21, 22, 23, 24, 25, 26, 27, 28, 29, 30, 31, 32, 33, 34, 35, 36, 37, 38, 39, 40, 41, 42, 43, 44, 45, 46, 47, 48, 49, 50, 51, 52, 53, 54, 55, 56, 57, 58, 59, 60, 61, 62, 63, 64, 65, 66, 67, 68, 69, 70] [0, 1, 2] rfl rfl rfl) rfl rfl hl.1 rfl (lv_room (Nat.le_of_ble_eq_true rfl)) dL_law_1081 ⟨Nat.le_trans (Nat.add_le_add_left (Nat.le_of_ble_eq_true rfl) _) hcc, Nat.le_trans (Nat.add_le_add_left (Nat.le_of_ble_eq_true rfl) _) hss⟩) hP hD hS hA (fun r u H locs hw hP hD hS => ?_)
    obtain ⟨S1, f1⟩ := u
    obtain rfl := hw.1
    refine lv_istore (lv' := [(6, .int (nI kk)), (5, .int (nI i)), (4, .ref od), (3, .ref oo), (2, .ref (ad2 0)), (1, .ref (ad 0)), (0, .ref b)]) hx hb dL_law_1084 hl (by decide) rfl (fun ls hl => ?_)
    refine lv_aload_n hx hb dL_law_1086 rfl (lv_at hl 4 rfl) ?_
    refine lv_aload_n hx hb dL_law_1087 rfl (lv_at hl 6 rfl) ?_
    refine lv_iload hx hb dL_law_1088 (lv_at hl 1 rfl) ?_
    refine lv_iconst (v := nI 1) hx hb dL_law_1090 (by decide) ?_
    refine lv_iadd hx hb dL_law_1091 ?_
    refine su_eqi (nI (i + 1)) (nI_ad _ _) ?_
    refine va_sld hx hb hX hbl hbA hS (vp_in_nI (by omega) (by omega)) dL_law_1092 ?_
    refine su_eqi (xs (i + 1)) (by rw [nI_clamp (by omega)]) ?_
    refine lv_aload_n hx hb dL_law_1093 rfl (lv_at hl 6 rfl) ?_
    refine lv_iload hx hb dL_law_1094 (lv_at hl 1 rfl) ?_
    refine lv_iconst (v := nI 2) hx hb dL_law_1096 (by decide) ?_
    refine lv_iadd hx hb dL_law_1097 ?_
    refine su_eqi (nI (i + 2)) (nI_ad _ _) ?_
    refine va_sld hx hb hX hbl hbA hS (vp_in_nI (by omega) (by omega)) dL_law_1098 ?_
    refine su_eqi (xs (i + 2)) (by rw [nI_clamp (by omega)]) ?_
    refine lv_if_eq (tgt := 1106) hx hb dL_law_1099 (by decide) (fun h9 => absurd h9 hz) (fun _ => ?_)
    refine lv_iconst (v := nI 1) hx hb dL_law_1102 (by decide) ?_
    refine lv_goto (tgt := 1107) hx hb dL_law_1103 (by decide) ?_
    refine law_mi (va_runV (As := [.int (xs (i + 1)), .int (bI true)]) (rest := []) ⟨hx, hb, hml, hown, hts⟩ (M_sums l D cI cL cZ cA cB H.size ad2 T (S.1 0) (S.1 1) (S.2.1 0) (S.2.1 1) hL0 hL1 ok0 ok1 (xs (i + 1)) true kk v L0 L1 hr) (cwV 2 hts (lw_gV q_1119 q_1120 q_1121 q_42 q_1122) rfl rfl rfl (by decide +kernel) ⟨Nat.le_trans (Nat.le_of_ble_eq_true rfl) hR1, Nat.le_trans (Nat.le_of_ble_eq_true rfl) hR2⟩) (su_pv hN hK hP hD [71, 72, 73, 74, 75, 76, 77, 78, 79, 80] [0, 1, 2, 3, 4] rfl rfl rfl (ci := 10) (q0 := 0) rfl rfl rfl) rfl rfl hl.1 rfl (lv_room (Nat.le_of_ble_eq_true rfl)) dL_law_1107 ⟨Nat.le_trans (by omega) hcc, Nat.le_trans (by omega) hss⟩) hP hD hS hA (fun r2 T1 H locs hw2 hP hD hS => ?_)
    refine lv_istore (lv' := [(7, .int r2), (6, .int (nI kk)), (5, .int (nI i)), (4, .ref od), (3, .ref oo), (2, .ref (ad2 0)), (1, .ref (ad 0)), (0, .ref b)]) hx hb dL_law_1110 hl (by decide) rfl (fun ls hl => ?_)
    refine lv_aload_n hx hb dL_law_1112 rfl (lv_at hl 5 rfl) ?_
    refine law_mi (va_runV (As := []) (rest := []) ⟨hx, hb, hml, hown, hts⟩ (M_thrown l D cI cL cZ cA cB H.size ad2 T1) (cwV 0 hts (lw_gV q_1018 q_1019 q_1020 q_42 q_1021) rfl rfl rfl (by decide +kernel) ⟨Nat.le_trans (Nat.le_of_ble_eq_true rfl) hR1, Nat.le_trans (Nat.le_of_ble_eq_true rfl) hR2⟩) (su_pv hN hK hP hD [71, 72, 73, 74, 75, 76, 77, 78, 79, 80] [0, 1, 2, 3, 4] rfl rfl rfl (ci := 10) (q0 := 0) rfl rfl rfl) rfl rfl hl.1 rfl (lv_room (Nat.le_of_ble_eq_true rfl)) dL_law_1113 ⟨Nat.le_trans (by omega) hcc, Nat.le_trans (by omega) hss⟩) hP hD hS hA (fun r3 u H locs ht hP hD hS => ?_)
    obtain ⟨ht, hu⟩ := ht
    have hu := hu.symm
    subst hu
    obtain rfl : r3 = nI kk := ht.trans hw2.1
    have ht : nI kk = nI kk ∧ True := ⟨rfl, trivial⟩
    refine lv_iload hx hb dL_law_1116 (lv_at hl 1 rfl) ?_
    refine lv_icmp_eq (tgt := 1123) hx hb dL_law_1118 (by decide) (fun _ => ?_) (fun h9 => absurd (by first | exact ht.1 | rfl) h9)
    refine lv_iload hx hb dL_law_1123 (lv_at hl 1 rfl) ?_
    refine lv_if_ne (tgt := 1140) hx hb dL_law_1125 (by decide) (fun h9 => ?_) (fun h9 => ?_)
    · refine lv_goto (tgt := 2877) hx hb dL_law_1140 (by decide) ?_
      refine W.widen (k := cells + 2) (n := slots + 26) (by omega) (by omega) ?_
      exact kk9 S1 f1 fd T1 H locs ls (lawI_of hw.2.2.1 hw.2.2.2 hw2.2.2.1 hw2.2.2.2 hk0 hk1) hP hD hS (lv_sub hl [2, 3, 4, 5, 6, 7] rfl)
    · have hk := kk_0 hk4 h9
      have ho : f1 0 = v.toInt64 := hw.2.1 hk
      have hv2 := hw2.2.1 hk
      refine lv_aload_n hx hb dL_law_1128 rfl (lv_at hl 4 rfl) ?_
      refine lv_iconst (v := nI 0) hx hb dL_law_1129 (by decide) ?_
      refine su_lald hx hb hK hP 0 1 rfl rfl (i := 0) (by decide) (by decide) (f1 0) rfl dL_law_1130 ?_
      refine lv_iload hx hb dL_law_1131 (lv_at hl 0 rfl) ?_
      refine lv_i2l (v := r2.toInt64) hx hb dL_law_1133 rfl ?_
      refine W.lcmp hx hb dL_law_1134 ?_
      refine su_eqi 0 (by first | (rw [ho]; exact lg_self _) | (rw [ho, hv2]; exact lg_self _)) ?_
      refine lv_if_eq (tgt := 1140) hx hb dL_law_1135 (by decide) (fun _ => ?_) (fun h9 => absurd rfl h9)
      refine lv_goto (tgt := 2877) hx hb dL_law_1140 (by decide) ?_
      refine W.widen (k := cells + 2) (n := slots + 26) (by omega) (by omega) ?_
      exact kk9 S1 f1 fd T1 H locs ls (lawI_of hw.2.2.1 hw.2.2.2 hw2.2.2.1 hw2.2.2.2 hk0 hk1) hP hD hS (lv_sub hl [2, 3, 4, 5, 6, 7] rfl)
set_option maxHeartbeats 4000000 in
set_option maxRecDepth 100000 in
theorem case_ways {p : Program} {l : Launch} {e : Env} {R : Room} {s : State} {m : MethodId} {args : Array Value} {below : List Frame} {meth : Method} {c : Code} {Q : State → Prop} {A : Nat → Prop} {D : va_G} {cI cL cZ cA cB cD : ClassId} {b L : Nat} {xs : Nat → Int32} {ad ad2 : Nat → Nat} {oo od : Nat}
    (C9 : lawC p l s m args c A D cI cL cZ cA cB cD b L xs R) {i : Nat} (hi : i + 4 ≤ L) {S : CS} {f : Nat → Int64} {fd : Nat → UInt64} {T : MS} (I9 : lawI S T) {H : Heap} {locs : List Loc} {ls : Array Slot} {cells slots : Nat} (hcc : cells + 2 ≤ R.cells) (hss : slots + 26 ≤ R.slots)
    (hP : va_P D vwCl (lawW ad ad2 cI cL cZ cA cB cD oo od S f fd T) H) (hD : va_D A (lawW ad ad2 cI cL cZ cA cB cD oo od S f fd T)) (hS : va_S A s.heap H locs) (hl : lv_has ls 9 [(5, .int (nI i)), (4, .ref od), (3, .ref oo), (2, .ref (ad2 0)), (1, .ref (ad 0)), (0, .ref b)])
    (kk9 : lawK p l e R s m args below meth c Q A D cI cL cZ cA cB cD b ad ad2 oo od i cells slots) : W p l e R s m args below meth c H locs cells slots Q (F0 m 1515 ls []) := by
  obtain ⟨hx, hb, hml, hown, hts, hN, hE, hfl, hX, hbl, hbA, hA, hK, hR1, hR2, hL⟩ := C9
  obtain ⟨ok0, ok1, hL0, hL1⟩ := I9
  by_cases hz : xs (i + 3) = 0
  · obtain ⟨kk, v, L0, L1, hr, hk0, hk1, hk4⟩ := su_h1_tot ((0 : Int64)) (RT := fun g n => R_ways g n (xs (i + 2)) false) (fun g n ok => T_ways g n (xs (i + 2)) false ok) ok0 ok1 (xs (i + 1))
    refine lv_aload_n hx hb dL_law_1515 rfl (lv_at hl 4 rfl) ?_
    refine lv_aload_n hx hb dL_law_1516 rfl (lv_at hl 5 rfl) ?_
    refine lv_iload hx hb dL_law_1517 (lv_at hl 0 rfl) ?_
    refine lv_iconst (v := nI 1) hx hb dL_law_1519 (by decide) ?_
    refine lv_iadd hx hb dL_law_1520 ?_
    refine su_eqi (nI (i + 1)) (nI_ad _ _) ?_
    refine va_sld hx hb hX hbl hbA hS (vp_in_nI (by omega) (by omega)) dL_law_1521 ?_
    refine su_eqi (xs (i + 1)) (by rw [nI_clamp (by omega)]) ?_
    refine lv_aload_n hx hb dL_law_1522 rfl (lv_at hl 5 rfl) ?_
    refine lv_iload hx hb dL_law_1523 (lv_at hl 0 rfl) ?_
    refine lv_iconst (v := nI 2) hx hb dL_law_1525 (by decide) ?_
    refine lv_iadd hx hb dL_law_1526 ?_
    refine su_eqi (nI (i + 2)) (nI_ad _ _) ?_
    refine va_sld hx hb hX hbl hbA hS (vp_in_nI (by omega) (by omega)) dL_law_1527 ?_
    refine su_eqi (xs (i + 2)) (by rw [nI_clamp (by omega)]) ?_
    refine lv_aload_n hx hb dL_law_1528 rfl (lv_at hl 5 rfl) ?_
    refine lv_iload hx hb dL_law_1529 (lv_at hl 0 rfl) ?_
    refine lv_iconst (v := nI 3) hx hb dL_law_1531 (by decide) ?_
    refine lv_iadd hx hb dL_law_1532 ?_
    refine su_eqi (nI (i + 3)) (nI_ad _ _) ?_
    refine va_sld hx hb hX hbl hbA hS (vp_in_nI (by omega) (by omega)) dL_law_1533 ?_
    refine su_eqi (xs (i + 3)) (by rw [nI_clamp (by omega)]) ?_
    refine lv_if_eq (tgt := 1541) hx hb dL_law_1534 (by decide) (fun _ => ?_) (fun h9 => absurd hz h9)
    refine lv_iconst (v := nI 0) hx hb dL_law_1541 (by decide) ?_
    refine lv_aload_n hx hb dL_law_1542 rfl (lv_at hl 2 rfl) ?_
    refine law_wL (vx_runSW (As := [.ref (ad 0), .int (xs (i + 1)), .int (xs (i + 2)), .int (bI false), .ref oo]) (rest := []) ⟨hx, hb, hml, hown, hts⟩ (L_ways l hfl D cI cL cZ H.size ad S oo f ok0 ok1 (xs (i + 1)) (xs (i + 2)) false kk v L0 L1 hr) (vx_cwSW 5 hts (lw_gH q_758 q_759 q_30 q_760) rfl rfl rfl (by decide +kernel) ⟨Nat.le_trans (Nat.le_of_ble_eq_true rfl) hR1, Nat.le_trans (Nat.le_of_ble_eq_true rfl) hR2⟩) (su_psx hE hS hA hN hK hP hD [0, 2, 3, 4, 5, 6, 7, 8, 9, 10, 11, 12, 13, 14, 15, 16, 17, 18, 19, 20, 21, 22, 23, 24, 25, 26, 27, 28, 29, 30, 31, 32, 33, 34, 35, 36, 37, 38, 39, 40, 41, 42, 43, 44, 45, 46, 47, 48, 49, 50, 51, 52, 53, 54, 55, 56, 57, 58, 59, 60, 61, 62, 63, 64, 65, 66, 67, 68, 69, 70] [0, 1, 2] rfl rfl rfl) rfl rfl hl.1 rfl (lv_room (Nat.le_of_ble_eq_true rfl)) dL_law_1543 ⟨Nat.le_trans (Nat.add_le_add_left (Nat.le_of_ble_eq_true rfl) _) hcc, Nat.le_trans (Nat.add_le_add_left (Nat.le_of_ble_eq_true rfl) _) hss⟩) hP hD hS hA (fun r u H locs hw hP hD hS => ?_)
    obtain ⟨S1, f1⟩ := u
    obtain rfl := hw.1
    refine lv_istore (lv' := [(6, .int (nI kk)), (5, .int (nI i)), (4, .ref od), (3, .ref oo), (2, .ref (ad2 0)), (1, .ref (ad 0)), (0, .ref b)]) hx hb dL_law_1546 hl (by decide) rfl (fun ls hl => ?_)
    refine lv_aload_n hx hb dL_law_1548 rfl (lv_at hl 4 rfl) ?_
    refine lv_aload_n hx hb dL_law_1549 rfl (lv_at hl 6 rfl) ?_
    refine lv_iload hx hb dL_law_1550 (lv_at hl 1 rfl) ?_
    refine lv_iconst (v := nI 1) hx hb dL_law_1552 (by decide) ?_
    refine lv_iadd hx hb dL_law_1553 ?_
    refine su_eqi (nI (i + 1)) (nI_ad _ _) ?_
    refine va_sld hx hb hX hbl hbA hS (vp_in_nI (by omega) (by omega)) dL_law_1554 ?_
    refine su_eqi (xs (i + 1)) (by rw [nI_clamp (by omega)]) ?_
    refine lv_aload_n hx hb dL_law_1555 rfl (lv_at hl 6 rfl) ?_
    refine lv_iload hx hb dL_law_1556 (lv_at hl 1 rfl) ?_
    refine lv_iconst (v := nI 2) hx hb dL_law_1558 (by decide) ?_
    refine lv_iadd hx hb dL_law_1559 ?_
    refine su_eqi (nI (i + 2)) (nI_ad _ _) ?_
    refine va_sld hx hb hX hbl hbA hS (vp_in_nI (by omega) (by omega)) dL_law_1560 ?_
    refine su_eqi (xs (i + 2)) (by rw [nI_clamp (by omega)]) ?_
    refine lv_aload_n hx hb dL_law_1561 rfl (lv_at hl 6 rfl) ?_
    refine lv_iload hx hb dL_law_1562 (lv_at hl 1 rfl) ?_
    refine lv_iconst (v := nI 3) hx hb dL_law_1564 (by decide) ?_
    refine lv_iadd hx hb dL_law_1565 ?_
    refine su_eqi (nI (i + 3)) (nI_ad _ _) ?_
    refine va_sld hx hb hX hbl hbA hS (vp_in_nI (by omega) (by omega)) dL_law_1566 ?_
    refine su_eqi (xs (i + 3)) (by rw [nI_clamp (by omega)]) ?_
    refine lv_if_eq (tgt := 1574) hx hb dL_law_1567 (by decide) (fun _ => ?_) (fun h9 => absurd hz h9)
    refine lv_iconst (v := nI 0) hx hb dL_law_1574 (by decide) ?_
    refine law_ml (va_runV (As := [.int (xs (i + 1)), .int (xs (i + 2)), .int (bI false)]) (rest := []) ⟨hx, hb, hml, hown, hts⟩ (M_ways l D cI cL cZ cA cB H.size ad2 T (S.1 0) (S.1 1) (S.2.1 0) (S.2.1 1) hL0 hL1 ok0 ok1 (xs (i + 1)) (xs (i + 2)) false kk v L0 L1 hr) (cwV 3 hts (lw_gV q_1143 q_1144 q_1145 q_42 q_1146) rfl rfl rfl (by decide +kernel) ⟨Nat.le_trans (Nat.le_of_ble_eq_true rfl) hR1, Nat.le_trans (Nat.le_of_ble_eq_true rfl) hR2⟩) (su_pv hN hK hP hD [71, 72, 73, 74, 75, 76, 77, 78, 79, 80] [0, 1, 2, 3, 4] rfl rfl rfl (ci := 10) (q0 := 0) rfl rfl rfl) rfl rfl hl.1 rfl (lv_room (Nat.le_of_ble_eq_true rfl)) dL_law_1575 ⟨Nat.le_trans (by omega) hcc, Nat.le_trans (by omega) hss⟩) hP hD hS hA (fun r2 T1 H locs hw2 hP hD hS => ?_)
    refine lv_lstore (lv' := [(7, .long r2), (6, .int (nI kk)), (5, .int (nI i)), (4, .ref od), (3, .ref oo), (2, .ref (ad2 0)), (1, .ref (ad 0)), (0, .ref b)]) hx hb dL_law_1578 hl (by decide) rfl (fun ls hl => ?_)
    refine lv_aload_n hx hb dL_law_1580 rfl (lv_at hl 5 rfl) ?_
    refine law_mi (va_runV (As := []) (rest := []) ⟨hx, hb, hml, hown, hts⟩ (M_thrown l D cI cL cZ cA cB H.size ad2 T1) (cwV 0 hts (lw_gV q_1018 q_1019 q_1020 q_42 q_1021) rfl rfl rfl (by decide +kernel) ⟨Nat.le_trans (Nat.le_of_ble_eq_true rfl) hR1, Nat.le_trans (Nat.le_of_ble_eq_true rfl) hR2⟩) (su_pv hN hK hP hD [71, 72, 73, 74, 75, 76, 77, 78, 79, 80] [0, 1, 2, 3, 4] rfl rfl rfl (ci := 10) (q0 := 0) rfl rfl rfl) rfl rfl hl.1 rfl (lv_room (Nat.le_of_ble_eq_true rfl)) dL_law_1581 ⟨Nat.le_trans (by omega) hcc, Nat.le_trans (by omega) hss⟩) hP hD hS hA (fun r3 u H locs ht hP hD hS => ?_)
    obtain ⟨ht, hu⟩ := ht
    have hu := hu.symm
    subst hu
    obtain rfl : r3 = nI kk := ht.trans hw2.1
    have ht : nI kk = nI kk ∧ True := ⟨rfl, trivial⟩
    refine lv_iload hx hb dL_law_1584 (lv_at hl 1 rfl) ?_
    refine lv_icmp_eq (tgt := 1591) hx hb dL_law_1586 (by decide) (fun _ => ?_) (fun h9 => absurd (by first | exact ht.1 | rfl) h9)
    refine lv_iload hx hb dL_law_1591 (lv_at hl 1 rfl) ?_
    refine lv_if_ne (tgt := 1607) hx hb dL_law_1593 (by decide) (fun h9 => ?_) (fun h9 => ?_)
    · refine lv_goto (tgt := 2877) hx hb dL_law_1607 (by decide) ?_
      refine W.widen (k := cells + 2) (n := slots + 26) (by omega) (by omega) ?_
      exact kk9 S1 f1 fd T1 H locs ls (lawI_of hw.2.2.1 hw.2.2.2 hw2.2.2.1 hw2.2.2.2 hk0 hk1) hP hD hS (lv_sub hl [2, 3, 4, 5, 6, 7] rfl)
    · have hk := kk_0 hk4 h9
      have ho : f1 0 = v := hw.2.1 hk
      have hv2 := hw2.2.1 hk
      refine lv_aload_n hx hb dL_law_1596 rfl (lv_at hl 4 rfl) ?_
      refine lv_iconst (v := nI 0) hx hb dL_law_1597 (by decide) ?_
      refine su_lald hx hb hK hP 0 1 rfl rfl (i := 0) (by decide) (by decide) (f1 0) rfl dL_law_1598 ?_
      refine lv_lload hx hb dL_law_1599 (lv_at hl 0 rfl) ?_
      refine W.lcmp hx hb dL_law_1601 ?_
      refine su_eqi 0 (by first | (rw [ho]; exact lg_self _) | (rw [ho, hv2]; exact lg_self _)) ?_
      refine lv_if_eq (tgt := 1607) hx hb dL_law_1602 (by decide) (fun _ => ?_) (fun h9 => absurd rfl h9)
      refine lv_goto (tgt := 2877) hx hb dL_law_1607 (by decide) ?_
      refine W.widen (k := cells + 2) (n := slots + 26) (by omega) (by omega) ?_
      exact kk9 S1 f1 fd T1 H locs ls (lawI_of hw.2.2.1 hw.2.2.2 hw2.2.2.1 hw2.2.2.2 hk0 hk1) hP hD hS (lv_sub hl [2, 3, 4, 5, 6, 7] rfl)
  · obtain ⟨kk, v, L0, L1, hr, hk0, hk1, hk4⟩ := su_h1_tot ((0 : Int64)) (RT := fun g n => R_ways g n (xs (i + 2)) true) (fun g n ok => T_ways g n (xs (i + 2)) true ok) ok0 ok1 (xs (i + 1))
    refine lv_aload_n hx hb dL_law_1515 rfl (lv_at hl 4 rfl) ?_
    refine lv_aload_n hx hb dL_law_1516 rfl (lv_at hl 5 rfl) ?_
    refine lv_iload hx hb dL_law_1517 (lv_at hl 0 rfl) ?_
    refine lv_iconst (v := nI 1) hx hb dL_law_1519 (by decide) ?_
    refine lv_iadd hx hb dL_law_1520 ?_
    refine su_eqi (nI (i + 1)) (nI_ad _ _) ?_
    refine va_sld hx hb hX hbl hbA hS (vp_in_nI (by omega) (by omega)) dL_law_1521 ?_
    refine su_eqi (xs (i + 1)) (by rw [nI_clamp (by omega)]) ?_
    refine lv_aload_n hx hb dL_law_1522 rfl (lv_at hl 5 rfl) ?_
    refine lv_iload hx hb dL_law_1523 (lv_at hl 0 rfl) ?_
    refine lv_iconst (v := nI 2) hx hb dL_law_1525 (by decide) ?_
    refine lv_iadd hx hb dL_law_1526 ?_
    refine su_eqi (nI (i + 2)) (nI_ad _ _) ?_
    refine va_sld hx hb hX hbl hbA hS (vp_in_nI (by omega) (by omega)) dL_law_1527 ?_
    refine su_eqi (xs (i + 2)) (by rw [nI_clamp (by omega)]) ?_
    refine lv_aload_n hx hb dL_law_1528 rfl (lv_at hl 5 rfl) ?_
    refine lv_iload hx hb dL_law_1529 (lv_at hl 0 rfl) ?_
    refine lv_iconst (v := nI 3) hx hb dL_law_1531 (by decide) ?_
    refine lv_iadd hx hb dL_law_1532 ?_
    refine su_eqi (nI (i + 3)) (nI_ad _ _) ?_
    refine va_sld hx hb hX hbl hbA hS (vp_in_nI (by omega) (by omega)) dL_law_1533 ?_
    refine su_eqi (xs (i + 3)) (by rw [nI_clamp (by omega)]) ?_
    refine lv_if_eq (tgt := 1541) hx hb dL_law_1534 (by decide) (fun h9 => absurd h9 hz) (fun _ => ?_)
    refine lv_iconst (v := nI 1) hx hb dL_law_1537 (by decide) ?_
    refine lv_goto (tgt := 1542) hx hb dL_law_1538 (by decide) ?_
    refine lv_aload_n hx hb dL_law_1542 rfl (lv_at hl 2 rfl) ?_
    refine law_wL (vx_runSW (As := [.ref (ad 0), .int (xs (i + 1)), .int (xs (i + 2)), .int (bI true), .ref oo]) (rest := []) ⟨hx, hb, hml, hown, hts⟩ (L_ways l hfl D cI cL cZ H.size ad S oo f ok0 ok1 (xs (i + 1)) (xs (i + 2)) true kk v L0 L1 hr) (vx_cwSW 5 hts (lw_gH q_758 q_759 q_30 q_760) rfl rfl rfl (by decide +kernel) ⟨Nat.le_trans (Nat.le_of_ble_eq_true rfl) hR1, Nat.le_trans (Nat.le_of_ble_eq_true rfl) hR2⟩) (su_psx hE hS hA hN hK hP hD [0, 2, 3, 4, 5, 6, 7, 8, 9, 10, 11, 12, 13, 14, 15, 16, 17, 18, 19, 20, 21, 22, 23, 24, 25, 26, 27, 28, 29, 30, 31, 32, 33, 34, 35, 36, 37, 38, 39, 40, 41, 42, 43, 44, 45, 46, 47, 48, 49, 50, 51, 52, 53, 54, 55, 56, 57, 58, 59, 60, 61, 62, 63, 64, 65, 66, 67, 68, 69, 70] [0, 1, 2] rfl rfl rfl) rfl rfl hl.1 rfl (lv_room (Nat.le_of_ble_eq_true rfl)) dL_law_1543 ⟨Nat.le_trans (Nat.add_le_add_left (Nat.le_of_ble_eq_true rfl) _) hcc, Nat.le_trans (Nat.add_le_add_left (Nat.le_of_ble_eq_true rfl) _) hss⟩) hP hD hS hA (fun r u H locs hw hP hD hS => ?_)
    obtain ⟨S1, f1⟩ := u
    obtain rfl := hw.1
    refine lv_istore (lv' := [(6, .int (nI kk)), (5, .int (nI i)), (4, .ref od), (3, .ref oo), (2, .ref (ad2 0)), (1, .ref (ad 0)), (0, .ref b)]) hx hb dL_law_1546 hl (by decide) rfl (fun ls hl => ?_)
    refine lv_aload_n hx hb dL_law_1548 rfl (lv_at hl 4 rfl) ?_
    refine lv_aload_n hx hb dL_law_1549 rfl (lv_at hl 6 rfl) ?_
    refine lv_iload hx hb dL_law_1550 (lv_at hl 1 rfl) ?_
    refine lv_iconst (v := nI 1) hx hb dL_law_1552 (by decide) ?_
    refine lv_iadd hx hb dL_law_1553 ?_
    refine su_eqi (nI (i + 1)) (nI_ad _ _) ?_
    refine va_sld hx hb hX hbl hbA hS (vp_in_nI (by omega) (by omega)) dL_law_1554 ?_
    refine su_eqi (xs (i + 1)) (by rw [nI_clamp (by omega)]) ?_
    refine lv_aload_n hx hb dL_law_1555 rfl (lv_at hl 6 rfl) ?_
    refine lv_iload hx hb dL_law_1556 (lv_at hl 1 rfl) ?_
    refine lv_iconst (v := nI 2) hx hb dL_law_1558 (by decide) ?_
    refine lv_iadd hx hb dL_law_1559 ?_
    refine su_eqi (nI (i + 2)) (nI_ad _ _) ?_
    refine va_sld hx hb hX hbl hbA hS (vp_in_nI (by omega) (by omega)) dL_law_1560 ?_
    refine su_eqi (xs (i + 2)) (by rw [nI_clamp (by omega)]) ?_
    refine lv_aload_n hx hb dL_law_1561 rfl (lv_at hl 6 rfl) ?_
    refine lv_iload hx hb dL_law_1562 (lv_at hl 1 rfl) ?_
    refine lv_iconst (v := nI 3) hx hb dL_law_1564 (by decide) ?_
    refine lv_iadd hx hb dL_law_1565 ?_
    refine su_eqi (nI (i + 3)) (nI_ad _ _) ?_
    refine va_sld hx hb hX hbl hbA hS (vp_in_nI (by omega) (by omega)) dL_law_1566 ?_
    refine su_eqi (xs (i + 3)) (by rw [nI_clamp (by omega)]) ?_
    refine lv_if_eq (tgt := 1574) hx hb dL_law_1567 (by decide) (fun h9 => absurd h9 hz) (fun _ => ?_)
    refine lv_iconst (v := nI 1) hx hb dL_law_1570 (by decide) ?_
    refine lv_goto (tgt := 1575) hx hb dL_law_1571 (by decide) ?_
    refine law_ml (va_runV (As := [.int (xs (i + 1)), .int (xs (i + 2)), .int (bI true)]) (rest := []) ⟨hx, hb, hml, hown, hts⟩ (M_ways l D cI cL cZ cA cB H.size ad2 T (S.1 0) (S.1 1) (S.2.1 0) (S.2.1 1) hL0 hL1 ok0 ok1 (xs (i + 1)) (xs (i + 2)) true kk v L0 L1 hr) (cwV 3 hts (lw_gV q_1143 q_1144 q_1145 q_42 q_1146) rfl rfl rfl (by decide +kernel) ⟨Nat.le_trans (Nat.le_of_ble_eq_true rfl) hR1, Nat.le_trans (Nat.le_of_ble_eq_true rfl) hR2⟩) (su_pv hN hK hP hD [71, 72, 73, 74, 75, 76, 77, 78, 79, 80] [0, 1, 2, 3, 4] rfl rfl rfl (ci := 10) (q0 := 0) rfl rfl rfl) rfl rfl hl.1 rfl (lv_room (Nat.le_of_ble_eq_true rfl)) dL_law_1575 ⟨Nat.le_trans (by omega) hcc, Nat.le_trans (by omega) hss⟩) hP hD hS hA (fun r2 T1 H locs hw2 hP hD hS => ?_)
    refine lv_lstore (lv' := [(7, .long r2), (6, .int (nI kk)), (5, .int (nI i)), (4, .ref od), (3, .ref oo), (2, .ref (ad2 0)), (1, .ref (ad 0)), (0, .ref b)]) hx hb dL_law_1578 hl (by decide) rfl (fun ls hl => ?_)
    refine lv_aload_n hx hb dL_law_1580 rfl (lv_at hl 5 rfl) ?_
    refine law_mi (va_runV (As := []) (rest := []) ⟨hx, hb, hml, hown, hts⟩ (M_thrown l D cI cL cZ cA cB H.size ad2 T1) (cwV 0 hts (lw_gV q_1018 q_1019 q_1020 q_42 q_1021) rfl rfl rfl (by decide +kernel) ⟨Nat.le_trans (Nat.le_of_ble_eq_true rfl) hR1, Nat.le_trans (Nat.le_of_ble_eq_true rfl) hR2⟩) (su_pv hN hK hP hD [71, 72, 73, 74, 75, 76, 77, 78, 79, 80] [0, 1, 2, 3, 4] rfl rfl rfl (ci := 10) (q0 := 0) rfl rfl rfl) rfl rfl hl.1 rfl (lv_room (Nat.le_of_ble_eq_true rfl)) dL_law_1581 ⟨Nat.le_trans (by omega) hcc, Nat.le_trans (by omega) hss⟩) hP hD hS hA (fun r3 u H locs ht hP hD hS => ?_)
    obtain ⟨ht, hu⟩ := ht
    have hu := hu.symm
    subst hu
    obtain rfl : r3 = nI kk := ht.trans hw2.1
    have ht : nI kk = nI kk ∧ True := ⟨rfl, trivial⟩
    refine lv_iload hx hb dL_law_1584 (lv_at hl 1 rfl) ?_
    refine lv_icmp_eq (tgt := 1591) hx hb dL_law_1586 (by decide) (fun _ => ?_) (fun h9 => absurd (by first | exact ht.1 | rfl) h9)
    refine lv_iload hx hb dL_law_1591 (lv_at hl 1 rfl) ?_
    refine lv_if_ne (tgt := 1607) hx hb dL_law_1593 (by decide) (fun h9 => ?_) (fun h9 => ?_)
    · refine lv_goto (tgt := 2877) hx hb dL_law_1607 (by decide) ?_
      refine W.widen (k := cells + 2) (n := slots + 26) (by omega) (by omega) ?_
      exact kk9 S1 f1 fd T1 H locs ls (lawI_of hw.2.2.1 hw.2.2.2 hw2.2.2.1 hw2.2.2.2 hk0 hk1) hP hD hS (lv_sub hl [2, 3, 4, 5, 6, 7] rfl)
    · have hk := kk_0 hk4 h9
      have ho : f1 0 = v := hw.2.1 hk
      have hv2 := hw2.2.1 hk
      refine lv_aload_n hx hb dL_law_1596 rfl (lv_at hl 4 rfl) ?_
      refine lv_iconst (v := nI 0) hx hb dL_law_1597 (by decide) ?_
      refine su_lald hx hb hK hP 0 1 rfl rfl (i := 0) (by decide) (by decide) (f1 0) rfl dL_law_1598 ?_
      refine lv_lload hx hb dL_law_1599 (lv_at hl 0 rfl) ?_
      refine W.lcmp hx hb dL_law_1601 ?_
      refine su_eqi 0 (by first | (rw [ho]; exact lg_self _) | (rw [ho, hv2]; exact lg_self _)) ?_
      refine lv_if_eq (tgt := 1607) hx hb dL_law_1602 (by decide) (fun _ => ?_) (fun h9 => absurd rfl h9)
      refine lv_goto (tgt := 2877) hx hb dL_law_1607 (by decide) ?_
      refine W.widen (k := cells + 2) (n := slots + 26) (by omega) (by omega) ?_
      exact kk9 S1 f1 fd T1 H locs ls (lawI_of hw.2.2.1 hw.2.2.2 hw2.2.2.1 hw2.2.2.2 hk0 hk1) hP hD hS (lv_sub hl [2, 3, 4, 5, 6, 7] rfl)
set_option maxHeartbeats 4000000 in
set_option maxRecDepth 100000 in
theorem case_share {p : Program} {l : Launch} {e : Env} {R : Room} {s : State} {m : MethodId} {args : Array Value} {below : List Frame} {meth : Method} {c : Code} {Q : State → Prop} {A : Nat → Prop} {D : va_G} {cI cL cZ cA cB cD : ClassId} {b L : Nat} {xs : Nat → Int32} {ad ad2 : Nat → Nat} {oo od : Nat}
    (C9 : lawC p l s m args c A D cI cL cZ cA cB cD b L xs R) {i : Nat} (hi : i + 4 ≤ L) {S : CS} {f : Nat → Int64} {fd : Nat → UInt64} {T : MS} (I9 : lawI S T) {H : Heap} {locs : List Loc} {ls : Array Slot} {cells slots : Nat} (hcc : cells + 2 ≤ R.cells) (hss : slots + 26 ≤ R.slots)
    (hP : va_P D vwCl (lawW ad ad2 cI cL cZ cA cB cD oo od S f fd T) H) (hD : va_D A (lawW ad ad2 cI cL cZ cA cB cD oo od S f fd T)) (hS : va_S A s.heap H locs) (hl : lv_has ls 9 [(5, .int (nI i)), (4, .ref od), (3, .ref oo), (2, .ref (ad2 0)), (1, .ref (ad 0)), (0, .ref b)])
    (kk9 : lawK p l e R s m args below meth c Q A D cI cL cZ cA cB cD b ad ad2 oo od i cells slots) : W p l e R s m args below meth c H locs cells slots Q (F0 m 1886 ls []) := by
  obtain ⟨hx, hb, hml, hown, hts, hN, hE, hfl, hX, hbl, hbA, hA, hK, hR1, hR2, hL⟩ := C9
  obtain ⟨ok0, ok1, hL0, hL1⟩ := I9
  obtain ⟨kk, v, L0, L1, hr, hk0, hk1, hk4⟩ := su_h1_tot ((0 : UInt32)) (RT := fun g n => R_share g n) (fun g n ok => T_share g n ok) ok0 ok1 (xs (i + 1))
  refine lv_aload_n hx hb dL_law_1886 rfl (lv_at hl 4 rfl) ?_
  refine lv_aload_n hx hb dL_law_1887 rfl (lv_at hl 5 rfl) ?_
  refine lv_iload hx hb dL_law_1888 (lv_at hl 0 rfl) ?_
  refine lv_iconst (v := nI 1) hx hb dL_law_1890 (by decide) ?_
  refine lv_iadd hx hb dL_law_1891 ?_
  refine su_eqi (nI (i + 1)) (nI_ad _ _) ?_
  refine va_sld hx hb hX hbl hbA hS (vp_in_nI (by omega) (by omega)) dL_law_1892 ?_
  refine su_eqi (xs (i + 1)) (by rw [nI_clamp (by omega)]) ?_
  refine lv_aload hx hb dL_law_1893 (lv_at hl 1 rfl) ?_
  refine law_wD (vx_runSW (As := [.ref (ad 0), .int (xs (i + 1)), .ref od]) (rest := []) ⟨hx, hb, hml, hown, hts⟩ (L_share l hfl D cI cL cZ cD H.size ad S od fd ok0 ok1 (xs (i + 1)) kk v L0 L1 hr) (vx_cwSW 3 hts (lw_gH q_818 q_819 q_30 q_820) rfl rfl rfl (by decide +kernel) ⟨Nat.le_trans (Nat.le_of_ble_eq_true rfl) hR1, Nat.le_trans (Nat.le_of_ble_eq_true rfl) hR2⟩) (su_psx hE hS hA hN hK hP hD [1, 2, 3, 4, 5, 6, 7, 8, 9, 10, 11, 12, 13, 14, 15, 16, 17, 18, 19, 20, 21, 22, 23, 24, 25, 26, 27, 28, 29, 30, 31, 32, 33, 34, 35, 36, 37, 38, 39, 40, 41, 42, 43, 44, 45, 46, 47, 48, 49, 50, 51, 52, 53, 54, 55, 56, 57, 58, 59, 60, 61, 62, 63, 64, 65, 66, 67, 68, 69, 70] [5, 0, 1, 2] rfl rfl rfl) rfl rfl hl.1 rfl (lv_room (Nat.le_of_ble_eq_true rfl)) dL_law_1895 ⟨Nat.le_trans (Nat.add_le_add_left (Nat.le_of_ble_eq_true rfl) _) hcc, Nat.le_trans (Nat.add_le_add_left (Nat.le_of_ble_eq_true rfl) _) hss⟩) hP hD hS hA (fun r u H locs hw hP hD hS => ?_)
  obtain ⟨S1, f1⟩ := u
  obtain rfl := hw.1
  refine lv_istore (lv' := [(6, .int (nI kk)), (5, .int (nI i)), (4, .ref od), (3, .ref oo), (2, .ref (ad2 0)), (1, .ref (ad 0)), (0, .ref b)]) hx hb dL_law_1898 hl (by decide) rfl (fun ls hl => ?_)
  refine lv_aload_n hx hb dL_law_1900 rfl (lv_at hl 4 rfl) ?_
  refine lv_aload_n hx hb dL_law_1901 rfl (lv_at hl 6 rfl) ?_
  refine lv_iload hx hb dL_law_1902 (lv_at hl 1 rfl) ?_
  refine lv_iconst (v := nI 1) hx hb dL_law_1904 (by decide) ?_
  refine lv_iadd hx hb dL_law_1905 ?_
  refine su_eqi (nI (i + 1)) (nI_ad _ _) ?_
  refine va_sld hx hb hX hbl hbA hS (vp_in_nI (by omega) (by omega)) dL_law_1906 ?_
  refine su_eqi (xs (i + 1)) (by rw [nI_clamp (by omega)]) ?_
  refine law_mf (va_runV (As := [.int (xs (i + 1))]) (rest := []) ⟨hx, hb, hml, hown, hts⟩ (M_share l D cI cL cZ cA cB H.size ad2 T (S.1 0) (S.1 1) (S.2.1 0) (S.2.1 1) hL0 hL1 ok0 ok1 (xs (i + 1)) kk v L0 L1 hr) (cwV 1 hts (lw_gV q_1163 q_1164 q_1165 q_42 q_1166) rfl rfl rfl (by decide +kernel) ⟨Nat.le_trans (Nat.le_of_ble_eq_true rfl) hR1, Nat.le_trans (Nat.le_of_ble_eq_true rfl) hR2⟩) (su_pv hN hK hP hD [71, 72, 73, 74, 75, 76, 77, 78, 79, 80] [0, 1, 2, 3, 4] rfl rfl rfl (ci := 10) (q0 := 0) rfl rfl rfl) rfl rfl hl.1 rfl (lv_room (Nat.le_of_ble_eq_true rfl)) dL_law_1907 ⟨Nat.le_trans (by omega) hcc, Nat.le_trans (by omega) hss⟩) hP hD hS hA (fun r2 T1 H locs hw2 hP hD hS => ?_)
  refine lv_fstore (lv' := [(7, .float r2), (6, .int (nI kk)), (5, .int (nI i)), (4, .ref od), (3, .ref oo), (2, .ref (ad2 0)), (1, .ref (ad 0)), (0, .ref b)]) hx hb dL_law_1910 hl (by decide) rfl (fun ls hl => ?_)
  refine lv_aload_n hx hb dL_law_1912 rfl (lv_at hl 5 rfl) ?_
  refine law_mi (va_runV (As := []) (rest := []) ⟨hx, hb, hml, hown, hts⟩ (M_thrown l D cI cL cZ cA cB H.size ad2 T1) (cwV 0 hts (lw_gV q_1018 q_1019 q_1020 q_42 q_1021) rfl rfl rfl (by decide +kernel) ⟨Nat.le_trans (Nat.le_of_ble_eq_true rfl) hR1, Nat.le_trans (Nat.le_of_ble_eq_true rfl) hR2⟩) (su_pv hN hK hP hD [71, 72, 73, 74, 75, 76, 77, 78, 79, 80] [0, 1, 2, 3, 4] rfl rfl rfl (ci := 10) (q0 := 0) rfl rfl rfl) rfl rfl hl.1 rfl (lv_room (Nat.le_of_ble_eq_true rfl)) dL_law_1913 ⟨Nat.le_trans (by omega) hcc, Nat.le_trans (by omega) hss⟩) hP hD hS hA (fun r3 u H locs ht hP hD hS => ?_)
  obtain ⟨ht, hu⟩ := ht
  have hu := hu.symm
  subst hu
  obtain rfl : r3 = nI kk := ht.trans hw2.1
  have ht : nI kk = nI kk ∧ True := ⟨rfl, trivial⟩
  refine lv_iload hx hb dL_law_1916 (lv_at hl 1 rfl) ?_
  refine lv_icmp_eq (tgt := 1923) hx hb dL_law_1918 (by decide) (fun _ => ?_) (fun h9 => absurd (by first | exact ht.1 | rfl) h9)
  refine lv_iload hx hb dL_law_1923 (lv_at hl 1 rfl) ?_
  refine lv_if_ne (tgt := 1961) hx hb dL_law_1925 (by decide) (fun h9 => ?_) (fun h9 => ?_)
  · refine lv_goto (tgt := 2877) hx hb dL_law_1961 (by decide) ?_
    refine W.widen (k := cells + 2) (n := slots + 26) (by omega) (by omega) ?_
    exact kk9 S1 f f1 T1 H locs ls (lawI_of hw.2.2.1 hw.2.2.2 hw2.2.2.1 hw2.2.2.2 hk0 hk1) hP hD hS (lv_sub hl [2, 3, 4, 5, 6, 7] rfl)
  · have hk := kk_0 hk4 h9
    have ho : f1 0 = FP.f2d v := hw.2.1 hk
    have hv2 := hw2.2.1 hk
    have hnn := share_nn ok0 ok1 hr hk
    obtain ⟨v2, hv3⟩ : ∃ v2, v2 = FP.f2d v := ⟨_, rfl⟩
    rw [← hv3] at ho
    refine lv_aload hx hb dL_law_1928 (lv_at hl 3 rfl) ?_
    refine lv_iconst (v := nI 0) hx hb dL_law_1930 (by decide) ?_
    refine va_dald hx hb hK hP 1 5 rfl rfl (vp_in_nI (show 0 < 1 by decide) (by decide)) dL_law_1931 ?_
    refine su_eqd v2 (by rw [nI_clamp (by decide)]; exact ho) ?_
    refine lv_fload hx hb dL_law_1932 (lv_at hl 0 rfl) ?_
    refine lv_f2d hx hb dL_law_1934 (su_f2dn (by rw [hv2]; exact hnn)) ?_
    refine lv_dcmp hx hb dL_law_1935 ?_
    refine su_eqi 0 (by rw [hv2, hv3]; exact su_dself (su_f2dv hnn)) ?_
    refine lv_if_eq (tgt := 1961) hx hb dL_law_1936 (by decide) (fun _ => ?_) (fun h9 => absurd rfl h9)
    refine lv_goto (tgt := 2877) hx hb dL_law_1961 (by decide) ?_
    refine W.widen (k := cells + 2) (n := slots + 26) (by omega) (by omega) ?_
    exact kk9 S1 f f1 T1 H locs ls (lawI_of hw.2.2.1 hw.2.2.2 hw2.2.2.1 hw2.2.2.2 hk0 hk1) hP hD hS (lv_sub hl [2, 3, 4, 5, 6, 7] rfl)
set_option maxHeartbeats 4000000 in
set_option maxRecDepth 100000 in
theorem case_partSums {p : Program} {l : Launch} {e : Env} {R : Room} {s : State} {m : MethodId} {args : Array Value} {below : List Frame} {meth : Method} {c : Code} {Q : State → Prop} {A : Nat → Prop} {D : va_G} {cI cL cZ cA cB cD : ClassId} {b L : Nat} {xs : Nat → Int32} {ad ad2 : Nat → Nat} {oo od : Nat}
    (C9 : lawC p l s m args c A D cI cL cZ cA cB cD b L xs R) {i : Nat} (hi : i + 4 ≤ L) {S : CS} {f : Nat → Int64} {fd : Nat → UInt64} {T : MS} (I9 : lawI S T) {H : Heap} {locs : List Loc} {ls : Array Slot} {cells slots : Nat} (hcc : cells + 2 ≤ R.cells) (hss : slots + 26 ≤ R.slots)
    (hP : va_P D vwCl (lawW ad ad2 cI cL cZ cA cB cD oo od S f fd T) H) (hD : va_D A (lawW ad ad2 cI cL cZ cA cB cD oo od S f fd T)) (hS : va_S A s.heap H locs) (hl : lv_has ls 9 [(5, .int (nI i)), (4, .ref od), (3, .ref oo), (2, .ref (ad2 0)), (1, .ref (ad 0)), (0, .ref b)])
    (kk9 : lawK p l e R s m args below meth c Q A D cI cL cZ cA cB cD b ad ad2 oo od i cells slots) : W p l e R s m args below meth c H locs cells slots Q (F0 m 2257 ls []) := by
  obtain ⟨hx, hb, hml, hown, hts, hN, hE, hfl, hX, hbl, hbA, hA, hK, hR1, hR2, hL⟩ := C9
  obtain ⟨ok0, ok1, hL0, hL1⟩ := I9
  obtain ⟨kk, v, L0, L1, hr, hk0, hk1, hk4⟩ := su_h1_tot ((0 : Int32)) (RT := fun g n => R_partSums g n (xs (i + 2))) (fun g n ok => T_partSums g n (xs (i + 2)) ok) ok0 ok1 (xs (i + 1))
  refine lv_aload_n hx hb dL_law_2257 rfl (lv_at hl 4 rfl) ?_
  refine lv_aload_n hx hb dL_law_2258 rfl (lv_at hl 5 rfl) ?_
  refine lv_iload hx hb dL_law_2259 (lv_at hl 0 rfl) ?_
  refine lv_iconst (v := nI 1) hx hb dL_law_2261 (by decide) ?_
  refine lv_iadd hx hb dL_law_2262 ?_
  refine su_eqi (nI (i + 1)) (nI_ad _ _) ?_
  refine va_sld hx hb hX hbl hbA hS (vp_in_nI (by omega) (by omega)) dL_law_2263 ?_
  refine su_eqi (xs (i + 1)) (by rw [nI_clamp (by omega)]) ?_
  refine lv_aload_n hx hb dL_law_2264 rfl (lv_at hl 5 rfl) ?_
  refine lv_iload hx hb dL_law_2265 (lv_at hl 0 rfl) ?_
  refine lv_iconst (v := nI 2) hx hb dL_law_2267 (by decide) ?_
  refine lv_iadd hx hb dL_law_2268 ?_
  refine su_eqi (nI (i + 2)) (nI_ad _ _) ?_
  refine va_sld hx hb hX hbl hbA hS (vp_in_nI (by omega) (by omega)) dL_law_2269 ?_
  refine su_eqi (xs (i + 2)) (by rw [nI_clamp (by omega)]) ?_
  refine lv_aload_n hx hb dL_law_2270 rfl (lv_at hl 2 rfl) ?_
  refine law_wL (vx_runSW (As := [.ref (ad 0), .int (xs (i + 1)), .int (xs (i + 2)), .ref oo]) (rest := []) ⟨hx, hb, hml, hown, hts⟩ (L_partSums l hfl D cI cL cZ H.size ad S oo f ok0 ok1 (xs (i + 1)) (xs (i + 2)) kk v L0 L1 hr) (vx_cwSW 4 hts (lw_gH q_863 q_864 q_30 q_865) rfl rfl rfl (by decide +kernel) ⟨Nat.le_trans (Nat.le_of_ble_eq_true rfl) hR1, Nat.le_trans (Nat.le_of_ble_eq_true rfl) hR2⟩) (su_psx hE hS hA hN hK hP hD [0, 2, 3, 4, 5, 6, 7, 8, 9, 10, 11, 12, 13, 14, 15, 16, 17, 18, 19, 20, 21, 22, 23, 24, 25, 26, 27, 28, 29, 30, 31, 32, 33, 34, 35, 36, 37, 38, 39, 40, 41, 42, 43, 44, 45, 46, 47, 48, 49, 50, 51, 52, 53, 54, 55, 56, 57, 58, 59, 60, 61, 62, 63, 64, 65, 66, 67, 68, 69, 70] [0, 1, 2] rfl rfl rfl) rfl rfl hl.1 rfl (lv_room (Nat.le_of_ble_eq_true rfl)) dL_law_2271 ⟨Nat.le_trans (Nat.add_le_add_left (Nat.le_of_ble_eq_true rfl) _) hcc, Nat.le_trans (Nat.add_le_add_left (Nat.le_of_ble_eq_true rfl) _) hss⟩) hP hD hS hA (fun r u H locs hw hP hD hS => ?_)
  obtain ⟨S1, f1⟩ := u
  obtain rfl := hw.1
  refine lv_istore (lv' := [(6, .int (nI kk)), (5, .int (nI i)), (4, .ref od), (3, .ref oo), (2, .ref (ad2 0)), (1, .ref (ad 0)), (0, .ref b)]) hx hb dL_law_2274 hl (by decide) rfl (fun ls hl => ?_)
  refine lv_aload_n hx hb dL_law_2276 rfl (lv_at hl 4 rfl) ?_
  refine lv_aload_n hx hb dL_law_2277 rfl (lv_at hl 6 rfl) ?_
  refine lv_iload hx hb dL_law_2278 (lv_at hl 1 rfl) ?_
  refine lv_iconst (v := nI 1) hx hb dL_law_2280 (by decide) ?_
  refine lv_iadd hx hb dL_law_2281 ?_
  refine su_eqi (nI (i + 1)) (nI_ad _ _) ?_
  refine va_sld hx hb hX hbl hbA hS (vp_in_nI (by omega) (by omega)) dL_law_2282 ?_
  refine su_eqi (xs (i + 1)) (by rw [nI_clamp (by omega)]) ?_
  refine lv_aload_n hx hb dL_law_2283 rfl (lv_at hl 6 rfl) ?_
  refine lv_iload hx hb dL_law_2284 (lv_at hl 1 rfl) ?_
  refine lv_iconst (v := nI 2) hx hb dL_law_2286 (by decide) ?_
  refine lv_iadd hx hb dL_law_2287 ?_
  refine su_eqi (nI (i + 2)) (nI_ad _ _) ?_
  refine va_sld hx hb hX hbl hbA hS (vp_in_nI (by omega) (by omega)) dL_law_2288 ?_
  refine su_eqi (xs (i + 2)) (by rw [nI_clamp (by omega)]) ?_
  refine law_mi (va_runV (As := [.int (xs (i + 1)), .int (xs (i + 2))]) (rest := []) ⟨hx, hb, hml, hown, hts⟩ (M_partSums l D cI cL cZ cA cB H.size ad2 T (S.1 0) (S.1 1) (S.2.1 0) (S.2.1 1) hL0 hL1 ok0 ok1 (xs (i + 1)) (xs (i + 2)) kk v L0 L1 hr) (cwV 2 hts (lw_gV q_1191 q_1192 q_1193 q_42 q_1194) rfl rfl rfl (by decide +kernel) ⟨Nat.le_trans (Nat.le_of_ble_eq_true rfl) hR1, Nat.le_trans (Nat.le_of_ble_eq_true rfl) hR2⟩) (su_pv hN hK hP hD [71, 72, 73, 74, 75, 76, 77, 78, 79, 80] [0, 1, 2, 3, 4] rfl rfl rfl (ci := 10) (q0 := 0) rfl rfl rfl) rfl rfl hl.1 rfl (lv_room (Nat.le_of_ble_eq_true rfl)) dL_law_2289 ⟨Nat.le_trans (by omega) hcc, Nat.le_trans (by omega) hss⟩) hP hD hS hA (fun r2 T1 H locs hw2 hP hD hS => ?_)
  refine lv_istore (lv' := [(7, .int r2), (6, .int (nI kk)), (5, .int (nI i)), (4, .ref od), (3, .ref oo), (2, .ref (ad2 0)), (1, .ref (ad 0)), (0, .ref b)]) hx hb dL_law_2292 hl (by decide) rfl (fun ls hl => ?_)
  refine lv_aload_n hx hb dL_law_2294 rfl (lv_at hl 5 rfl) ?_
  refine law_mi (va_runV (As := []) (rest := []) ⟨hx, hb, hml, hown, hts⟩ (M_thrown l D cI cL cZ cA cB H.size ad2 T1) (cwV 0 hts (lw_gV q_1018 q_1019 q_1020 q_42 q_1021) rfl rfl rfl (by decide +kernel) ⟨Nat.le_trans (Nat.le_of_ble_eq_true rfl) hR1, Nat.le_trans (Nat.le_of_ble_eq_true rfl) hR2⟩) (su_pv hN hK hP hD [71, 72, 73, 74, 75, 76, 77, 78, 79, 80] [0, 1, 2, 3, 4] rfl rfl rfl (ci := 10) (q0 := 0) rfl rfl rfl) rfl rfl hl.1 rfl (lv_room (Nat.le_of_ble_eq_true rfl)) dL_law_2295 ⟨Nat.le_trans (by omega) hcc, Nat.le_trans (by omega) hss⟩) hP hD hS hA (fun r3 u H locs ht hP hD hS => ?_)
  obtain ⟨ht, hu⟩ := ht
  have hu := hu.symm
  subst hu
  obtain rfl : r3 = nI kk := ht.trans hw2.1
  have ht : nI kk = nI kk ∧ True := ⟨rfl, trivial⟩
  refine lv_iload hx hb dL_law_2298 (lv_at hl 1 rfl) ?_
  refine lv_icmp_eq (tgt := 2305) hx hb dL_law_2300 (by decide) (fun _ => ?_) (fun h9 => absurd (by first | exact ht.1 | rfl) h9)
  refine lv_iload hx hb dL_law_2305 (lv_at hl 1 rfl) ?_
  refine lv_if_ne (tgt := 2322) hx hb dL_law_2307 (by decide) (fun h9 => ?_) (fun h9 => ?_)
  · refine lv_goto (tgt := 2877) hx hb dL_law_2322 (by decide) ?_
    refine W.widen (k := cells + 2) (n := slots + 26) (by omega) (by omega) ?_
    exact kk9 S1 f1 fd T1 H locs ls (lawI_of hw.2.2.1 hw.2.2.2 hw2.2.2.1 hw2.2.2.2 hk0 hk1) hP hD hS (lv_sub hl [2, 3, 4, 5, 6, 7] rfl)
  · have hk := kk_0 hk4 h9
    have ho : f1 0 = v.toInt64 := hw.2.1 hk
    have hv2 := hw2.2.1 hk
    refine lv_aload_n hx hb dL_law_2310 rfl (lv_at hl 4 rfl) ?_
    refine lv_iconst (v := nI 0) hx hb dL_law_2311 (by decide) ?_
    refine su_lald hx hb hK hP 0 1 rfl rfl (i := 0) (by decide) (by decide) (f1 0) rfl dL_law_2312 ?_
    refine lv_iload hx hb dL_law_2313 (lv_at hl 0 rfl) ?_
    refine lv_i2l (v := r2.toInt64) hx hb dL_law_2315 rfl ?_
    refine W.lcmp hx hb dL_law_2316 ?_
    refine su_eqi 0 (by first | (rw [ho]; exact lg_self _) | (rw [ho, hv2]; exact lg_self _)) ?_
    refine lv_if_eq (tgt := 2322) hx hb dL_law_2317 (by decide) (fun _ => ?_) (fun h9 => absurd rfl h9)
    refine lv_goto (tgt := 2877) hx hb dL_law_2322 (by decide) ?_
    refine W.widen (k := cells + 2) (n := slots + 26) (by omega) (by omega) ?_
    exact kk9 S1 f1 fd T1 H locs ls (lawI_of hw.2.2.1 hw.2.2.2 hw2.2.2.1 hw2.2.2.2 hk0 hk1) hP hD hS (lv_sub hl [2, 3, 4, 5, 6, 7] rfl)
set_option maxHeartbeats 4000000 in
set_option maxRecDepth 100000 in
theorem case_isAll {p : Program} {l : Launch} {e : Env} {R : Room} {s : State} {m : MethodId} {args : Array Value} {below : List Frame} {meth : Method} {c : Code} {Q : State → Prop} {A : Nat → Prop} {D : va_G} {cI cL cZ cA cB cD : ClassId} {b L : Nat} {xs : Nat → Int32} {ad ad2 : Nat → Nat} {oo od : Nat}
    (C9 : lawC p l s m args c A D cI cL cZ cA cB cD b L xs R) {i : Nat} (hi : i + 4 ≤ L) {S : CS} {f : Nat → Int64} {fd : Nat → UInt64} {T : MS} (I9 : lawI S T) {H : Heap} {locs : List Loc} {ls : Array Slot} {cells slots : Nat} (hcc : cells + 2 ≤ R.cells) (hss : slots + 26 ≤ R.slots)
    (hP : va_P D vwCl (lawW ad ad2 cI cL cZ cA cB cD oo od S f fd T) H) (hD : va_D A (lawW ad ad2 cI cL cZ cA cB cD oo od S f fd T)) (hS : va_S A s.heap H locs) (hl : lv_has ls 9 [(5, .int (nI i)), (4, .ref od), (3, .ref oo), (2, .ref (ad2 0)), (1, .ref (ad 0)), (0, .ref b)])
    (kk9 : lawK p l e R s m args below meth c Q A D cI cL cZ cA cB cD b ad ad2 oo od i cells slots) : W p l e R s m args below meth c H locs cells slots Q (F0 m 2637 ls []) := by
  obtain ⟨hx, hb, hml, hown, hts, hN, hE, hfl, hX, hbl, hbA, hA, hK, hR1, hR2, hL⟩ := C9
  obtain ⟨ok0, ok1, hL0, hL1⟩ := I9
  obtain ⟨kk, v, L0, L1, hr, hk0, hk1, hk4⟩ := su_h1_tot ((0 : Int32)) (RT := fun g n => R_isAll g n (xs (i + 2))) (fun g n ok => T_isAll g n (xs (i + 2)) ok) ok0 ok1 (xs (i + 1))
  refine lv_aload_n hx hb dL_law_2637 rfl (lv_at hl 4 rfl) ?_
  refine lv_aload_n hx hb dL_law_2638 rfl (lv_at hl 5 rfl) ?_
  refine lv_iload hx hb dL_law_2639 (lv_at hl 0 rfl) ?_
  refine lv_iconst (v := nI 1) hx hb dL_law_2641 (by decide) ?_
  refine lv_iadd hx hb dL_law_2642 ?_
  refine su_eqi (nI (i + 1)) (nI_ad _ _) ?_
  refine va_sld hx hb hX hbl hbA hS (vp_in_nI (by omega) (by omega)) dL_law_2643 ?_
  refine su_eqi (xs (i + 1)) (by rw [nI_clamp (by omega)]) ?_
  refine lv_aload_n hx hb dL_law_2644 rfl (lv_at hl 5 rfl) ?_
  refine lv_iload hx hb dL_law_2645 (lv_at hl 0 rfl) ?_
  refine lv_iconst (v := nI 2) hx hb dL_law_2647 (by decide) ?_
  refine lv_iadd hx hb dL_law_2648 ?_
  refine su_eqi (nI (i + 2)) (nI_ad _ _) ?_
  refine va_sld hx hb hX hbl hbA hS (vp_in_nI (by omega) (by omega)) dL_law_2649 ?_
  refine su_eqi (xs (i + 2)) (by rw [nI_clamp (by omega)]) ?_
  refine lv_aload_n hx hb dL_law_2650 rfl (lv_at hl 2 rfl) ?_
  refine law_wL (vx_runSW (As := [.ref (ad 0), .int (xs (i + 1)), .int (xs (i + 2)), .ref oo]) (rest := []) ⟨hx, hb, hml, hown, hts⟩ (L_isAll l hfl D cI cL cZ H.size ad S oo f ok0 ok1 (xs (i + 1)) (xs (i + 2)) kk v L0 L1 hr) (vx_cwSW 4 hts (lw_gH q_942 q_943 q_30 q_944) rfl rfl rfl (by decide +kernel) ⟨Nat.le_trans (Nat.le_of_ble_eq_true rfl) hR1, Nat.le_trans (Nat.le_of_ble_eq_true rfl) hR2⟩) (su_psx hE hS hA hN hK hP hD [0, 2, 3, 4, 5, 6, 7, 8, 9, 10, 11, 12, 13, 14, 15, 16, 17, 18, 19, 20, 21, 22, 23, 24, 25, 26, 27, 28, 29, 30, 31, 32, 33, 34, 35, 36, 37, 38, 39, 40, 41, 42, 43, 44, 45, 46, 47, 48, 49, 50, 51, 52, 53, 54, 55, 56, 57, 58, 59, 60, 61, 62, 63, 64, 65, 66, 67, 68, 69, 70] [0, 1, 2] rfl rfl rfl) rfl rfl hl.1 rfl (lv_room (Nat.le_of_ble_eq_true rfl)) dL_law_2651 ⟨Nat.le_trans (Nat.add_le_add_left (Nat.le_of_ble_eq_true rfl) _) hcc, Nat.le_trans (Nat.add_le_add_left (Nat.le_of_ble_eq_true rfl) _) hss⟩) hP hD hS hA (fun r u H locs hw hP hD hS => ?_)
  obtain ⟨S1, f1⟩ := u
  obtain rfl := hw.1
  refine lv_istore (lv' := [(6, .int (nI kk)), (5, .int (nI i)), (4, .ref od), (3, .ref oo), (2, .ref (ad2 0)), (1, .ref (ad 0)), (0, .ref b)]) hx hb dL_law_2654 hl (by decide) rfl (fun ls hl => ?_)
  refine lv_aload_n hx hb dL_law_2656 rfl (lv_at hl 4 rfl) ?_
  refine lv_aload_n hx hb dL_law_2657 rfl (lv_at hl 6 rfl) ?_
  refine lv_iload hx hb dL_law_2658 (lv_at hl 1 rfl) ?_
  refine lv_iconst (v := nI 1) hx hb dL_law_2660 (by decide) ?_
  refine lv_iadd hx hb dL_law_2661 ?_
  refine su_eqi (nI (i + 1)) (nI_ad _ _) ?_
  refine va_sld hx hb hX hbl hbA hS (vp_in_nI (by omega) (by omega)) dL_law_2662 ?_
  refine su_eqi (xs (i + 1)) (by rw [nI_clamp (by omega)]) ?_
  refine lv_aload_n hx hb dL_law_2663 rfl (lv_at hl 6 rfl) ?_
  refine lv_iload hx hb dL_law_2664 (lv_at hl 1 rfl) ?_
  refine lv_iconst (v := nI 2) hx hb dL_law_2666 (by decide) ?_
  refine lv_iadd hx hb dL_law_2667 ?_
  refine su_eqi (nI (i + 2)) (nI_ad _ _) ?_
  refine va_sld hx hb hX hbl hbA hS (vp_in_nI (by omega) (by omega)) dL_law_2668 ?_
  refine su_eqi (xs (i + 2)) (by rw [nI_clamp (by omega)]) ?_
  refine law_mi (va_runV (As := [.int (xs (i + 1)), .int (xs (i + 2))]) (rest := []) ⟨hx, hb, hml, hown, hts⟩ (M_isAll l D cI cL cZ cA cB H.size ad2 T (S.1 0) (S.1 1) (S.2.1 0) (S.2.1 1) hL0 hL1 ok0 ok1 (xs (i + 1)) (xs (i + 2)) kk v L0 L1 hr) (cwV 2 hts (lw_gV q_1215 q_1216 q_1217 q_42 q_1218) rfl rfl rfl (by decide +kernel) ⟨Nat.le_trans (Nat.le_of_ble_eq_true rfl) hR1, Nat.le_trans (Nat.le_of_ble_eq_true rfl) hR2⟩) (su_pv hN hK hP hD [71, 72, 73, 74, 75, 76, 77, 78, 79, 80] [0, 1, 2, 3, 4] rfl rfl rfl (ci := 10) (q0 := 0) rfl rfl rfl) rfl rfl hl.1 rfl (lv_room (Nat.le_of_ble_eq_true rfl)) dL_law_2669 ⟨Nat.le_trans (by omega) hcc, Nat.le_trans (by omega) hss⟩) hP hD hS hA (fun r2 T1 H locs hw2 hP hD hS => ?_)
  refine lv_istore (lv' := [(7, .int r2), (6, .int (nI kk)), (5, .int (nI i)), (4, .ref od), (3, .ref oo), (2, .ref (ad2 0)), (1, .ref (ad 0)), (0, .ref b)]) hx hb dL_law_2672 hl (by decide) rfl (fun ls hl => ?_)
  refine lv_aload_n hx hb dL_law_2674 rfl (lv_at hl 5 rfl) ?_
  refine law_mi (va_runV (As := []) (rest := []) ⟨hx, hb, hml, hown, hts⟩ (M_thrown l D cI cL cZ cA cB H.size ad2 T1) (cwV 0 hts (lw_gV q_1018 q_1019 q_1020 q_42 q_1021) rfl rfl rfl (by decide +kernel) ⟨Nat.le_trans (Nat.le_of_ble_eq_true rfl) hR1, Nat.le_trans (Nat.le_of_ble_eq_true rfl) hR2⟩) (su_pv hN hK hP hD [71, 72, 73, 74, 75, 76, 77, 78, 79, 80] [0, 1, 2, 3, 4] rfl rfl rfl (ci := 10) (q0 := 0) rfl rfl rfl) rfl rfl hl.1 rfl (lv_room (Nat.le_of_ble_eq_true rfl)) dL_law_2675 ⟨Nat.le_trans (by omega) hcc, Nat.le_trans (by omega) hss⟩) hP hD hS hA (fun r3 u H locs ht hP hD hS => ?_)
  obtain ⟨ht, hu⟩ := ht
  have hu := hu.symm
  subst hu
  obtain rfl : r3 = nI kk := ht.trans hw2.1
  have ht : nI kk = nI kk ∧ True := ⟨rfl, trivial⟩
  refine lv_iload hx hb dL_law_2678 (lv_at hl 1 rfl) ?_
  refine lv_icmp_eq (tgt := 2685) hx hb dL_law_2680 (by decide) (fun _ => ?_) (fun h9 => absurd (by first | exact ht.1 | rfl) h9)
  refine lv_iload hx hb dL_law_2685 (lv_at hl 1 rfl) ?_
  refine lv_if_ne (tgt := 2709) hx hb dL_law_2687 (by decide) (fun h9 => ?_) (fun h9 => ?_)
  · refine lv_goto (tgt := 2877) hx hb dL_law_2709 (by decide) ?_
    refine W.widen (k := cells + 2) (n := slots + 26) (by omega) (by omega) ?_
    exact kk9 S1 f1 fd T1 H locs ls (lawI_of hw.2.2.1 hw.2.2.2 hw2.2.2.1 hw2.2.2.2 hk0 hk1) hP hD hS (lv_sub hl [2, 3, 4, 5, 6, 7] rfl)
  · have hk := kk_0 hk4 h9
    have ho : f1 0 = su_z01 v := hw.2.1 hk
    have hv2 := hw2.2.1 hk
    refine lv_aload_n hx hb dL_law_2690 rfl (lv_at hl 4 rfl) ?_
    refine lv_iconst (v := nI 0) hx hb dL_law_2691 (by decide) ?_
    refine su_lald hx hb hK hP 0 1 rfl rfl (i := 0) (by decide) (by decide) (f1 0) rfl dL_law_2692 ?_
    refine lv_iload hx hb dL_law_2693 (lv_at hl 0 rfl) ?_
    refine lv_if_eq (tgt := 2702) hx hb dL_law_2695 (by decide) (fun cz => ?_) (fun cz => ?_)
    · have ho := ho.trans (show su_z01 v = 0 from if_pos (by rw [← hv2]; exact cz))
      refine lv_lconst (v := 0) hx hb dL_law_2702 (by decide) ?_
      refine W.lcmp hx hb dL_law_2703 ?_
      refine su_eqi 0 (by first | (rw [ho]; exact lg_self _) | (rw [ho, hv2]; exact lg_self _)) ?_
      refine lv_if_eq (tgt := 2709) hx hb dL_law_2704 (by decide) (fun _ => ?_) (fun h9 => absurd rfl h9)
      refine lv_goto (tgt := 2877) hx hb dL_law_2709 (by decide) ?_
      refine W.widen (k := cells + 2) (n := slots + 26) (by omega) (by omega) ?_
      exact kk9 S1 f1 fd T1 H locs ls (lawI_of hw.2.2.1 hw.2.2.2 hw2.2.2.1 hw2.2.2.2 hk0 hk1) hP hD hS (lv_sub hl [2, 3, 4, 5, 6, 7] rfl)
    · have ho := ho.trans (show su_z01 v = 1 from if_neg (by rw [← hv2]; exact cz))
      refine lv_lconst (v := 1) hx hb dL_law_2698 (by decide) ?_
      refine lv_goto (tgt := 2703) hx hb dL_law_2699 (by decide) ?_
      refine W.lcmp hx hb dL_law_2703 ?_
      refine su_eqi 0 (by first | (rw [ho]; exact lg_self _) | (rw [ho, hv2]; exact lg_self _)) ?_
      refine lv_if_eq (tgt := 2709) hx hb dL_law_2704 (by decide) (fun _ => ?_) (fun h9 => absurd rfl h9)
      refine lv_goto (tgt := 2877) hx hb dL_law_2709 (by decide) ?_
      refine W.widen (k := cells + 2) (n := slots + 26) (by omega) (by omega) ?_
      exact kk9 S1 f1 fd T1 H locs ls (lawI_of hw.2.2.1 hw.2.2.2 hw2.2.2.1 hw2.2.2.2 hk0 hk1) hP hD hS (lv_sub hl [2, 3, 4, 5, 6, 7] rfl)
