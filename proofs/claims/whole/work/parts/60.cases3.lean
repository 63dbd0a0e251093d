set_option maxHeartbeats 4000000 in
set_option maxRecDepth 100000 in
theorem case_exchange {p : Program} {l : Launch} {e : Env} {R : Room} {s : State} {m : MethodId} {args : Array Value} {below : List Frame} {meth : Method} {c : Code} {Q : State → Prop} {A : Nat → Prop} {D : va_G} {cI cL cZ cA cB cD : ClassId} {b L : Nat} {xs : Nat → Int32} {ad ad2 : Nat → Nat} {oo od : Nat}
    (C9 : lawC p l s m args c A D cI cL cZ cA cB cD b L xs R) {i : Nat} (hi : i + 4 ≤ L) {S : CS} {f : Nat → Int64} {fd : Nat → UInt64} {T : MS} (I9 : lawI S T) {H : Heap} {locs : List Loc} {ls : Array Slot} {cells slots : Nat} (hcc : cells + 2 ≤ R.cells) (hss : slots + 26 ≤ R.slots)
    (hP : va_P D vwCl (lawW ad ad2 cI cL cZ cA cB cD oo od S f fd T) H) (hD : va_D A (lawW ad ad2 cI cL cZ cA cB cD oo od S f fd T)) (hS : va_S A s.heap H locs) (hl : lv_has ls 9 [(5, .int (nI i)), (4, .ref od), (3, .ref oo), (2, .ref (ad2 0)), (1, .ref (ad 0)), (0, .ref b)])
    (kk9 : lawK p l e R s m args below meth c Q A D cI cL cZ cA cB cD b ad ad2 oo od i cells slots) : W p l e R s m args below meth c H locs cells slots Q (F0 m 424 ls []) := by
  obtain ⟨hx, hb, hml, hown, hts, hN, hE, hfl, hX, hbl, hbA, hA, hK, hR1, hR2, hL⟩ := C9
  obtain ⟨ok0, ok1, hL0, hL1⟩ := I9
  obtain ⟨kk, v, L0, L1, hr, hk0, hk1, hk4⟩ := su_h1_tot ((0 : Int32)) (RT := fun g n => R_exchange g n (xs (i + 2)) (xs (i + 3))) (fun g n ok => T_exchange g n (xs (i + 2)) (xs (i + 3)) ok) ok0 ok1 (xs (i + 1))
  refine lv_aload_n hx hb dL_law_424 rfl (lv_at hl 4 rfl) ?_
  refine lv_aload_n hx hb dL_law_425 rfl (lv_at hl 5 rfl) ?_
  refine lv_iload hx hb dL_law_426 (lv_at hl 0 rfl) ?_
  refine lv_iconst (v := nI 1) hx hb dL_law_428 (by decide) ?_
  refine lv_iadd hx hb dL_law_429 ?_
  refine su_eqi (nI (i + 1)) (nI_ad _ _) ?_
  refine va_sld hx hb hX hbl hbA hS (vp_in_nI (by omega) (by omega)) dL_law_430 ?_
  refine su_eqi (xs (i + 1)) (by rw [nI_clamp (by omega)]) ?_
  refine lv_aload_n hx hb dL_law_431 rfl (lv_at hl 5 rfl) ?_
  refine lv_iload hx hb dL_law_432 (lv_at hl 0 rfl) ?_
  refine lv_iconst (v := nI 2) hx hb dL_law_434 (by decide) ?_
  refine lv_iadd hx hb dL_law_435 ?_
  refine su_eqi (nI (i + 2)) (nI_ad _ _) ?_
  refine va_sld hx hb hX hbl hbA hS (vp_in_nI (by omega) (by omega)) dL_law_436 ?_
  refine su_eqi (xs (i + 2)) (by rw [nI_clamp (by omega)]) ?_
  refine lv_aload_n hx hb dL_law_437 rfl (lv_at hl 5 rfl) ?_
  refine lv_iload hx hb dL_law_438 (lv_at hl 0 rfl) ?_
  refine lv_iconst (v := nI 3) hx hb dL_law_440 (by decide) ?_
  refine lv_iadd hx hb dL_law_441 ?_
  refine su_eqi (nI (i + 3)) (nI_ad _ _) ?_
  refine va_sld hx hb hX hbl hbA hS (vp_in_nI (by omega) (by omega)) dL_law_442 ?_
  refine su_eqi (xs (i + 3)) (by rw [nI_clamp (by omega)]) ?_
  refine lv_aload_n hx hb dL_law_443 rfl (lv_at hl 2 rfl) ?_
  refine law_wL (vx_runSW (As := [.ref (ad 0), .int (xs (i + 1)), .int (xs (i + 2)), .int (xs (i + 3)), .ref oo]) (rest := []) ⟨hx, hb, hml, hown, hts⟩ (L_exchange l hfl D cI cL cZ H.size ad S oo f ok0 ok1 (xs (i + 1)) (xs (i + 2)) (xs (i + 3)) kk v L0 L1 hr) (vx_cwSW 5 hts (lw_gH q_600 q_601 q_30 q_602) rfl rfl rfl (by decide +kernel) ⟨Nat.le_trans (Nat.le_of_ble_eq_true rfl) hR1, Nat.le_trans (Nat.le_of_ble_eq_true rfl) hR2⟩) (su_psx hE hS hA hN hK hP hD [0, 2, 3, 4, 5, 6, 7, 8, 9, 10, 11, 12, 13, 14, 15, 16, 17, 18, 19, 20, 21, 22, 23, 24, 25, 26, 27, 28, 29, 30, 31, 32, 33, 34, 35, 36, 37, 38, 39, 40, 41, 42, 43, 44, 45, 46, 47, 48, 49, 50, 51, 52, 53, 54, 55, 56, 57, 58, 59, 60, 61, 62, 63, 64, 65, 66, 67, 68, 69, 70] [0, 1, 2] rfl rfl rfl) rfl rfl hl.1 rfl (lv_room (Nat.le_of_ble_eq_true rfl)) dL_law_444 ⟨Nat.le_trans (Nat.add_le_add_left (Nat.le_of_ble_eq_true rfl) _) hcc, Nat.le_trans (Nat.add_le_add_left (Nat.le_of_ble_eq_true rfl) _) hss⟩) hP hD hS hA (fun r u H locs hw hP hD hS => ?_)
  obtain ⟨S1, f1⟩ := u
  obtain rfl := hw.1
  refine lv_istore (lv' := [(6, .int (nI kk)), (5, .int (nI i)), (4, .ref od), (3, .ref oo), (2, .ref (ad2 0)), (1, .ref (ad 0)), (0, .ref b)]) hx hb dL_law_447 hl (by decide) rfl (fun ls hl => ?_)
  refine lv_aload_n hx hb dL_law_449 rfl (lv_at hl 4 rfl) ?_
  refine lv_aload_n hx hb dL_law_450 rfl (lv_at hl 6 rfl) ?_
  refine lv_iload hx hb dL_law_451 (lv_at hl 1 rfl) ?_
  refine lv_iconst (v := nI 1) hx hb dL_law_453 (by decide) ?_
  refine lv_iadd hx hb dL_law_454 ?_
  refine su_eqi (nI (i + 1)) (nI_ad _ _) ?_
  refine va_sld hx hb hX hbl hbA hS (vp_in_nI (by omega) (by omega)) dL_law_455 ?_
  refine su_eqi (xs (i + 1)) (by rw [nI_clamp (by omega)]) ?_
  refine lv_aload_n hx hb dL_law_456 rfl (lv_at hl 6 rfl) ?_
  refine lv_iload hx hb dL_law_457 (lv_at hl 1 rfl) ?_
  refine lv_iconst (v := nI 2) hx hb dL_law_459 (by decide) ?_
  refine lv_iadd hx hb dL_law_460 ?_
  refine su_eqi (nI (i + 2)) (nI_ad _ _) ?_
  refine va_sld hx hb hX hbl hbA hS (vp_in_nI (by omega) (by omega)) dL_law_461 ?_
  refine su_eqi (xs (i + 2)) (by rw [nI_clamp (by omega)]) ?_
  refine lv_aload_n hx hb dL_law_462 rfl (lv_at hl 6 rfl) ?_
  refine lv_iload hx hb dL_law_463 (lv_at hl 1 rfl) ?_
  refine lv_iconst (v := nI 3) hx hb dL_law_465 (by decide) ?_
  refine lv_iadd hx hb dL_law_466 ?_
  refine su_eqi (nI (i + 3)) (nI_ad _ _) ?_
  refine va_sld hx hb hX hbl hbA hS (vp_in_nI (by omega) (by omega)) dL_law_467 ?_
  refine su_eqi (xs (i + 3)) (by rw [nI_clamp (by omega)]) ?_
  refine law_mi (va_runV (As := [.int (xs (i + 1)), .int (xs (i + 2)), .int (xs (i + 3))]) (rest := []) ⟨hx, hb, hml, hown, hts⟩ (M_exchange l D cI cL cZ cA cB H.size ad2 T (S.1 0) (S.1 1) (S.2.1 0) (S.2.1 1) hL0 hL1 ok0 ok1 (xs (i + 1)) (xs (i + 2)) (xs (i + 3)) kk v L0 L1 hr) (cwV 3 hts (lw_gV q_1071 q_1072 q_1073 q_42 q_1074) rfl rfl rfl (by decide +kernel) ⟨Nat.le_trans (Nat.le_of_ble_eq_true rfl) hR1, Nat.le_trans (Nat.le_of_ble_eq_true rfl) hR2⟩) (su_pv hN hK hP hD [71, 72, 73, 74, 75, 76, 77, 78, 79, 80] [0, 1, 2, 3, 4] rfl rfl rfl (ci := 10) (q0 := 0) rfl rfl rfl) rfl rfl hl.1 rfl (lv_room (Nat.le_of_ble_eq_true rfl)) dL_law_468 ⟨Nat.le_trans (by omega) hcc, Nat.le_trans (by omega) hss⟩) hP hD hS hA (fun r2 T1 H locs hw2 hP hD hS => ?_)
  refine lv_istore (lv' := [(7, .int r2), (6, .int (nI kk)), (5, .int (nI i)), (4, .ref od), (3, .ref oo), (2, .ref (ad2 0)), (1, .ref (ad 0)), (0, .ref b)]) hx hb dL_law_471 hl (by decide) rfl (fun ls hl => ?_)
  refine lv_aload_n hx hb dL_law_473 rfl (lv_at hl 5 rfl) ?_
  refine law_mi (va_runV (As := []) (rest := []) ⟨hx, hb, hml, hown, hts⟩ (M_thrown l D cI cL cZ cA cB H.size ad2 T1) (cwV 0 hts (lw_gV q_1018 q_1019 q_1020 q_42 q_1021) rfl rfl rfl (by decide +kernel) ⟨Nat.le_trans (Nat.le_of_ble_eq_true rfl) hR1, Nat.le_trans (Nat.le_of_ble_eq_true rfl) hR2⟩) (su_pv hN hK hP hD [71, 72, 73, 74, 75, 76, 77, 78, 79, 80] [0, 1, 2, 3, 4] rfl rfl rfl (ci := 10) (q0 := 0) rfl rfl rfl) rfl rfl hl.1 rfl (lv_room (Nat.le_of_ble_eq_true rfl)) dL_law_474 ⟨Nat.le_trans (by omega) hcc, Nat.le_trans (by omega) hss⟩) hP hD hS hA (fun r3 u H locs ht hP hD hS => ?_)
  obtain ⟨ht, hu⟩ := ht
  have hu := hu.symm
  subst hu
  obtain rfl : r3 = nI kk := ht.trans hw2.1
  have ht : nI kk = nI kk ∧ True := ⟨rfl, trivial⟩
  refine lv_iload hx hb dL_law_477 (lv_at hl 1 rfl) ?_
  refine lv_icmp_eq (tgt := 484) hx hb dL_law_479 (by decide) (fun _ => ?_) (fun h9 => absurd (by first | exact ht.1 | rfl) h9)
  refine lv_iload hx hb dL_law_484 (lv_at hl 1 rfl) ?_
  refine lv_if_ne (tgt := 501) hx hb dL_law_486 (by decide) (fun h9 => ?_) (fun h9 => ?_)
  · refine lv_goto (tgt := 2877) hx hb dL_law_501 (by decide) ?_
    refine W.widen (k := cells + 2) (n := slots + 26) (by omega) (by omega) ?_
    exact kk9 S1 f1 fd T1 H locs ls (lawI_of hw.2.2.1 hw.2.2.2 hw2.2.2.1 hw2.2.2.2 hk0 hk1) hP hD hS (lv_sub hl [2, 3, 4, 5, 6, 7] rfl)
  · have hk := kk_0 hk4 h9
    have ho : f1 0 = v.toInt64 := hw.2.1 hk
    have hv2 := hw2.2.1 hk
    refine lv_aload_n hx hb dL_law_489 rfl (lv_at hl 4 rfl) ?_
    refine lv_iconst (v := nI 0) hx hb dL_law_490 (by decide) ?_
    refine su_lald hx hb hK hP 0 1 rfl rfl (i := 0) (by decide) (by decide) (f1 0) rfl dL_law_491 ?_
    refine lv_iload hx hb dL_law_492 (lv_at hl 0 rfl) ?_
    refine lv_i2l (v := r2.toInt64) hx hb dL_law_494 rfl ?_
    refine W.lcmp hx hb dL_law_495 ?_
    refine su_eqi 0 (by first | (rw [ho]; exact lg_self _) | (rw [ho, hv2]; exact lg_self _)) ?_
    refine lv_if_eq (tgt := 501) hx hb dL_law_496 (by decide) (fun _ => ?_) (fun h9 => absurd rfl h9)
    refine lv_goto (tgt := 2877) hx hb dL_law_501 (by decide) ?_
    refine W.widen (k := cells + 2) (n := slots + 26) (by omega) (by omega) ?_
    exact kk9 S1 f1 fd T1 H locs ls (lawI_of hw.2.2.1 hw.2.2.2 hw2.2.2.1 hw2.2.2.2 hk0 hk1) hP hD hS (lv_sub hl [2, 3, 4, 5, 6, 7] rfl)
set_option maxHeartbeats 4000000 in
set_option maxRecDepth 100000 in
theorem case_size {p : Program} {l : Launch} {e : Env} {R : Room} {s : State} {m : MethodId} {args : Array Value} {below : List Frame} {meth : Method} {c : Code} {Q : State → Prop} {A : Nat → Prop} {D : va_G} {cI cL cZ cA cB cD : ClassId} {b L : Nat} {xs : Nat → Int32} {ad ad2 : Nat → Nat} {oo od : Nat}
    (C9 : lawC p l s m args c A D cI cL cZ cA cB cD b L xs R) {i : Nat} (hi : i + 4 ≤ L) {S : CS} {f : Nat → Int64} {fd : Nat → UInt64} {T : MS} (I9 : lawI S T) {H : Heap} {locs : List Loc} {ls : Array Slot} {cells slots : Nat} (hcc : cells + 2 ≤ R.cells) (hss : slots + 26 ≤ R.slots)
    (hP : va_P D vwCl (lawW ad ad2 cI cL cZ cA cB cD oo od S f fd T) H) (hD : va_D A (lawW ad ad2 cI cL cZ cA cB cD oo od S f fd T)) (hS : va_S A s.heap H locs) (hl : lv_has ls 9 [(5, .int (nI i)), (4, .ref od), (3, .ref oo), (2, .ref (ad2 0)), (1, .ref (ad 0)), (0, .ref b)])
    (kk9 : lawK p l e R s m args below meth c Q A D cI cL cZ cA cB cD b ad ad2 oo od i cells slots) : W p l e R s m args below meth c H locs cells slots Q (F0 m 776 ls []) := by
  obtain ⟨hx, hb, hml, hown, hts, hN, hE, hfl, hX, hbl, hbA, hA, hK, hR1, hR2, hL⟩ := C9
  obtain ⟨ok0, ok1, hL0, hL1⟩ := I9
  obtain ⟨kk, v, L0, L1, hr, hk0, hk1, hk4⟩ := su_h1_tot ((0 : Int32)) (RT := fun g n => R_size g n) (fun g n ok => T_size g n ok) ok0 ok1 (xs (i + 1))
  refine lv_aload_n hx hb dL_law_776 rfl (lv_at hl 4 rfl) ?_
  refine lv_aload_n hx hb dL_law_777 rfl (lv_at hl 5 rfl) ?_
  refine lv_iload hx hb dL_law_778 (lv_at hl 0 rfl) ?_
  refine lv_iconst (v := nI 1) hx hb dL_law_780 (by decide) ?_
  refine lv_iadd hx hb dL_law_781 ?_
  refine su_eqi (nI (i + 1)) (nI_ad _ _) ?_
  refine va_sld hx hb hX hbl hbA hS (vp_in_nI (by omega) (by omega)) dL_law_782 ?_
  refine su_eqi (xs (i + 1)) (by rw [nI_clamp (by omega)]) ?_
  refine lv_aload_n hx hb dL_law_783 rfl (lv_at hl 2 rfl) ?_
  refine law_wL (vx_runSW (As := [.ref (ad 0), .int (xs (i + 1)), .ref oo]) (rest := []) ⟨hx, hb, hml, hown, hts⟩ (L_size l hfl D cI cL cZ H.size ad S oo f ok0 ok1 (xs (i + 1)) kk v L0 L1 hr) (vx_cwSW 3 hts (lw_gH q_657 q_658 q_30 q_659) rfl rfl rfl (by decide +kernel) ⟨Nat.le_trans (Nat.le_of_ble_eq_true rfl) hR1, Nat.le_trans (Nat.le_of_ble_eq_true rfl) hR2⟩) (su_psx hE hS hA hN hK hP hD [0, 2, 3, 4, 5, 6, 7, 8, 9, 10, 11, 12, 13, 14, 15, 16, 17, 18, 19, 20, 21, 22, 23, 24, 25, 26, 27, 28, 29, 30, 31, 32, 33, 34, 35, 36, 37, 38, 39, 40, 41, 42, 43, 44, 45, 46, 47, 48, 49, 50, 51, 52, 53, 54, 55, 56, 57, 58, 59, 60, 61, 62, 63, 64, 65, 66, 67, 68, 69, 70] [0, 1, 2] rfl rfl rfl) rfl rfl hl.1 rfl (lv_room (Nat.le_of_ble_eq_true rfl)) dL_law_784 ⟨Nat.le_trans (Nat.add_le_add_left (Nat.le_of_ble_eq_true rfl) _) hcc, Nat.le_trans (Nat.add_le_add_left (Nat.le_of_ble_eq_true rfl) _) hss⟩) hP hD hS hA (fun r u H locs hw hP hD hS => ?_)
  obtain ⟨S1, f1⟩ := u
  obtain rfl := hw.1
  refine lv_istore (lv' := [(6, .int (nI kk)), (5, .int (nI i)), (4, .ref od), (3, .ref oo), (2, .ref (ad2 0)), (1, .ref (ad 0)), (0, .ref b)]) hx hb dL_law_787 hl (by decide) rfl (fun ls hl => ?_)
  refine lv_aload_n hx hb dL_law_789 rfl (lv_at hl 4 rfl) ?_
  refine lv_aload_n hx hb dL_law_790 rfl (lv_at hl 6 rfl) ?_
  refine lv_iload hx hb dL_law_791 (lv_at hl 1 rfl) ?_
  refine lv_iconst (v := nI 1) hx hb dL_law_793 (by decide) ?_
  refine lv_iadd hx hb dL_law_794 ?_
  refine su_eqi (nI (i + 1)) (nI_ad _ _) ?_
  refine va_sld hx hb hX hbl hbA hS (vp_in_nI (by omega) (by omega)) dL_law_795 ?_
  refine su_eqi (xs (i + 1)) (by rw [nI_clamp (by omega)]) ?_
  refine law_mi (va_runV (As := [.int (xs (i + 1))]) (rest := []) ⟨hx, hb, hml, hown, hts⟩ (M_size l D cI cL cZ cA cB H.size ad2 T (S.1 0) (S.1 1) (S.2.1 0) (S.2.1 1) hL0 hL1 ok0 ok1 (xs (i + 1)) kk v L0 L1 hr) (cwV 1 hts (lw_gV q_1091 q_1092 q_1093 q_42 q_1094) rfl rfl rfl (by decide +kernel) ⟨Nat.le_trans (Nat.le_of_ble_eq_true rfl) hR1, Nat.le_trans (Nat.le_of_ble_eq_true rfl) hR2⟩) (su_pv hN hK hP hD [71, 72, 73, 74, 75, 76, 77, 78, 79, 80] [0, 1, 2, 3, 4] rfl rfl rfl (ci := 10) (q0 := 0) rfl rfl rfl) rfl rfl hl.1 rfl (lv_room (Nat.le_of_ble_eq_true rfl)) dL_law_796 ⟨Nat.le_trans (by omega) hcc, Nat.le_trans (by omega) hss⟩) hP hD hS hA (fun r2 T1 H locs hw2 hP hD hS => ?_)
  refine lv_istore (lv' := [(7, .int r2), (6, .int (nI kk)), (5, .int (nI i)), (4, .ref od), (3, .ref oo), (2, .ref (ad2 0)), (1, .ref (ad 0)), (0, .ref b)]) hx hb dL_law_799 hl (by decide) rfl (fun ls hl => ?_)
  refine lv_aload_n hx hb dL_law_801 rfl (lv_at hl 5 rfl) ?_
  refine law_mi (va_runV (As := []) (rest := []) ⟨hx, hb, hml, hown, hts⟩ (M_thrown l D cI cL cZ cA cB H.size ad2 T1) (cwV 0 hts (lw_gV q_1018 q_1019 q_1020 q_42 q_1021) rfl rfl rfl (by decide +kernel) ⟨Nat.le_trans (Nat.le_of_ble_eq_true rfl) hR1, Nat.le_trans (Nat.le_of_ble_eq_true rfl) hR2⟩) (su_pv hN hK hP hD [71, 72, 73, 74, 75, 76, 77, 78, 79, 80] [0, 1, 2, 3, 4] rfl rfl rfl (ci := 10) (q0 := 0) rfl rfl rfl) rfl rfl hl.1 rfl (lv_room (Nat.le_of_ble_eq_true rfl)) dL_law_802 ⟨Nat.le_trans (by omega) hcc, Nat.le_trans (by omega) hss⟩) hP hD hS hA (fun r3 u H locs ht hP hD hS => ?_)
  obtain ⟨ht, hu⟩ := ht
  have hu := hu.symm
  subst hu
  obtain rfl : r3 = nI kk := ht.trans hw2.1
  have ht : nI kk = nI kk ∧ True := ⟨rfl, trivial⟩
  refine lv_iload hx hb dL_law_805 (lv_at hl 1 rfl) ?_
  refine lv_icmp_eq (tgt := 812) hx hb dL_law_807 (by decide) (fun _ => ?_) (fun h9 => absurd (by first | exact ht.1 | rfl) h9)
  refine lv_iload hx hb dL_law_812 (lv_at hl 1 rfl) ?_
  refine lv_if_ne (tgt := 829) hx hb dL_law_814 (by decide) (fun h9 => ?_) (fun h9 => ?_)
  · refine lv_goto (tgt := 2877) hx hb dL_law_829 (by decide) ?_
    refine W.widen (k := cells + 2) (n := slots + 26) (by omega) (by omega) ?_
    exact kk9 S1 f1 fd T1 H locs ls (lawI_of hw.2.2.1 hw.2.2.2 hw2.2.2.1 hw2.2.2.2 hk0 hk1) hP hD hS (lv_sub hl [2, 3, 4, 5, 6, 7] rfl)
  · have hk := kk_0 hk4 h9
    have ho : f1 0 = v.toInt64 := hw.2.1 hk
    have hv2 := hw2.2.1 hk
    refine lv_aload_n hx hb dL_law_817 rfl (lv_at hl 4 rfl) ?_
    refine lv_iconst (v := nI 0) hx hb dL_law_818 (by decide) ?_
    refine su_lald hx hb hK hP 0 1 rfl rfl (i := 0) (by decide) (by decide) (f1 0) rfl dL_law_819 ?_
    refine lv_iload hx hb dL_law_820 (lv_at hl 0 rfl) ?_
    refine lv_i2l (v := r2.toInt64) hx hb dL_law_822 rfl ?_
    refine W.lcmp hx hb dL_law_823 ?_
    refine su_eqi 0 (by first | (rw [ho]; exact lg_self _) | (rw [ho, hv2]; exact lg_self _)) ?_
    refine lv_if_eq (tgt := 829) hx hb dL_law_824 (by decide) (fun _ => ?_) (fun h9 => absurd rfl h9)
    refine lv_goto (tgt := 2877) hx hb dL_law_829 (by decide) ?_
    refine W.widen (k := cells + 2) (n := slots + 26) (by omega) (by omega) ?_
    exact kk9 S1 f1 fd T1 H locs ls (lawI_of hw.2.2.1 hw.2.2.2 hw2.2.2.1 hw2.2.2.2 hk0 hk1) hP hD hS (lv_sub hl [2, 3, 4, 5, 6, 7] rfl)
set_option maxHeartbeats 4000000 in
set_option maxRecDepth 100000 in
theorem case_next {p : Program} {l : Launch} {e : Env} {R : Room} {s : State} {m : MethodId} {args : Array Value} {below : List Frame} {meth : Method} {c : Code} {Q : State → Prop} {A : Nat → Prop} {D : va_G} {cI cL cZ cA cB cD : ClassId} {b L : Nat} {xs : Nat → Int32} {ad ad2 : Nat → Nat} {oo od : Nat}
    (C9 : lawC p l s m args c A D cI cL cZ cA cB cD b L xs R) {i : Nat} (hi : i + 4 ≤ L) {S : CS} {f : Nat → Int64} {fd : Nat → UInt64} {T : MS} (I9 : lawI S T) {H : Heap} {locs : List Loc} {ls : Array Slot} {cells slots : Nat} (hcc : cells + 2 ≤ R.cells) (hss : slots + 26 ≤ R.slots)
    (hP : va_P D vwCl (lawW ad ad2 cI cL cZ cA cB cD oo od S f fd T) H) (hD : va_D A (lawW ad ad2 cI cL cZ cA cB cD oo od S f fd T)) (hS : va_S A s.heap H locs) (hl : lv_has ls 9 [(5, .int (nI i)), (4, .ref od), (3, .ref oo), (2, .ref (ad2 0)), (1, .ref (ad 0)), (0, .ref b)])
    (kk9 : lawK p l e R s m args below meth c Q A D cI cL cZ cA cB cD b ad ad2 oo od i cells slots) : W p l e R s m args below meth c H locs cells slots Q (F0 m 1143 ls []) := by
  obtain ⟨hx, hb, hml, hown, hts, hN, hE, hfl, hX, hbl, hbA, hA, hK, hR1, hR2, hL⟩ := C9
  obtain ⟨ok0, ok1, hL0, hL1⟩ := I9
  by_cases hz : xs (i + 3) = 0
  · obtain ⟨kk, v, L0, L1, hr, hk0, hk1, hk4⟩ := su_h1_tot ((0 : Int32)) (RT := fun g n => R_next g n (xs (i + 2)) false) (fun g n ok => T_next g n (xs (i + 2)) false ok) ok0 ok1 (xs (i + 1))
    refine lv_aload_n hx hb dL_law_1143 rfl (lv_at hl 4 rfl) ?_
    refine lv_aload_n hx hb dL_law_1144 rfl (lv_at hl 5 rfl) ?_
    refine lv_iload hx hb dL_law_1145 (lv_at hl 0 rfl) ?_
    refine lv_iconst (v := nI 1) hx hb dL_law_1147 (by decide) ?_
    refine lv_iadd hx hb dL_law_1148 ?_
    refine su_eqi (nI (i + 1)) (nI_ad _ _) ?_
    refine va_sld hx hb hX hbl hbA hS (vp_in_nI (by omega) (by omega)) dL_law_1149 ?_
    refine su_eqi (xs (i + 1)) (by rw [nI_clamp (by omega)]) ?_
    refine lv_aload_n hx hb dL_law_1150 rfl (lv_at hl 5 rfl) ?_
    refine lv_iload hx hb dL_law_1151 (lv_at hl 0 rfl) ?_
    refine lv_iconst (v := nI 2) hx hb dL_law_1153 (by decide) ?_
    refine lv_iadd hx hb dL_law_1154 ?_
    refine su_eqi (nI (i + 2)) (nI_ad _ _) ?_
    refine va_sld hx hb hX hbl hbA hS (vp_in_nI (by omega) (by omega)) dL_law_1155 ?_
    refine su_eqi (xs (i + 2)) (by rw [nI_clamp (by omega)]) ?_
    refine lv_aload_n hx hb dL_law_1156 rfl (lv_at hl 5 rfl) ?_
    refine lv_iload hx hb dL_law_1157 (lv_at hl 0 rfl) ?_
    refine lv_iconst (v := nI 3) hx hb dL_law_1159 (by decide) ?_
    refine lv_iadd hx hb dL_law_1160 ?_
    refine su_eqi (nI (i + 3)) (nI_ad _ _) ?_
    refine va_sld hx hb hX hbl hbA hS (vp_in_nI (by omega) (by omega)) dL_law_1161 ?_
    refine su_eqi (xs (i + 3)) (by rw [nI_clamp (by omega)]) ?_
    refine lv_if_eq (tgt := 1169) hx hb dL_law_1162 (by decide) (fun _ => ?_) (fun h9 => absurd hz h9)
    refine lv_iconst (v := nI 0) hx hb dL_law_1169 (by decide) ?_
    refine lv_aload_n hx hb dL_law_1170 rfl (lv_at hl 2 rfl) ?_
    refine law_wL (vx_runSW (As := [.ref (ad 0), .int (xs (i + 1)), .int (xs (i + 2)), .int (bI false), .ref oo]) (rest := []) ⟨hx, hb, hml, hown, hts⟩ (L_next l hfl D cI cL cZ H.size ad S oo f ok0 ok1 (xs (i + 1)) (xs (i + 2)) false kk v L0 L1 hr) (vx_cwSW 5 hts (lw_gH q_709 q_710 q_30 q_711) rfl rfl rfl (by decide +kernel) ⟨Nat.le_trans (Nat.le_of_ble_eq_true rfl) hR1, Nat.le_trans (Nat.le_of_ble_eq_true rfl) hR2⟩) (su_psx hE hS hA hN hK hP hD [0, 2, 3, 4, 5, 6, 7, 8, 9, 10, 11, 12, 13, 14, 15, 16, 17, 18, 19, 20, 21, 22, 23, 24, 25, 26, 27, 28, 29, 30, 31, 32, 33, 34, 35, 36, 37, 38, 39, 40, 41, 42, 43, 44, 45, 46, 47, 48, 49, 50, 51, 52, 53, 54, 55, 56, 57, 58, 59, 60, 61, 62, 63, 64, 65, 66, 67, 68, 69, 70] [0, 1, 2] rfl rfl rfl) rfl rfl hl.1 rfl (lv_room (Nat.le_of_ble_eq_true rfl)) dL_law_1171 ⟨Nat.le_trans (Nat.add_le_add_left (Nat.le_of_ble_eq_true rfl) _) hcc, Nat.le_trans (Nat.add_le_add_left (Nat.le_of_ble_eq_true rfl) _) hss⟩) hP hD hS hA (fun r u H locs hw hP hD hS => ?_)
    obtain ⟨S1, f1⟩ := u
    obtain rfl := hw.1
    refine lv_istore (lv' := [(6, .int (nI kk)), (5, .int (nI i)), (4, .ref od), (3, .ref oo), (2, .ref (ad2 0)), (1, .ref (ad 0)), (0, .ref b)]) hx hb dL_law_1174 hl (by decide) rfl (fun ls hl => ?_)
    refine lv_aload_n hx hb dL_law_1176 rfl (lv_at hl 4 rfl) ?_
    refine lv_aload_n hx hb dL_law_1177 rfl (lv_at hl 6 rfl) ?_
    refine lv_iload hx hb dL_law_1178 (lv_at hl 1 rfl) ?_
    refine lv_iconst (v := nI 1) hx hb dL_law_1180 (by decide) ?_
    refine lv_iadd hx hb dL_law_1181 ?_
    refine su_eqi (nI (i + 1)) (nI_ad _ _) ?_
    refine va_sld hx hb hX hbl hbA hS (vp_in_nI (by omega) (by omega)) dL_law_1182 ?_
    refine su_eqi (xs (i + 1)) (by rw [nI_clamp (by omega)]) ?_
    refine lv_aload_n hx hb dL_law_1183 rfl (lv_at hl 6 rfl) ?_
    refine lv_iload hx hb dL_law_1184 (lv_at hl 1 rfl) ?_
    refine lv_iconst (v := nI 2) hx hb dL_law_1186 (by decide) ?_
    refine lv_iadd hx hb dL_law_1187 ?_
    refine su_eqi (nI (i + 2)) (nI_ad _ _) ?_
    refine va_sld hx hb hX hbl hbA hS (vp_in_nI (by omega) (by omega)) dL_law_1188 ?_
    refine su_eqi (xs (i + 2)) (by rw [nI_clamp (by omega)]) ?_
    refine lv_aload_n hx hb dL_law_1189 rfl (lv_at hl 6 rfl) ?_
    refine lv_iload hx hb dL_law_1190 (lv_at hl 1 rfl) ?_
    refine lv_iconst (v := nI 3) hx hb dL_law_1192 (by decide) ?_
    refine lv_iadd hx hb dL_law_1193 ?_
    refine su_eqi (nI (i + 3)) (nI_ad _ _) ?_
    refine va_sld hx hb hX hbl hbA hS (vp_in_nI (by omega) (by omega)) dL_law_1194 ?_
    refine su_eqi (xs (i + 3)) (by rw [nI_clamp (by omega)]) ?_
    refine lv_if_eq (tgt := 1202) hx hb dL_law_1195 (by decide) (fun _ => ?_) (fun h9 => absurd hz h9)
    refine lv_iconst (v := nI 0) hx hb dL_law_1202 (by decide) ?_
    refine law_mi (va_runV (As := [.int (xs (i + 1)), .int (xs (i + 2)), .int (bI false)]) (rest := []) ⟨hx, hb, hml, hown, hts⟩ (M_next l D cI cL cZ cA cB H.size ad2 T (S.1 0) (S.1 1) (S.2.1 0) (S.2.1 1) hL0 hL1 ok0 ok1 (xs (i + 1)) (xs (i + 2)) false kk v L0 L1 hr) (cwV 3 hts (lw_gV q_1123 q_1124 q_1125 q_42 q_1126) rfl rfl rfl (by decide +kernel) ⟨Nat.le_trans (Nat.le_of_ble_eq_true rfl) hR1, Nat.le_trans (Nat.le_of_ble_eq_true rfl) hR2⟩) (su_pv hN hK hP hD [71, 72, 73, 74, 75, 76, 77, 78, 79, 80] [0, 1, 2, 3, 4] rfl rfl rfl (ci := 10) (q0 := 0) rfl rfl rfl) rfl rfl hl.1 rfl (lv_room (Nat.le_of_ble_eq_true rfl)) dL_law_1203 ⟨Nat.le_trans (by omega) hcc, Nat.le_trans (by omega) hss⟩) hP hD hS hA (fun r2 T1 H locs hw2 hP hD hS => ?_)
    refine lv_istore (lv' := [(7, .int r2), (6, .int (nI kk)), (5, .int (nI i)), (4, .ref od), (3, .ref oo), (2, .ref (ad2 0)), (1, .ref (ad 0)), (0, .ref b)]) hx hb dL_law_1206 hl (by decide) rfl (fun ls hl => ?_)
    refine lv_aload_n hx hb dL_law_1208 rfl (lv_at hl 5 rfl) ?_
    refine law_mi (va_runV (As := []) (rest := []) ⟨hx, hb, hml, hown, hts⟩ (M_thrown l D cI cL cZ cA cB H.size ad2 T1) (cwV 0 hts (lw_gV q_1018 q_1019 q_1020 q_42 q_1021) rfl rfl rfl (by decide +kernel) ⟨Nat.le_trans (Nat.le_of_ble_eq_true rfl) hR1, Nat.le_trans (Nat.le_of_ble_eq_true rfl) hR2⟩) (su_pv hN hK hP hD [71, 72, 73, 74, 75, 76, 77, 78, 79, 80] [0, 1, 2, 3, 4] rfl rfl rfl (ci := 10) (q0 := 0) rfl rfl rfl) rfl rfl hl.1 rfl (lv_room (Nat.le_of_ble_eq_true rfl)) dL_law_1209 ⟨Nat.le_trans (by omega) hcc, Nat.le_trans (by omega) hss⟩) hP hD hS hA (fun r3 u H locs ht hP hD hS => ?_)
    obtain ⟨ht, hu⟩ := ht
    have hu := hu.symm
    subst hu
    obtain rfl : r3 = nI kk := ht.trans hw2.1
    have ht : nI kk = nI kk ∧ True := ⟨rfl, trivial⟩
    refine lv_iload hx hb dL_law_1212 (lv_at hl 1 rfl) ?_
    refine lv_icmp_eq (tgt := 1219) hx hb dL_law_1214 (by decide) (fun _ => ?_) (fun h9 => absurd (by first | exact ht.1 | rfl) h9)
    refine lv_iload hx hb dL_law_1219 (lv_at hl 1 rfl) ?_
    refine lv_if_ne (tgt := 1236) hx hb dL_law_1221 (by decide) (fun h9 => ?_) (fun h9 => ?_)
    · refine lv_goto (tgt := 2877) hx hb dL_law_1236 (by decide) ?_
      refine W.widen (k := cells + 2) (n := slots + 26) (by omega) (by omega) ?_
      exact kk9 S1 f1 fd T1 H locs ls (lawI_of hw.2.2.1 hw.2.2.2 hw2.2.2.1 hw2.2.2.2 hk0 hk1) hP hD hS (lv_sub hl [2, 3, 4, 5, 6, 7] rfl)
    · have hk := kk_0 hk4 h9
      have ho : f1 0 = v.toInt64 := hw.2.1 hk
      have hv2 := hw2.2.1 hk
      refine lv_aload_n hx hb dL_law_1224 rfl (lv_at hl 4 rfl) ?_
      refine lv_iconst (v := nI 0) hx hb dL_law_1225 (by decide) ?_
      refine su_lald hx hb hK hP 0 1 rfl rfl (i := 0) (by decide) (by decide) (f1 0) rfl dL_law_1226 ?_
      refine lv_iload hx hb dL_law_1227 (lv_at hl 0 rfl) ?_
      refine lv_i2l (v := r2.toInt64) hx hb dL_law_1229 rfl ?_
      refine W.lcmp hx hb dL_law_1230 ?_
      refine su_eqi 0 (by first | (rw [ho]; exact lg_self _) | (rw [ho, hv2]; exact lg_self _)) ?_
      refine lv_if_eq (tgt := 1236) hx hb dL_law_1231 (by decide) (fun _ => ?_) (fun h9 => absurd rfl h9)
      refine lv_goto (tgt := 2877) hx hb dL_law_1236 (by decide) ?_
      refine W.widen (k := cells + 2) (n := slots + 26) (by omega) (by omega) ?_
      exact kk9 S1 f1 fd T1 H locs ls (lawI_of hw.2.2.1 hw.2.2.2 hw2.2.2.1 hw2.2.2.2 hk0 hk1) hP hD hS (lv_sub hl [2, 3, 4, 5, 6, 7] rfl)
  · obtain ⟨kk, v, L0, L1, hr, hk0, hk1, hk4⟩ := su_h1_tot ((0 : Int32)) (RT := fun g n => R_next g n (xs (i + 2)) true) (fun g n ok => T_next g n (xs (i + 2)) true ok) ok0 ok1 (xs (i + 1))
    refine lv_aload_n hx hb dL_law_1143 rfl (lv_at hl 4 rfl) ?_
    refine lv_aload_n hx hb dL_law_1144 rfl (lv_at hl 5 rfl) ?_
    refine lv_iload hx hb dL_law_1145 (lv_at hl 0 rfl) ?_
    refine lv_iconst (v := nI 1) hx hb dL_law_1147 (by decide) ?_
    refine lv_iadd hx hb dL_law_1148 ?_
    refine su_eqi (nI (i + 1)) (nI_ad _ _) ?_
    refine va_sld hx hb hX hbl hbA hS (vp_in_nI (by omega) (by omega)) dL_law_1149 ?_
    refine su_eqi (xs (i + 1)) (by rw [nI_clamp (by omega)]) ?_
    refine lv_aload_n hx hb dL_law_1150 rfl (lv_at hl 5 rfl) ?_
    refine lv_iload hx hb dL_law_1151 (lv_at hl 0 rfl) ?_
    refine lv_iconst (v := nI 2) hx hb dL_law_1153 (by decide) ?_
    refine lv_iadd hx hb dL_law_1154 ?_
    refine su_eqi (nI (i + 2)) (nI_ad _ _) ?_
    refine va_sld hx hb hX hbl hbA hS (vp_in_nI (by omega) (by omega)) dL_law_1155 ?_
    refine su_eqi (xs (i + 2)) (by rw [nI_clamp (by omega)]) ?_
    refine lv_aload_n hx hb dL_law_1156 rfl (lv_at hl 5 rfl) ?_
    refine lv_iload hx hb dL_law_1157 (lv_at hl 0 rfl) ?_
    refine lv_iconst (v := nI 3) hx hb dL_law_1159 (by decide) ?_
    refine lv_iadd hx hb dL_law_1160 ?_
    refine su_eqi (nI (i + 3)) (nI_ad _ _) ?_
    refine va_sld hx hb hX hbl hbA hS (vp_in_nI (by omega) (by omega)) dL_law_1161 ?_
    refine su_eqi (xs (i + 3)) (by rw [nI_clamp (by omega)]) ?_
    refine lv_if_eq (tgt := 1169) hx hb dL_law_1162 (by decide) (fun h9 => absurd h9 hz) (fun _ => ?_)
    refine lv_iconst (v := nI 1) hx hb dL_law_1165 (by decide) ?_
    refine lv_goto (tgt := 1170) hx hb dL_law_1166 (by decide) ?_
    refine lv_aload_n hx hb dL_law_1170 rfl (lv_at hl 2 rfl) ?_
    refine law_wL (vx_runSW (As := [.ref (ad 0), .int (xs (i + 1)), .int (xs (i + 2)), .int (bI true), .ref oo]) (rest := []) ⟨hx, hb, hml, hown, hts⟩ (L_next l hfl D cI cL cZ H.size ad S oo f ok0 ok1 (xs (i + 1)) (xs (i + 2)) true kk v L0 L1 hr) (vx_cwSW 5 hts (lw_gH q_709 q_710 q_30 q_711) rfl rfl rfl (by decide +kernel) ⟨Nat.le_trans (Nat.le_of_ble_eq_true rfl) hR1, Nat.le_trans (Nat.le_of_ble_eq_true rfl) hR2⟩) (su_psx hE hS hA hN hK hP hD [0, 2, 3, 4, 5, 6, 7, 8, 9, 10, 11, 12, 13, 14, 15, 16, 17, 18, 19, 20, 21, 22, 23, 24, 25, 26, 27, 28, 29, 30, 31, 32, 33, 34, 35, 36, 37, 38, 39, 40, 41, 42, 43, 44, 45, 46, 47, 48, 49, 50, 51, 52, 53, 54, 55, 56, 57, 58, 59, 60, 61, 62, 63, 64, 65, 66, 67, 68, 69, 70] [0, 1, 2] rfl rfl rfl) rfl rfl hl.1 rfl (lv_room (Nat.le_of_ble_eq_true rfl)) dL_law_1171 ⟨Nat.le_trans (Nat.add_le_add_left (Nat.le_of_ble_eq_true rfl) _) hcc, Nat.le_trans (Nat.add_le_add_left (Nat.le_of_ble_eq_true rfl) _) hss⟩) hP hD hS hA (fun r u H locs hw hP hD hS => ?_)
    obtain ⟨S1, f1⟩ := u
    obtain rfl := hw.1
    refine lv_istore (lv' := [(6, .int (nI kk)), (5, .int (nI i)), (4, .ref od), (3, .ref oo), (2, .ref (ad2 0)), (1, .ref (ad 0)), (0, .ref b)]) hx hb dL_law_1174 hl (by decide) rfl (fun ls hl => ?_)
    refine lv_aload_n hx hb dL_law_1176 rfl (lv_at hl 4 rfl) ?_
    refine lv_aload_n hx hb dL_law_1177 rfl (lv_at hl 6 rfl) ?_
    refine lv_iload hx hb dL_law_1178 (lv_at hl 1 rfl) ?_
    refine lv_iconst (v := nI 1) hx hb dL_law_1180 (by decide) ?_
    refine lv_iadd hx hb dL_law_1181 ?_
    refine su_eqi (nI (i + 1)) (nI_ad _ _) ?_
    refine va_sld hx hb hX hbl hbA hS (vp_in_nI (by omega) (by omega)) dL_law_1182 ?_
    refine su_eqi (xs (i + 1)) (by rw [nI_clamp (by omega)]) ?_
    refine lv_aload_n hx hb dL_law_1183 rfl (lv_at hl 6 rfl) ?_
    refine lv_iload hx hb dL_law_1184 (lv_at hl 1 rfl) ?_
    refine lv_iconst (v := nI 2) hx hb dL_law_1186 (by decide) ?_
    refine lv_iadd hx hb dL_law_1187 ?_
    refine su_eqi (nI (i + 2)) (nI_ad _ _) ?_
    refine va_sld hx hb hX hbl hbA hS (vp_in_nI (by omega) (by omega)) dL_law_1188 ?_
    refine su_eqi (xs (i + 2)) (by rw [nI_clamp (by omega)]) ?_
    refine lv_aload_n hx hb dL_law_1189 rfl (lv_at hl 6 rfl) ?_
    refine lv_iload hx hb dL_law_1190 (lv_at hl 1 rfl) ?_
    refine lv_iconst (v := nI 3) hx hb dL_law_1192 (by decide) ?_
    refine lv_iadd hx hb dL_law_1193 ?_
    refine su_eqi (nI (i + 3)) (nI_ad _ _) ?_
    refine va_sld hx hb hX hbl hbA hS (vp_in_nI (by omega) (by omega)) dL_law_1194 ?_
    refine su_eqi (xs (i + 3)) (by rw [nI_clamp (by omega)]) ?_
    refine lv_if_eq (tgt := 1202) hx hb dL_law_1195 (by decide) (fun h9 => absurd h9 hz) (fun _ => ?_)
    refine lv_iconst (v := nI 1) hx hb dL_law_1198 (by decide) ?_
    refine lv_goto (tgt := 1203) hx hb dL_law_1199 (by decide) ?_
    refine law_mi (va_runV (As := [.int (xs (i + 1)), .int (xs (i + 2)), .int (bI true)]) (rest := []) ⟨hx, hb, hml, hown, hts⟩ (M_next l D cI cL cZ cA cB H.size ad2 T (S.1 0) (S.1 1) (S.2.1 0) (S.2.1 1) hL0 hL1 ok0 ok1 (xs (i + 1)) (xs (i + 2)) true kk v L0 L1 hr) (cwV 3 hts (lw_gV q_1123 q_1124 q_1125 q_42 q_1126) rfl rfl rfl (by decide +kernel) ⟨Nat.le_trans (Nat.le_of_ble_eq_true rfl) hR1, Nat.le_trans (Nat.le_of_ble_eq_true rfl) hR2⟩) (su_pv hN hK hP hD [71, 72, 73, 74, 75, 76, 77, 78, 79, 80] [0, 1, 2, 3, 4] rfl rfl rfl (ci := 10) (q0 := 0) rfl rfl rfl) rfl rfl hl.1 rfl (lv_room (Nat.le_of_ble_eq_true rfl)) dL_law_1203 ⟨Nat.le_trans (by omega) hcc, Nat.le_trans (by omega) hss⟩) hP hD hS hA (fun r2 T1 H locs hw2 hP hD hS => ?_)
    refine lv_istore (lv' := [(7, .int r2), (6, .int (nI kk)), (5, .int (nI i)), (4, .ref od), (3, .ref oo), (2, .ref (ad2 0)), (1, .ref (ad 0)), (0, .ref b)]) hx hb dL_law_1206 hl (by decide) rfl (fun ls hl => ?_)
    refine lv_aload_n hx hb dL_law_1208 rfl (lv_at hl 5 rfl) ?_
    refine law_mi (va_runV (As := []) (rest := []) ⟨hx, hb, hml, hown, hts⟩ (M_thrown l D cI cL cZ cA cB H.size ad2 T1) (cwV 0 hts (lw_gV q_1018 q_1019 q_1020 q_42 q_1021) rfl rfl rfl (by decide +kernel) ⟨Nat.le_trans (Nat.le_of_ble_eq_true rfl) hR1, Nat.le_trans (Nat.le_of_ble_eq_true rfl) hR2⟩) (su_pv hN hK hP hD [71, 72, 73, 74, 75, 76, 77, 78, 79, 80] [0, 1, 2, 3, 4] rfl rfl rfl (ci := 10) (q0 := 0) rfl rfl rfl) rfl rfl hl.1 rfl (lv_room (Nat.le_of_ble_eq_true rfl)) dL_law_1209 ⟨Nat.le_trans (by omega) hcc, Nat.le_trans (by omega) hss⟩) hP hD hS hA (fun r3 u H locs ht hP hD hS => ?_)
    obtain ⟨ht, hu⟩ := ht
    have hu := hu.symm
    subst hu
    obtain rfl : r3 = nI kk := ht.trans hw2.1
    have ht : nI kk = nI kk ∧ True := ⟨rfl, trivial⟩
    refine lv_iload hx hb dL_law_1212 (lv_at hl 1 rfl) ?_
    refine lv_icmp_eq (tgt := 1219) hx hb dL_law_1214 (by decide) (fun _ => ?_) (fun h9 => absurd (by first | exact ht.1 | rfl) h9)
    refine lv_iload hx hb dL_law_1219 (lv_at hl 1 rfl) ?_
    refine lv_if_ne (tgt := 1236) hx hb dL_law_1221 (by decide) (fun h9 => ?_) (fun h9 => ?_)
    · refine lv_goto (tgt := 2877) hx hb dL_law_1236 (by decide) ?_
      refine W.widen (k := cells + 2) (n := slots + 26) (by omega) (by omega) ?_
      exact kk9 S1 f1 fd T1 H locs ls (lawI_of hw.2.2.1 hw.2.2.2 hw2.2.2.1 hw2.2.2.2 hk0 hk1) hP hD hS (lv_sub hl [2, 3, 4, 5, 6, 7] rfl)
    · have hk := kk_0 hk4 h9
      have ho : f1 0 = v.toInt64 := hw.2.1 hk
      have hv2 := hw2.2.1 hk
      refine lv_aload_n hx hb dL_law_1224 rfl (lv_at hl 4 rfl) ?_
      refine lv_iconst (v := nI 0) hx hb dL_law_1225 (by decide) ?_
      refine su_lald hx hb hK hP 0 1 rfl rfl (i := 0) (by decide) (by decide) (f1 0) rfl dL_law_1226 ?_
      refine lv_iload hx hb dL_law_1227 (lv_at hl 0 rfl) ?_
      refine lv_i2l (v := r2.toInt64) hx hb dL_law_1229 rfl ?_
      refine W.lcmp hx hb dL_law_1230 ?_
      refine su_eqi 0 (by first | (rw [ho]; exact lg_self _) | (rw [ho, hv2]; exact lg_self _)) ?_
      refine lv_if_eq (tgt := 1236) hx hb dL_law_1231 (by decide) (fun _ => ?_) (fun h9 => absurd rfl h9)
      refine lv_goto (tgt := 2877) hx hb dL_law_1236 (by decide) ?_
      refine W.widen (k := cells + 2) (n := slots + 26) (by omega) (by omega) ?_
      exact kk9 S1 f1 fd T1 H locs ls (lawI_of hw.2.2.1 hw.2.2.2 hw2.2.2.1 hw2.2.2.2 hk0 hk1) hP hD hS (lv_sub hl [2, 3, 4, 5, 6, 7] rfl)
set_option maxHeartbeats 4000000 in
set_option maxRecDepth 100000 in
theorem case_most {p : Program} {l : Launch} {e : Env} {R : Room} {s : State} {m : MethodId} {args : Array Value} {below : List Frame} {meth : Method} {c : Code} {Q : State → Prop} {A : Nat → Prop} {D : va_G} {cI cL cZ cA cB cD : ClassId} {b L : Nat} {xs : Nat → Int32} {ad ad2 : Nat → Nat} {oo od : Nat}
    (C9 : lawC p l s m args c A D cI cL cZ cA cB cD b L xs R) {i : Nat} (hi : i + 4 ≤ L) {S : CS} {f : Nat → Int64} {fd : Nat → UInt64} {T : MS} (I9 : lawI S T) {H : Heap} {locs : List Loc} {ls : Array Slot} {cells slots : Nat} (hcc : cells + 2 ≤ R.cells) (hss : slots + 26 ≤ R.slots)
    (hP : va_P D vwCl (lawW ad ad2 cI cL cZ cA cB cD oo od S f fd T) H) (hD : va_D A (lawW ad ad2 cI cL cZ cA cB cD oo od S f fd T)) (hS : va_S A s.heap H locs) (hl : lv_has ls 9 [(5, .int (nI i)), (4, .ref od), (3, .ref oo), (2, .ref (ad2 0)), (1, .ref (ad 0)), (0, .ref b)])
    (kk9 : lawK p l e R s m args below meth c Q A D cI cL cZ cA cB cD b ad ad2 oo od i cells slots) : W p l e R s m args below meth c H locs cells slots Q (F0 m 1610 ls []) := by
  obtain ⟨hx, hb, hml, hown, hts, hN, hE, hfl, hX, hbl, hbA, hA, hK, hR1, hR2, hL⟩ := C9
  obtain ⟨ok0, ok1, hL0, hL1⟩ := I9
  obtain ⟨kk, v, L0, L1, hr, hk0, hk1, hk4⟩ := su_h1_tot ((0 : Int32)) (RT := fun g n => R_most g n) (fun g n ok => T_most g n ok) ok0 ok1 (xs (i + 1))
  refine lv_aload_n hx hb dL_law_1610 rfl (lv_at hl 4 rfl) ?_
  refine lv_aload_n hx hb dL_law_1611 rfl (lv_at hl 5 rfl) ?_
  refine lv_iload hx hb dL_law_1612 (lv_at hl 0 rfl) ?_
  refine lv_iconst (v := nI 1) hx hb dL_law_1614 (by decide) ?_
  refine lv_iadd hx hb dL_law_1615 ?_
  refine su_eqi (nI (i + 1)) (nI_ad _ _) ?_
  refine va_sld hx hb hX hbl hbA hS (vp_in_nI (by omega) (by omega)) dL_law_1616 ?_
  refine su_eqi (xs (i + 1)) (by rw [nI_clamp (by omega)]) ?_
  refine lv_aload_n hx hb dL_law_1617 rfl (lv_at hl 2 rfl) ?_
  refine law_wL (vx_runSW (As := [.ref (ad 0), .int (xs (i + 1)), .ref oo]) (rest := []) ⟨hx, hb, hml, hown, hts⟩ (L_most l hfl D cI cL cZ H.size ad S oo f ok0 ok1 (xs (i + 1)) kk v L0 L1 hr) (vx_cwSW 3 hts (lw_gH q_765 q_766 q_30 q_767) rfl rfl rfl (by decide +kernel) ⟨Nat.le_trans (Nat.le_of_ble_eq_true rfl) hR1, Nat.le_trans (Nat.le_of_ble_eq_true rfl) hR2⟩) (su_psx hE hS hA hN hK hP hD [0, 2, 3, 4, 5, 6, 7, 8, 9, 10, 11, 12, 13, 14, 15, 16, 17, 18, 19, 20, 21, 22, 23, 24, 25, 26, 27, 28, 29, 30, 31, 32, 33, 34, 35, 36, 37, 38, 39, 40, 41, 42, 43, 44, 45, 46, 47, 48, 49, 50, 51, 52, 53, 54, 55, 56, 57, 58, 59, 60, 61, 62, 63, 64, 65, 66, 67, 68, 69, 70] [0, 1, 2] rfl rfl rfl) rfl rfl hl.1 rfl (lv_room (Nat.le_of_ble_eq_true rfl)) dL_law_1618 ⟨Nat.le_trans (Nat.add_le_add_left (Nat.le_of_ble_eq_true rfl) _) hcc, Nat.le_trans (Nat.add_le_add_left (Nat.le_of_ble_eq_true rfl) _) hss⟩) hP hD hS hA (fun r u H locs hw hP hD hS => ?_)
  obtain ⟨S1, f1⟩ := u
  obtain rfl := hw.1
  refine lv_istore (lv' := [(6, .int (nI kk)), (5, .int (nI i)), (4, .ref od), (3, .ref oo), (2, .ref (ad2 0)), (1, .ref (ad 0)), (0, .ref b)]) hx hb dL_law_1621 hl (by decide) rfl (fun ls hl => ?_)
  refine lv_aload_n hx hb dL_law_1623 rfl (lv_at hl 4 rfl) ?_
  refine lv_aload_n hx hb dL_law_1624 rfl (lv_at hl 6 rfl) ?_
  refine lv_iload hx hb dL_law_1625 (lv_at hl 1 rfl) ?_
  refine lv_iconst (v := nI 1) hx hb dL_law_1627 (by decide) ?_
  refine lv_iadd hx hb dL_law_1628 ?_
  refine su_eqi (nI (i + 1)) (nI_ad _ _) ?_
  refine va_sld hx hb hX hbl hbA hS (vp_in_nI (by omega) (by omega)) dL_law_1629 ?_
  refine su_eqi (xs (i + 1)) (by rw [nI_clamp (by omega)]) ?_
  refine law_mi (va_runV (As := [.int (xs (i + 1))]) (rest := []) ⟨hx, hb, hml, hown, hts⟩ (M_most l D cI cL cZ cA cB H.size ad2 T (S.1 0) (S.1 1) (S.2.1 0) (S.2.1 1) hL0 hL1 ok0 ok1 (xs (i + 1)) kk v L0 L1 hr) (cwV 1 hts (lw_gV q_1147 q_1148 q_1149 q_42 q_1150) rfl rfl rfl (by decide +kernel) ⟨Nat.le_trans (Nat.le_of_ble_eq_true rfl) hR1, Nat.le_trans (Nat.le_of_ble_eq_true rfl) hR2⟩) (su_pv hN hK hP hD [71, 72, 73, 74, 75, 76, 77, 78, 79, 80] [0, 1, 2, 3, 4] rfl rfl rfl (ci := 10) (q0 := 0) rfl rfl rfl) rfl rfl hl.1 rfl (lv_room (Nat.le_of_ble_eq_true rfl)) dL_law_1630 ⟨Nat.le_trans (by omega) hcc, Nat.le_trans (by omega) hss⟩) hP hD hS hA (fun r2 T1 H locs hw2 hP hD hS => ?_)
  refine lv_istore (lv' := [(7, .int r2), (6, .int (nI kk)), (5, .int (nI i)), (4, .ref od), (3, .ref oo), (2, .ref (ad2 0)), (1, .ref (ad 0)), (0, .ref b)]) hx hb dL_law_1633 hl (by decide) rfl (fun ls hl => ?_)
  refine lv_aload_n hx hb dL_law_1635 rfl (lv_at hl 5 rfl) ?_
  refine law_mi (va_runV (As := []) (rest := []) ⟨hx, hb, hml, hown, hts⟩ (M_thrown l D cI cL cZ cA cB H.size ad2 T1) (cwV 0 hts (lw_gV q_1018 q_1019 q_1020 q_42 q_1021) rfl rfl rfl (by decide +kernel) ⟨Nat.le_trans (Nat.le_of_ble_eq_true rfl) hR1, Nat.le_trans (Nat.le_of_ble_eq_true rfl) hR2⟩) (su_pv hN hK hP hD [71, 72, 73, 74, 75, 76, 77, 78, 79, 80] [0, 1, 2, 3, 4] rfl rfl rfl (ci := 10) (q0 := 0) rfl rfl rfl) rfl rfl hl.1 rfl (lv_room (Nat.le_of_ble_eq_true rfl)) dL_law_1636 ⟨Nat.le_trans (by omega) hcc, Nat.le_trans (by omega) hss⟩) hP hD hS hA (fun r3 u H locs ht hP hD hS => ?_)
  obtain ⟨ht, hu⟩ := ht
  have hu := hu.symm
  subst hu
  obtain rfl : r3 = nI kk := ht.trans hw2.1
  have ht : nI kk = nI kk ∧ True := ⟨rfl, trivial⟩
  refine lv_iload hx hb dL_law_1639 (lv_at hl 1 rfl) ?_
  refine lv_icmp_eq (tgt := 1646) hx hb dL_law_1641 (by decide) (fun _ => ?_) (fun h9 => absurd (by first | exact ht.1 | rfl) h9)
  refine lv_iload hx hb dL_law_1646 (lv_at hl 1 rfl) ?_
  refine lv_if_ne (tgt := 1663) hx hb dL_law_1648 (by decide) (fun h9 => ?_) (fun h9 => ?_)
  · refine lv_goto (tgt := 2877) hx hb dL_law_1663 (by decide) ?_
    refine W.widen (k := cells + 2) (n := slots + 26) (by omega) (by omega) ?_
    exact kk9 S1 f1 fd T1 H locs ls (lawI_of hw.2.2.1 hw.2.2.2 hw2.2.2.1 hw2.2.2.2 hk0 hk1) hP hD hS (lv_sub hl [2, 3, 4, 5, 6, 7] rfl)
  · have hk := kk_0 hk4 h9
    have ho : f1 0 = v.toInt64 := hw.2.1 hk
    have hv2 := hw2.2.1 hk
    refine lv_aload_n hx hb dL_law_1651 rfl (lv_at hl 4 rfl) ?_
    refine lv_iconst (v := nI 0) hx hb dL_law_1652 (by decide) ?_
    refine su_lald hx hb hK hP 0 1 rfl rfl (i := 0) (by decide) (by decide) (f1 0) rfl dL_law_1653 ?_
    refine lv_iload hx hb dL_law_1654 (lv_at hl 0 rfl) ?_
    refine lv_i2l (v := r2.toInt64) hx hb dL_law_1656 rfl ?_
    refine W.lcmp hx hb dL_law_1657 ?_
    refine su_eqi 0 (by first | (rw [ho]; exact lg_self _) | (rw [ho, hv2]; exact lg_self _)) ?_
    refine lv_if_eq (tgt := 1663) hx hb dL_law_1658 (by decide) (fun _ => ?_) (fun h9 => absurd rfl h9)
    refine lv_goto (tgt := 2877) hx hb dL_law_1663 (by decide) ?_
    refine W.widen (k := cells + 2) (n := slots + 26) (by omega) (by omega) ?_
    exact kk9 S1 f1 fd T1 H locs ls (lawI_of hw.2.2.1 hw.2.2.2 hw2.2.2.1 hw2.2.2.2 hk0 hk1) hP hD hS (lv_sub hl [2, 3, 4, 5, 6, 7] rfl)
set_option maxHeartbeats 4000000 in
set_option maxRecDepth 100000 in
theorem case_meanWays {p : Program} {l : Launch} {e : Env} {R : Room} {s : State} {m : MethodId} {args : Array Value} {below : List Frame} {meth : Method} {c : Code} {Q : State → Prop} {A : Nat → Prop} {D : va_G} {cI cL cZ cA cB cD : ClassId} {b L : Nat} {xs : Nat → Int32} {ad ad2 : Nat → Nat} {oo od : Nat}
    (C9 : lawC p l s m args c A D cI cL cZ cA cB cD b L xs R) {i : Nat} (hi : i + 4 ≤ L) {S : CS} {f : Nat → Int64} {fd : Nat → UInt64} {T : MS} (I9 : lawI S T) {H : Heap} {locs : List Loc} {ls : Array Slot} {cells slots : Nat} (hcc : cells + 2 ≤ R.cells) (hss : slots + 26 ≤ R.slots)
    (hP : va_P D vwCl (lawW ad ad2 cI cL cZ cA cB cD oo od S f fd T) H) (hD : va_D A (lawW ad ad2 cI cL cZ cA cB cD oo od S f fd T)) (hS : va_S A s.heap H locs) (hl : lv_has ls 9 [(5, .int (nI i)), (4, .ref od), (3, .ref oo), (2, .ref (ad2 0)), (1, .ref (ad 0)), (0, .ref b)])
    (kk9 : lawK p l e R s m args below meth c Q A D cI cL cZ cA cB cD b ad ad2 oo od i cells slots) : W p l e R s m args below meth c H locs cells slots Q (F0 m 1964 ls []) := by
  obtain ⟨hx, hb, hml, hown, hts, hN, hE, hfl, hX, hbl, hbA, hA, hK, hR1, hR2, hL⟩ := C9
  obtain ⟨ok0, ok1, hL0, hL1⟩ := I9
  obtain ⟨kk, v, L0, L1, hr, hk0, hk1, hk4⟩ := su_h1_tot ((0 : UInt64)) (RT := fun g n => R_meanWays g n) (fun g n ok => T_meanWays g n ok) ok0 ok1 (xs (i + 1))
  refine lv_aload_n hx hb dL_law_1964 rfl (lv_at hl 4 rfl) ?_
  refine lv_aload_n hx hb dL_law_1965 rfl (lv_at hl 5 rfl) ?_
  refine lv_iload hx hb dL_law_1966 (lv_at hl 0 rfl) ?_
  refine lv_iconst (v := nI 1) hx hb dL_law_1968 (by decide) ?_
  refine lv_iadd hx hb dL_law_1969 ?_
  refine su_eqi (nI (i + 1)) (nI_ad _ _) ?_
  refine va_sld hx hb hX hbl hbA hS (vp_in_nI (by omega) (by omega)) dL_law_1970 ?_
  refine su_eqi (xs (i + 1)) (by rw [nI_clamp (by omega)]) ?_
  refine lv_aload hx hb dL_law_1971 (lv_at hl 1 rfl) ?_
  refine law_wD (vx_runSW (As := [.ref (ad 0), .int (xs (i + 1)), .ref od]) (rest := []) ⟨hx, hb, hml, hown, hts⟩ (L_meanWays l hfl D cI cL cZ cD H.size ad S od fd ok0 ok1 (xs (i + 1)) kk v L0 L1 hr) (vx_cwSW 3 hts (lw_gH q_825 q_826 q_30 q_827) rfl rfl rfl (by decide +kernel) ⟨Nat.le_trans (Nat.le_of_ble_eq_true rfl) hR1, Nat.le_trans (Nat.le_of_ble_eq_true rfl) hR2⟩) (su_psx hE hS hA hN hK hP hD [1, 2, 3, 4, 5, 6, 7, 8, 9, 10, 11, 12, 13, 14, 15, 16, 17, 18, 19, 20, 21, 22, 23, 24, 25, 26, 27, 28, 29, 30, 31, 32, 33, 34, 35, 36, 37, 38, 39, 40, 41, 42, 43, 44, 45, 46, 47, 48, 49, 50, 51, 52, 53, 54, 55, 56, 57, 58, 59, 60, 61, 62, 63, 64, 65, 66, 67, 68, 69, 70] [5, 0, 1, 2] rfl rfl rfl) rfl rfl hl.1 rfl (lv_room (Nat.le_of_ble_eq_true rfl)) dL_law_1973 ⟨Nat.le_trans (Nat.add_le_add_left (Nat.le_of_ble_eq_true rfl) _) hcc, Nat.le_trans (Nat.add_le_add_left (Nat.le_of_ble_eq_true rfl) _) hss⟩) hP hD hS hA (fun r u H locs hw hP hD hS => ?_)
  obtain ⟨S1, f1⟩ := u
  obtain rfl := hw.1
  refine lv_istore (lv' := [(6, .int (nI kk)), (5, .int (nI i)), (4, .ref od), (3, .ref oo), (2, .ref (ad2 0)), (1, .ref (ad 0)), (0, .ref b)]) hx hb dL_law_1976 hl (by decide) rfl (fun ls hl => ?_)
  refine lv_aload_n hx hb dL_law_1978 rfl (lv_at hl 4 rfl) ?_
  refine lv_aload_n hx hb dL_law_1979 rfl (lv_at hl 6 rfl) ?_
  refine lv_iload hx hb dL_law_1980 (lv_at hl 1 rfl) ?_
  refine lv_iconst (v := nI 1) hx hb dL_law_1982 (by decide) ?_
  refine lv_iadd hx hb dL_law_1983 ?_
  refine su_eqi (nI (i + 1)) (nI_ad _ _) ?_
  refine va_sld hx hb hX hbl hbA hS (vp_in_nI (by omega) (by omega)) dL_law_1984 ?_
  refine su_eqi (xs (i + 1)) (by rw [nI_clamp (by omega)]) ?_
  refine law_md (va_runV (As := [.int (xs (i + 1))]) (rest := []) ⟨hx, hb, hml, hown, hts⟩ (M_meanWays l D cI cL cZ cA cB H.size ad2 T (S.1 0) (S.1 1) (S.2.1 0) (S.2.1 1) hL0 hL1 ok0 ok1 (xs (i + 1)) kk v L0 L1 hr) (cwV 1 hts (lw_gV q_1167 q_1168 q_1169 q_42 q_1170) rfl rfl rfl (by decide +kernel) ⟨Nat.le_trans (Nat.le_of_ble_eq_true rfl) hR1, Nat.le_trans (Nat.le_of_ble_eq_true rfl) hR2⟩) (su_pv hN hK hP hD [71, 72, 73, 74, 75, 76, 77, 78, 79, 80] [0, 1, 2, 3, 4] rfl rfl rfl (ci := 10) (q0 := 0) rfl rfl rfl) rfl rfl hl.1 rfl (lv_room (Nat.le_of_ble_eq_true rfl)) dL_law_1985 ⟨Nat.le_trans (by omega) hcc, Nat.le_trans (by omega) hss⟩) hP hD hS hA (fun r2 T1 H locs hw2 hP hD hS => ?_)
  refine lv_dstore (lv' := [(7, .double r2), (6, .int (nI kk)), (5, .int (nI i)), (4, .ref od), (3, .ref oo), (2, .ref (ad2 0)), (1, .ref (ad 0)), (0, .ref b)]) hx hb dL_law_1988 hl (by decide) rfl (fun ls hl => ?_)
  refine lv_aload_n hx hb dL_law_1990 rfl (lv_at hl 5 rfl) ?_
  refine law_mi (va_runV (As := []) (rest := []) ⟨hx, hb, hml, hown, hts⟩ (M_thrown l D cI cL cZ cA cB H.size ad2 T1) (cwV 0 hts (lw_gV q_1018 q_1019 q_1020 q_42 q_1021) rfl rfl rfl (by decide +kernel) ⟨Nat.le_trans (Nat.le_of_ble_eq_true rfl) hR1, Nat.le_trans (Nat.le_of_ble_eq_true rfl) hR2⟩) (su_pv hN hK hP hD [71, 72, 73, 74, 75, 76, 77, 78, 79, 80] [0, 1, 2, 3, 4] rfl rfl rfl (ci := 10) (q0 := 0) rfl rfl rfl) rfl rfl hl.1 rfl (lv_room (Nat.le_of_ble_eq_true rfl)) dL_law_1991 ⟨Nat.le_trans (by omega) hcc, Nat.le_trans (by omega) hss⟩) hP hD hS hA (fun r3 u H locs ht hP hD hS => ?_)
  obtain ⟨ht, hu⟩ := ht
  have hu := hu.symm
  subst hu
  obtain rfl : r3 = nI kk := ht.trans hw2.1
  have ht : nI kk = nI kk ∧ True := ⟨rfl, trivial⟩
  refine lv_iload hx hb dL_law_1994 (lv_at hl 1 rfl) ?_
  refine lv_icmp_eq (tgt := 2001) hx hb dL_law_1996 (by decide) (fun _ => ?_) (fun h9 => absurd (by first | exact ht.1 | rfl) h9)
  refine lv_iload hx hb dL_law_2001 (lv_at hl 1 rfl) ?_
  refine lv_if_ne (tgt := 2038) hx hb dL_law_2003 (by decide) (fun h9 => ?_) (fun h9 => ?_)
  · refine lv_goto (tgt := 2877) hx hb dL_law_2038 (by decide) ?_
    refine W.widen (k := cells + 2) (n := slots + 26) (by omega) (by omega) ?_
    exact kk9 S1 f f1 T1 H locs ls (lawI_of hw.2.2.1 hw.2.2.2 hw2.2.2.1 hw2.2.2.2 hk0 hk1) hP hD hS (lv_sub hl [2, 3, 4, 5, 6, 7] rfl)
  · have hk := kk_0 hk4 h9
    have ho : f1 0 = v := hw.2.1 hk
    have hv2 := hw2.2.1 hk
    obtain ⟨v2, hv3⟩ : ∃ v2, v2 = v := ⟨_, rfl⟩
    rw [← hv3] at ho hv2
    obtain ⟨w9, hw9⟩ : ∃ w9, w9 = Op.cmpValue (FP.dcmp v2 v2) CmpOp.l := ⟨_, rfl⟩
    refine lv_aload hx hb dL_law_2006 (lv_at hl 3 rfl) ?_
    refine lv_iconst (v := nI 0) hx hb dL_law_2008 (by decide) ?_
    refine va_dald hx hb hK hP 1 5 rfl rfl (vp_in_nI (show 0 < 1 by decide) (by decide)) dL_law_2009 ?_
    refine su_eqd v2 (by rw [nI_clamp (by decide)]; exact ho) ?_
    refine lv_dload hx hb dL_law_2010 (lv_at hl 0 rfl) ?_
    refine lv_dcmp hx hb dL_law_2012 ?_
    refine su_eqi w9 (by first | exact hw9.symm | (rw [hv2]; exact hw9.symm)) ?_
    refine lv_if_eq (tgt := 2038) hx hb dL_law_2013 (by decide) (fun hw0 => ?_) (fun hw0 => ?_)
    · refine lv_goto (tgt := 2877) hx hb dL_law_2038 (by decide) ?_
      refine W.widen (k := cells + 2) (n := slots + 26) (by omega) (by omega) ?_
      exact kk9 S1 f f1 T1 H locs ls (lawI_of hw.2.2.1 hw.2.2.2 hw2.2.2.1 hw2.2.2.2 hk0 hk1) hP hD hS (lv_sub hl [2, 3, 4, 5, 6, 7] rfl)
    · refine lv_aload hx hb dL_law_2016 (lv_at hl 3 rfl) ?_
      refine lv_iconst (v := nI 0) hx hb dL_law_2018 (by decide) ?_
      refine va_dald hx hb hK hP 1 5 rfl rfl (vp_in_nI (show 0 < 1 by decide) (by decide)) dL_law_2019 ?_
      refine su_eqd v2 (by rw [nI_clamp (by decide)]; exact ho) ?_
      refine lv_aload hx hb dL_law_2020 (lv_at hl 3 rfl) ?_
      refine lv_iconst (v := nI 0) hx hb dL_law_2022 (by decide) ?_
      refine va_dald hx hb hK hP 1 5 rfl rfl (vp_in_nI (show 0 < 1 by decide) (by decide)) dL_law_2023 ?_
      refine su_eqd v2 (by rw [nI_clamp (by decide)]; exact ho) ?_
      refine lv_dcmp hx hb dL_law_2024 ?_
      refine su_eqi w9 (by first | exact hw9.symm | (rw [hv2]; exact hw9.symm)) ?_
      refine lv_if_eq (tgt := 2036) hx hb dL_law_2025 (by decide) (fun h9 => absurd h9 hw0) (fun _ => ?_)
      refine lv_dload hx hb dL_law_2028 (lv_at hl 0 rfl) ?_
      refine lv_dload hx hb dL_law_2030 (lv_at hl 0 rfl) ?_
      refine lv_dcmp hx hb dL_law_2032 ?_
      refine su_eqi w9 (by first | exact hw9.symm | (rw [hv2]; exact hw9.symm)) ?_
      refine lv_if_ne (tgt := 2038) hx hb dL_law_2033 (by decide) (fun _ => ?_) (fun h9 => absurd h9 hw0)
      refine lv_goto (tgt := 2877) hx hb dL_law_2038 (by decide) ?_
      refine W.widen (k := cells + 2) (n := slots + 26) (by omega) (by omega) ?_
      exact kk9 S1 f f1 T1 H locs ls (lawI_of hw.2.2.1 hw.2.2.2 hw2.2.2.1 hw2.2.2.2 hk0 hk1) hP hD hS (lv_sub hl [2, 3, 4, 5, 6, 7] rfl)
set_option maxHeartbeats 4000000 in
set_option maxRecDepth 100000 in
theorem case_compare {p : Program} {l : Launch} {e : Env} {R : Room} {s : State} {m : MethodId} {args : Array Value} {below : List Frame} {meth : Method} {c : Code} {Q : State → Prop} {A : Nat → Prop} {D : va_G} {cI cL cZ cA cB cD : ClassId} {b L : Nat} {xs : Nat → Int32} {ad ad2 : Nat → Nat} {oo od : Nat}
    (C9 : lawC p l s m args c A D cI cL cZ cA cB cD b L xs R) {i : Nat} (hi : i + 4 ≤ L) {S : CS} {f : Nat → Int64} {fd : Nat → UInt64} {T : MS} (I9 : lawI S T) {H : Heap} {locs : List Loc} {ls : Array Slot} {cells slots : Nat} (hcc : cells + 2 ≤ R.cells) (hss : slots + 26 ≤ R.slots)
    (hP : va_P D vwCl (lawW ad ad2 cI cL cZ cA cB cD oo od S f fd T) H) (hD : va_D A (lawW ad ad2 cI cL cZ cA cB cD oo od S f fd T)) (hS : va_S A s.heap H locs) (hl : lv_has ls 9 [(5, .int (nI i)), (4, .ref od), (3, .ref oo), (2, .ref (ad2 0)), (1, .ref (ad 0)), (0, .ref b)])
    (kk9 : lawK p l e R s m args below meth c Q A D cI cL cZ cA cB cD b ad ad2 oo od i cells slots) : W p l e R s m args below meth c H locs cells slots Q (F0 m 2325 ls []) := by
  obtain ⟨hx, hb, hml, hown, hts, hN, hE, hfl, hX, hbl, hbA, hA, hK, hR1, hR2, hL⟩ := C9
  obtain ⟨ok0, ok1, hL0, hL1⟩ := I9
  obtain ⟨kk, v, L0, L1, hr, hk0, hk1, hk4⟩ := T_compare (S.1 0) (S.2.1 0) (S.1 1) (S.2.1 1) (xs (i + 1)) (xs (i + 2)) (((xs (i + 3)).toUInt32 % 65536).toInt32) ok0 ok1
  refine lv_aload_n hx hb dL_law_2325 rfl (lv_at hl 4 rfl) ?_
  refine lv_aload_n hx hb dL_law_2326 rfl (lv_at hl 5 rfl) ?_
  refine lv_iload hx hb dL_law_2327 (lv_at hl 0 rfl) ?_
  refine lv_iconst (v := nI 1) hx hb dL_law_2329 (by decide) ?_
  refine lv_iadd hx hb dL_law_2330 ?_
  refine su_eqi (nI (i + 1)) (nI_ad _ _) ?_
  refine va_sld hx hb hX hbl hbA hS (vp_in_nI (by omega) (by omega)) dL_law_2331 ?_
  refine su_eqi (xs (i + 1)) (by rw [nI_clamp (by omega)]) ?_
  refine lv_aload_n hx hb dL_law_2332 rfl (lv_at hl 5 rfl) ?_
  refine lv_iload hx hb dL_law_2333 (lv_at hl 0 rfl) ?_
  refine lv_iconst (v := nI 2) hx hb dL_law_2335 (by decide) ?_
  refine lv_iadd hx hb dL_law_2336 ?_
  refine su_eqi (nI (i + 2)) (nI_ad _ _) ?_
  refine va_sld hx hb hX hbl hbA hS (vp_in_nI (by omega) (by omega)) dL_law_2337 ?_
  refine su_eqi (xs (i + 2)) (by rw [nI_clamp (by omega)]) ?_
  refine lv_aload_n hx hb dL_law_2338 rfl (lv_at hl 5 rfl) ?_
  refine lv_iload hx hb dL_law_2339 (lv_at hl 0 rfl) ?_
  refine lv_iconst (v := nI 3) hx hb dL_law_2341 (by decide) ?_
  refine lv_iadd hx hb dL_law_2342 ?_
  refine su_eqi (nI (i + 3)) (nI_ad _ _) ?_
  refine va_sld hx hb hX hbl hbA hS (vp_in_nI (by omega) (by omega)) dL_law_2343 ?_
  refine su_eqi (xs (i + 3)) (by rw [nI_clamp (by omega)]) ?_
  refine lv_i2c (v := ((xs (i + 3)).toUInt32 % 65536).toInt32) hx hb dL_law_2344 rfl ?_
  refine lv_aload_n hx hb dL_law_2345 rfl (lv_at hl 2 rfl) ?_
  refine law_wL (vx_runSW (As := [.ref (ad 0), .int (xs (i + 1)), .int (xs (i + 2)), .int ((xs (i + 3)).toUInt32 % 65536).toInt32, .ref oo]) (rest := []) ⟨hx, hb, hml, hown, hts⟩ (L_compare l hfl D cI cL cZ H.size ad S oo f ok0 ok1 (xs (i + 1)) (xs (i + 2)) (((xs (i + 3)).toUInt32 % 65536).toInt32) kk v L0 L1 hr) (vx_cwSW 5 hts (lw_gH q_871 q_872 q_30 q_873) rfl rfl rfl (by decide +kernel) ⟨Nat.le_trans (Nat.le_of_ble_eq_true rfl) hR1, Nat.le_trans (Nat.le_of_ble_eq_true rfl) hR2⟩) (su_psx hE hS hA hN hK hP hD [0, 2, 3, 4, 5, 6, 7, 8, 9, 10, 11, 12, 13, 14, 15, 16, 17, 18, 19, 20, 21, 22, 23, 24, 25, 26, 27, 28, 29, 30, 31, 32, 33, 34, 35, 36, 37, 38, 39, 40, 41, 42, 43, 44, 45, 46, 47, 48, 49, 50, 51, 52, 53, 54, 55, 56, 57, 58, 59, 60, 61, 62, 63, 64, 65, 66, 67, 68, 69, 70] [0, 1, 2] rfl rfl rfl) rfl rfl hl.1 rfl (lv_room (Nat.le_of_ble_eq_true rfl)) dL_law_2346 ⟨Nat.le_trans (Nat.add_le_add_left (Nat.le_of_ble_eq_true rfl) _) hcc, Nat.le_trans (Nat.add_le_add_left (Nat.le_of_ble_eq_true rfl) _) hss⟩) hP hD hS hA (fun r u H locs hw hP hD hS => ?_)
  obtain ⟨S1, f1⟩ := u
  obtain rfl := hw.1
  refine lv_istore (lv' := [(6, .int (nI kk)), (5, .int (nI i)), (4, .ref od), (3, .ref oo), (2, .ref (ad2 0)), (1, .ref (ad 0)), (0, .ref b)]) hx hb dL_law_2349 hl (by decide) rfl (fun ls hl => ?_)
  refine lv_aload_n hx hb dL_law_2351 rfl (lv_at hl 4 rfl) ?_
  refine lv_aload_n hx hb dL_law_2352 rfl (lv_at hl 6 rfl) ?_
  refine lv_iload hx hb dL_law_2353 (lv_at hl 1 rfl) ?_
  refine lv_iconst (v := nI 1) hx hb dL_law_2355 (by decide) ?_
  refine lv_iadd hx hb dL_law_2356 ?_
  refine su_eqi (nI (i + 1)) (nI_ad _ _) ?_
  refine va_sld hx hb hX hbl hbA hS (vp_in_nI (by omega) (by omega)) dL_law_2357 ?_
  refine su_eqi (xs (i + 1)) (by rw [nI_clamp (by omega)]) ?_
  refine lv_aload_n hx hb dL_law_2358 rfl (lv_at hl 6 rfl) ?_
  refine lv_iload hx hb dL_law_2359 (lv_at hl 1 rfl) ?_
  refine lv_iconst (v := nI 2) hx hb dL_law_2361 (by decide) ?_
  refine lv_iadd hx hb dL_law_2362 ?_
  refine su_eqi (nI (i + 2)) (nI_ad _ _) ?_
  refine va_sld hx hb hX hbl hbA hS (vp_in_nI (by omega) (by omega)) dL_law_2363 ?_
  refine su_eqi (xs (i + 2)) (by rw [nI_clamp (by omega)]) ?_
  refine lv_aload_n hx hb dL_law_2364 rfl (lv_at hl 6 rfl) ?_
  refine lv_iload hx hb dL_law_2365 (lv_at hl 1 rfl) ?_
  refine lv_iconst (v := nI 3) hx hb dL_law_2367 (by decide) ?_
  refine lv_iadd hx hb dL_law_2368 ?_
  refine su_eqi (nI (i + 3)) (nI_ad _ _) ?_
  refine va_sld hx hb hX hbl hbA hS (vp_in_nI (by omega) (by omega)) dL_law_2369 ?_
  refine su_eqi (xs (i + 3)) (by rw [nI_clamp (by omega)]) ?_
  refine lv_i2c (v := ((xs (i + 3)).toUInt32 % 65536).toInt32) hx hb dL_law_2370 rfl ?_
  refine law_mi (va_runV (As := [.int (xs (i + 1)), .int (xs (i + 2)), .int ((xs (i + 3)).toUInt32 % 65536).toInt32]) (rest := []) ⟨hx, hb, hml, hown, hts⟩ (M_compare l D cI cL cZ cA cB H.size ad2 T (S.1 0) (S.1 1) (S.2.1 0) (S.2.1 1) hL0 hL1 ok0 ok1 (xs (i + 1)) (xs (i + 2)) (((xs (i + 3)).toUInt32 % 65536).toInt32) kk v L0 L1 hr) (cwV 3 hts (lw_gV q_1195 q_1196 q_1197 q_42 q_1198) rfl rfl rfl (by decide +kernel) ⟨Nat.le_trans (Nat.le_of_ble_eq_true rfl) hR1, Nat.le_trans (Nat.le_of_ble_eq_true rfl) hR2⟩) (su_pv hN hK hP hD [71, 72, 73, 74, 75, 76, 77, 78, 79, 80] [0, 1, 2, 3, 4] rfl rfl rfl (ci := 10) (q0 := 0) rfl rfl rfl) rfl rfl hl.1 rfl (lv_room (Nat.le_of_ble_eq_true rfl)) dL_law_2371 ⟨Nat.le_trans (by omega) hcc, Nat.le_trans (by omega) hss⟩) hP hD hS hA (fun r2 T1 H locs hw2 hP hD hS => ?_)
  refine lv_istore (lv' := [(7, .int r2), (6, .int (nI kk)), (5, .int (nI i)), (4, .ref od), (3, .ref oo), (2, .ref (ad2 0)), (1, .ref (ad 0)), (0, .ref b)]) hx hb dL_law_2374 hl (by decide) rfl (fun ls hl => ?_)
  refine lv_aload_n hx hb dL_law_2376 rfl (lv_at hl 5 rfl) ?_
  refine law_mi (va_runV (As := []) (rest := []) ⟨hx, hb, hml, hown, hts⟩ (M_thrown l D cI cL cZ cA cB H.size ad2 T1) (cwV 0 hts (lw_gV q_1018 q_1019 q_1020 q_42 q_1021) rfl rfl rfl (by decide +kernel) ⟨Nat.le_trans (Nat.le_of_ble_eq_true rfl) hR1, Nat.le_trans (Nat.le_of_ble_eq_true rfl) hR2⟩) (su_pv hN hK hP hD [71, 72, 73, 74, 75, 76, 77, 78, 79, 80] [0, 1, 2, 3, 4] rfl rfl rfl (ci := 10) (q0 := 0) rfl rfl rfl) rfl rfl hl.1 rfl (lv_room (Nat.le_of_ble_eq_true rfl)) dL_law_2377 ⟨Nat.le_trans (by omega) hcc, Nat.le_trans (by omega) hss⟩) hP hD hS hA (fun r3 u H locs ht hP hD hS => ?_)
  obtain ⟨ht, hu⟩ := ht
  have hu := hu.symm
  subst hu
  obtain rfl : r3 = nI kk := ht.trans hw2.1
  have ht : nI kk = nI kk ∧ True := ⟨rfl, trivial⟩
  refine lv_iload hx hb dL_law_2380 (lv_at hl 1 rfl) ?_
  refine lv_icmp_eq (tgt := 2387) hx hb dL_law_2382 (by decide) (fun _ => ?_) (fun h9 => absurd (by first | exact ht.1 | rfl) h9)
  refine lv_iload hx hb dL_law_2387 (lv_at hl 1 rfl) ?_
  refine lv_if_ne (tgt := 2404) hx hb dL_law_2389 (by decide) (fun h9 => ?_) (fun h9 => ?_)
  · refine lv_goto (tgt := 2877) hx hb dL_law_2404 (by decide) ?_
    refine W.widen (k := cells + 2) (n := slots + 26) (by omega) (by omega) ?_
    exact kk9 S1 f1 fd T1 H locs ls (lawI_of hw.2.2.1 hw.2.2.2 hw2.2.2.1 hw2.2.2.2 hk0 hk1) hP hD hS (lv_sub hl [2, 3, 4, 5, 6, 7] rfl)
  · have hk := kk_0 hk4 h9
    have ho : f1 0 = v.toInt64 := hw.2.1 hk
    have hv2 := hw2.2.1 hk
    refine lv_aload_n hx hb dL_law_2392 rfl (lv_at hl 4 rfl) ?_
    refine lv_iconst (v := nI 0) hx hb dL_law_2393 (by decide) ?_
    refine su_lald hx hb hK hP 0 1 rfl rfl (i := 0) (by decide) (by decide) (f1 0) rfl dL_law_2394 ?_
    refine lv_iload hx hb dL_law_2395 (lv_at hl 0 rfl) ?_
    refine lv_i2l (v := r2.toInt64) hx hb dL_law_2397 rfl ?_
    refine W.lcmp hx hb dL_law_2398 ?_
    refine su_eqi 0 (by first | (rw [ho]; exact lg_self _) | (rw [ho, hv2]; exact lg_self _)) ?_
    refine lv_if_eq (tgt := 2404) hx hb dL_law_2399 (by decide) (fun _ => ?_) (fun h9 => absurd rfl h9)
    refine lv_goto (tgt := 2877) hx hb dL_law_2404 (by decide) ?_
    refine W.widen (k := cells + 2) (n := slots + 26) (by omega) (by omega) ?_
    exact kk9 S1 f1 fd T1 H locs ls (lawI_of hw.2.2.1 hw.2.2.2 hw2.2.2.1 hw2.2.2.2 hk0 hk1) hP hD hS (lv_sub hl [2, 3, 4, 5, 6, 7] rfl)
set_option maxHeartbeats 4000000 in
set_option maxRecDepth 100000 in
theorem case_isLeft {p : Program} {l : Launch} {e : Env} {R : Room} {s : State} {m : MethodId} {args : Array Value} {below : List Frame} {meth : Method} {c : Code} {Q : State → Prop} {A : Nat → Prop} {D : va_G} {cI cL cZ cA cB cD : ClassId} {b L : Nat} {xs : Nat → Int32} {ad ad2 : Nat → Nat} {oo od : Nat}
    (C9 : lawC p l s m args c A D cI cL cZ cA cB cD b L xs R) {i : Nat} (hi : i + 4 ≤ L) {S : CS} {f : Nat → Int64} {fd : Nat → UInt64} {T : MS} (I9 : lawI S T) {H : Heap} {locs : List Loc} {ls : Array Slot} {cells slots : Nat} (hcc : cells + 2 ≤ R.cells) (hss : slots + 26 ≤ R.slots)
    (hP : va_P D vwCl (lawW ad ad2 cI cL cZ cA cB cD oo od S f fd T) H) (hD : va_D A (lawW ad ad2 cI cL cZ cA cB cD oo od S f fd T)) (hS : va_S A s.heap H locs) (hl : lv_has ls 9 [(5, .int (nI i)), (4, .ref od), (3, .ref oo), (2, .ref (ad2 0)), (1, .ref (ad 0)), (0, .ref b)])
    (kk9 : lawK p l e R s m args below meth c Q A D cI cL cZ cA cB cD b ad ad2 oo od i cells slots) : W p l e R s m args below meth c H locs cells slots Q (F0 m 2712 ls []) := by
  obtain ⟨hx, hb, hml, hown, hts, hN, hE, hfl, hX, hbl, hbA, hA, hK, hR1, hR2, hL⟩ := C9
  obtain ⟨ok0, ok1, hL0, hL1⟩ := I9
  obtain ⟨kk, v, L0, L1, hr, hk0, hk1, hk4⟩ := su_h1_tot ((0 : Int32)) (RT := fun g n => R_isLeft g n (xs (i + 2))) (fun g n ok => T_isLeft g n (xs (i + 2)) ok) ok0 ok1 (xs (i + 1))
  refine lv_aload_n hx hb dL_law_2712 rfl (lv_at hl 4 rfl) ?_
  refine lv_aload_n hx hb dL_law_2713 rfl (lv_at hl 5 rfl) ?_
  refine lv_iload hx hb dL_law_2714 (lv_at hl 0 rfl) ?_
  refine lv_iconst (v := nI 1) hx hb dL_law_2716 (by decide) ?_
  refine lv_iadd hx hb dL_law_2717 ?_
  refine su_eqi (nI (i + 1)) (nI_ad _ _) ?_
  refine va_sld hx hb hX hbl hbA hS (vp_in_nI (by omega) (by omega)) dL_law_2718 ?_
  refine su_eqi (xs (i + 1)) (by rw [nI_clamp (by omega)]) ?_
  refine lv_aload_n hx hb dL_law_2719 rfl (lv_at hl 5 rfl) ?_
  refine lv_iload hx hb dL_law_2720 (lv_at hl 0 rfl) ?_
  refine lv_iconst (v := nI 2) hx hb dL_law_2722 (by decide) ?_
  refine lv_iadd hx hb dL_law_2723 ?_
  refine su_eqi (nI (i + 2)) (nI_ad _ _) ?_
  refine va_sld hx hb hX hbl hbA hS (vp_in_nI (by omega) (by omega)) dL_law_2724 ?_
  refine su_eqi (xs (i + 2)) (by rw [nI_clamp (by omega)]) ?_
  refine lv_aload_n hx hb dL_law_2725 rfl (lv_at hl 2 rfl) ?_
  refine law_wL (vx_runSW (As := [.ref (ad 0), .int (xs (i + 1)), .int (xs (i + 2)), .ref oo]) (rest := []) ⟨hx, hb, hml, hown, hts⟩ (L_isLeft l hfl D cI cL cZ H.size ad S oo f ok0 ok1 (xs (i + 1)) (xs (i + 2)) kk v L0 L1 hr) (vx_cwSW 4 hts (lw_gH q_961 q_962 q_30 q_963) rfl rfl rfl (by decide +kernel) ⟨Nat.le_trans (Nat.le_of_ble_eq_true rfl) hR1, Nat.le_trans (Nat.le_of_ble_eq_true rfl) hR2⟩) (su_psx hE hS hA hN hK hP hD [0, 2, 3, 4, 5, 6, 7, 8, 9, 10, 11, 12, 13, 14, 15, 16, 17, 18, 19, 20, 21, 22, 23, 24, 25, 26, 27, 28, 29, 30, 31, 32, 33, 34, 35, 36, 37, 38, 39, 40, 41, 42, 43, 44, 45, 46, 47, 48, 49, 50, 51, 52, 53, 54, 55, 56, 57, 58, 59, 60, 61, 62, 63, 64, 65, 66, 67, 68, 69, 70] [0, 1, 2] rfl rfl rfl) rfl rfl hl.1 rfl (lv_room (Nat.le_of_ble_eq_true rfl)) dL_law_2726 ⟨Nat.le_trans (Nat.add_le_add_left (Nat.le_of_ble_eq_true rfl) _) hcc, Nat.le_trans (Nat.add_le_add_left (Nat.le_of_ble_eq_true rfl) _) hss⟩) hP hD hS hA (fun r u H locs hw hP hD hS => ?_)
  obtain ⟨S1, f1⟩ := u
  obtain rfl := hw.1
  refine lv_istore (lv' := [(6, .int (nI kk)), (5, .int (nI i)), (4, .ref od), (3, .ref oo), (2, .ref (ad2 0)), (1, .ref (ad 0)), (0, .ref b)]) hx hb dL_law_2729 hl (by decide) rfl (fun ls hl => ?_)
  refine lv_aload_n hx hb dL_law_2731 rfl (lv_at hl 4 rfl) ?_
  refine lv_aload_n hx hb dL_law_2732 rfl (lv_at hl 6 rfl) ?_
  refine lv_iload hx hb dL_law_2733 (lv_at hl 1 rfl) ?_
  refine lv_iconst (v := nI 1) hx hb dL_law_2735 (by decide) ?_
  refine lv_iadd hx hb dL_law_2736 ?_
  refine su_eqi (nI (i + 1)) (nI_ad _ _) ?_
  refine va_sld hx hb hX hbl hbA hS (vp_in_nI (by omega) (by omega)) dL_law_2737 ?_
  refine su_eqi (xs (i + 1)) (by rw [nI_clamp (by omega)]) ?_
  refine lv_aload_n hx hb dL_law_2738 rfl (lv_at hl 6 rfl) ?_
  refine lv_iload hx hb dL_law_2739 (lv_at hl 1 rfl) ?_
  refine lv_iconst (v := nI 2) hx hb dL_law_2741 (by decide) ?_
  refine lv_iadd hx hb dL_law_2742 ?_
  refine su_eqi (nI (i + 2)) (nI_ad _ _) ?_
  refine va_sld hx hb hX hbl hbA hS (vp_in_nI (by omega) (by omega)) dL_law_2743 ?_
  refine su_eqi (xs (i + 2)) (by rw [nI_clamp (by omega)]) ?_
  refine law_mi (va_runV (As := [.int (xs (i + 1)), .int (xs (i + 2))]) (rest := []) ⟨hx, hb, hml, hown, hts⟩ (M_isLeft l D cI cL cZ cA cB H.size ad2 T (S.1 0) (S.1 1) (S.2.1 0) (S.2.1 1) hL0 hL1 ok0 ok1 (xs (i + 1)) (xs (i + 2)) kk v L0 L1 hr) (cwV 2 hts (lw_gV q_1219 q_1220 q_1221 q_42 q_1222) rfl rfl rfl (by decide +kernel) ⟨Nat.le_trans (Nat.le_of_ble_eq_true rfl) hR1, Nat.le_trans (Nat.le_of_ble_eq_true rfl) hR2⟩) (su_pv hN hK hP hD [71, 72, 73, 74, 75, 76, 77, 78, 79, 80] [0, 1, 2, 3, 4] rfl rfl rfl (ci := 10) (q0 := 0) rfl rfl rfl) rfl rfl hl.1 rfl (lv_room (Nat.le_of_ble_eq_true rfl)) dL_law_2744 ⟨Nat.le_trans (by omega) hcc, Nat.le_trans (by omega) hss⟩) hP hD hS hA (fun r2 T1 H locs hw2 hP hD hS => ?_)
  refine lv_istore (lv' := [(7, .int r2), (6, .int (nI kk)), (5, .int (nI i)), (4, .ref od), (3, .ref oo), (2, .ref (ad2 0)), (1, .ref (ad 0)), (0, .ref b)]) hx hb dL_law_2747 hl (by decide) rfl (fun ls hl => ?_)
  refine lv_aload_n hx hb dL_law_2749 rfl (lv_at hl 5 rfl) ?_
  refine law_mi (va_runV (As := []) (rest := []) ⟨hx, hb, hml, hown, hts⟩ (M_thrown l D cI cL cZ cA cB H.size ad2 T1) (cwV 0 hts (lw_gV q_1018 q_1019 q_1020 q_42 q_1021) rfl rfl rfl (by decide +kernel) ⟨Nat.le_trans (Nat.le_of_ble_eq_true rfl) hR1, Nat.le_trans (Nat.le_of_ble_eq_true rfl) hR2⟩) (su_pv hN hK hP hD [71, 72, 73, 74, 75, 76, 77, 78, 79, 80] [0, 1, 2, 3, 4] rfl rfl rfl (ci := 10) (q0 := 0) rfl rfl rfl) rfl rfl hl.1 rfl (lv_room (Nat.le_of_ble_eq_true rfl)) dL_law_2750 ⟨Nat.le_trans (by omega) hcc, Nat.le_trans (by omega) hss⟩) hP hD hS hA (fun r3 u H locs ht hP hD hS => ?_)
  obtain ⟨ht, hu⟩ := ht
  have hu := hu.symm
  subst hu
  obtain rfl : r3 = nI kk := ht.trans hw2.1
  have ht : nI kk = nI kk ∧ True := ⟨rfl, trivial⟩
  refine lv_iload hx hb dL_law_2753 (lv_at hl 1 rfl) ?_
  refine lv_icmp_eq (tgt := 2760) hx hb dL_law_2755 (by decide) (fun _ => ?_) (fun h9 => absurd (by first | exact ht.1 | rfl) h9)
  refine lv_iload hx hb dL_law_2760 (lv_at hl 1 rfl) ?_
  refine lv_if_ne (tgt := 2784) hx hb dL_law_2762 (by decide) (fun h9 => ?_) (fun h9 => ?_)
  · refine lv_goto (tgt := 2877) hx hb dL_law_2784 (by decide) ?_
    refine W.widen (k := cells + 2) (n := slots + 26) (by omega) (by omega) ?_
    exact kk9 S1 f1 fd T1 H locs ls (lawI_of hw.2.2.1 hw.2.2.2 hw2.2.2.1 hw2.2.2.2 hk0 hk1) hP hD hS (lv_sub hl [2, 3, 4, 5, 6, 7] rfl)
  · have hk := kk_0 hk4 h9
    have ho : f1 0 = su_z01 v := hw.2.1 hk
    have hv2 := hw2.2.1 hk
    refine lv_aload_n hx hb dL_law_2765 rfl (lv_at hl 4 rfl) ?_
    refine lv_iconst (v := nI 0) hx hb dL_law_2766 (by decide) ?_
    refine su_lald hx hb hK hP 0 1 rfl rfl (i := 0) (by decide) (by decide) (f1 0) rfl dL_law_2767 ?_
    refine lv_iload hx hb dL_law_2768 (lv_at hl 0 rfl) ?_
    refine lv_if_eq (tgt := 2777) hx hb dL_law_2770 (by decide) (fun cz => ?_) (fun cz => ?_)
    · have ho := ho.trans (show su_z01 v = 0 from if_pos (by rw [← hv2]; exact cz))
      refine lv_lconst (v := 0) hx hb dL_law_2777 (by decide) ?_
      refine W.lcmp hx hb dL_law_2778 ?_
      refine su_eqi 0 (by first | (rw [ho]; exact lg_self _) | (rw [ho, hv2]; exact lg_self _)) ?_
      refine lv_if_eq (tgt := 2784) hx hb dL_law_2779 (by decide) (fun _ => ?_) (fun h9 => absurd rfl h9)
      refine lv_goto (tgt := 2877) hx hb dL_law_2784 (by decide) ?_
      refine W.widen (k := cells + 2) (n := slots + 26) (by omega) (by omega) ?_
      exact kk9 S1 f1 fd T1 H locs ls (lawI_of hw.2.2.1 hw.2.2.2 hw2.2.2.1 hw2.2.2.2 hk0 hk1) hP hD hS (lv_sub hl [2, 3, 4, 5, 6, 7] rfl)
    · have ho := ho.trans (show su_z01 v = 1 from if_neg (by rw [← hv2]; exact cz))
      refine lv_lconst (v := 1) hx hb dL_law_2773 (by decide) ?_
      refine lv_goto (tgt := 2778) hx hb dL_law_2774 (by decide) ?_
      refine W.lcmp hx hb dL_law_2778 ?_
      refine su_eqi 0 (by first | (rw [ho]; exact lg_self _) | (rw [ho, hv2]; exact lg_self _)) ?_
      refine lv_if_eq (tgt := 2784) hx hb dL_law_2779 (by decide) (fun _ => ?_) (fun h9 => absurd rfl h9)
      refine lv_goto (tgt := 2877) hx hb dL_law_2784 (by decide) ?_
      refine W.widen (k := cells + 2) (n := slots + 26) (by omega) (by omega) ?_
      exact kk9 S1 f1 fd T1 H locs ls (lawI_of hw.2.2.1 hw.2.2.2 hw2.2.2.1 hw2.2.2.2 hk0 hk1) hP hD hS (lv_sub hl [2, 3, 4, 5, 6, 7] rfl)
