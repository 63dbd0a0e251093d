set_option maxHeartbeats 4000000 in
set_option maxRecDepth 100000 in
theorem case_move {p : Program} {l : Launch} {e : Env} {R : Room} {s : State} {m : MethodId} {args : Array Value} {below : List Frame} {meth : Method} {c : Code} {Q : State → Prop} {A : Nat → Prop} {D : va_G} {cI cL cZ cA cB cD : ClassId} {b L : Nat} {xs : Nat → Int32} {ad ad2 : Nat → Nat} {oo od : Nat}
    (C9 : lawC p l s m args c A D cI cL cZ cA cB cD b L xs R) {i : Nat} (hi : i + 4 ≤ L) {S : CS} {f : Nat → Int64} {fd : Nat → UInt64} {T : MS} (I9 : lawI S T) {H : Heap} {locs : List Loc} {ls : Array Slot} {cells slots : Nat} (hcc : cells + 2 ≤ R.cells) (hss : slots + 26 ≤ R.slots)
    (hP : va_P D vwCl (lawW ad ad2 cI cL cZ cA cB cD oo od S f fd T) H) (hD : va_D A (lawW ad ad2 cI cL cZ cA cB cD oo od S f fd T)) (hS : va_S A s.heap H locs) (hl : lv_has ls 9 [(5, .int (nI i)), (4, .ref od), (3, .ref oo), (2, .ref (ad2 0)), (1, .ref (ad 0)), (0, .ref b)])
    (kk9 : lawK p l e R s m args below meth c Q A D cI cL cZ cA cB cD b ad ad2 oo od i cells slots) : W p l e R s m args below meth c H locs cells slots Q (F0 m 504 ls []) := by
  obtain ⟨hx, hb, hml, hown, hts, hN, hE, hfl, hX, hbl, hbA, hA, hK, hR1, hR2, hL⟩ := C9
  obtain ⟨ok0, ok1, hL0, hL1⟩ := I9
  obtain ⟨kk, v, L0, L1, hr, hk0, hk1, hk4⟩ := su_h1_tot ((0 : Int32)) (RT := fun g n => R_move g n (xs (i + 2)) (xs (i + 3))) (fun g n ok => T_move g n (xs (i + 2)) (xs (i + 3)) ok) ok0 ok1 (xs (i + 1))
  refine lv_aload_n hx hb dL_law_504 rfl (lv_at hl 4 rfl) ?_
  refine lv_aload_n hx hb dL_law_505 rfl (lv_at hl 5 rfl) ?_
  refine lv_iload hx hb dL_law_506 (lv_at hl 0 rfl) ?_
  refine lv_iconst (v := nI 1) hx hb dL_law_508 (by decide) ?_
  refine lv_iadd hx hb dL_law_509 ?_
  refine su_eqi (nI (i + 1)) (nI_ad _ _) ?_
  refine va_sld hx hb hX hbl hbA hS (vp_in_nI (by omega) (by omega)) dL_law_510 ?_
  refine su_eqi (xs (i + 1)) (by rw [nI_clamp (by omega)]) ?_
  refine lv_aload_n hx hb dL_law_511 rfl (lv_at hl 5 rfl) ?_
  refine lv_iload hx hb dL_law_512 (lv_at hl 0 rfl) ?_
  refine lv_iconst (v := nI 2) hx hb dL_law_514 (by decide) ?_
  refine lv_iadd hx hb dL_law_515 ?_
  refine su_eqi (nI (i + 2)) (nI_ad _ _) ?_
  refine va_sld hx hb hX hbl hbA hS (vp_in_nI (by omega) (by omega)) dL_law_516 ?_
  refine su_eqi (xs (i + 2)) (by rw [nI_clamp (by omega)]) ?_
  refine lv_aload_n hx hb dL_law_517 rfl (lv_at hl 5 rfl) ?_
  refine lv_iload hx hb dL_law_518 (lv_at hl 0 rfl) ?_
  refine lv_iconst (v := nI 3) hx hb dL_law_520 (by decide) ?_
  refine lv_iadd hx hb dL_law_521 ?_
  refine su_eqi (nI (i + 3)) (nI_ad _ _) ?_
  refine va_sld hx hb hX hbl hbA hS (vp_in_nI (by omega) (by omega)) dL_law_522 ?_
  refine su_eqi (xs (i + 3)) (by rw [nI_clamp (by omega)]) ?_
  refine lv_aload_n hx hb dL_law_523 rfl (lv_at hl 2 rfl) ?_
  refine law_wL (vx_runSW (As := [.ref (ad 0), .int (xs (i + 1)), .int (xs (i + 2)), .int (xs (i + 3)), .ref oo]) (rest := []) ⟨hx, hb, hml, hown, hts⟩ (L_move l hfl D cI cL cZ H.size ad S oo f ok0 ok1 (xs (i + 1)) (xs (i + 2)) (xs (i + 3)) kk v L0 L1 hr) (vx_cwSW 5 hts (lw_gH q_611 q_612 q_30 q_613) rfl rfl rfl (by decide +kernel) ⟨Nat.le_trans (Nat.le_of_ble_eq_true rfl) hR1, Nat.le_trans (Nat.le_of_ble_eq_true rfl) hR2⟩) (su_psx hE hS hA hN hK hP hD [0, 2, 3, 4, 5, 6, 7, 8, 9, 10, 11, 12, 13, 14, 15, 16, 17, 18, 19, 20, 21, 22, 23, 24, 25, 26, 27, 28, 29, 30, 31, 32, 33, 34, 35, 36, 37, 38, 39, 40, 41, 42, 43, 44, 45, 46, 47, 48, 49, 50, 51, 52, 53, 54, 55, 56, 57, 58, 59, 60, 61, 62, 63, 64, 65, 66, 67, 68, 69, 70] [0, 1, 2] rfl rfl rfl) rfl rfl hl.1 rfl (lv_room (Nat.le_of_ble_eq_true rfl)) dL_law_524 ⟨Nat.le_trans (Nat.add_le_add_left (Nat.le_of_ble_eq_true rfl) _) hcc, Nat.le_trans (Nat.add_le_add_left (Nat.le_of_ble_eq_true rfl) _) hss⟩) hP hD hS hA (fun r u H locs hw hP hD hS => ?_)
  obtain ⟨S1, f1⟩ := u
  obtain rfl := hw.1
  refine lv_istore (lv' := [(6, .int (nI kk)), (5, .int (nI i)), (4, .ref od), (3, .ref oo), (2, .ref (ad2 0)), (1, .ref (ad 0)), (0, .ref b)]) hx hb dL_law_527 hl (by decide) rfl (fun ls hl => ?_)
  refine lv_aload_n hx hb dL_law_529 rfl (lv_at hl 4 rfl) ?_
  refine lv_aload_n hx hb dL_law_530 rfl (lv_at hl 6 rfl) ?_
  refine lv_iload hx hb dL_law_531 (lv_at hl 1 rfl) ?_
  refine lv_iconst (v := nI 1) hx hb dL_law_533 (by decide) ?_
  refine lv_iadd hx hb dL_law_534 ?_
  refine su_eqi (nI (i + 1)) (nI_ad _ _) ?_
  refine va_sld hx hb hX hbl hbA hS (vp_in_nI (by omega) (by omega)) dL_law_535 ?_
  refine su_eqi (xs (i + 1)) (by rw [nI_clamp (by omega)]) ?_
  refine lv_aload_n hx hb dL_law_536 rfl (lv_at hl 6 rfl) ?_
  refine lv_iload hx hb dL_law_537 (lv_at hl 1 rfl) ?_
  refine lv_iconst (v := nI 2) hx hb dL_law_539 (by decide) ?_
  refine lv_iadd hx hb dL_law_540 ?_
  refine su_eqi (nI (i + 2)) (nI_ad _ _) ?_
  refine va_sld hx hb hX hbl hbA hS (vp_in_nI (by omega) (by omega)) dL_law_541 ?_
  refine su_eqi (xs (i + 2)) (by rw [nI_clamp (by omega)]) ?_
  refine lv_aload_n hx hb dL_law_542 rfl (lv_at hl 6 rfl) ?_
  refine lv_iload hx hb dL_law_543 (lv_at hl 1 rfl) ?_
  refine lv_iconst (v := nI 3) hx hb dL_law_545 (by decide) ?_
  refine lv_iadd hx hb dL_law_546 ?_
  refine su_eqi (nI (i + 3)) (nI_ad _ _) ?_
  refine va_sld hx hb hX hbl hbA hS (vp_in_nI (by omega) (by omega)) dL_law_547 ?_
  refine su_eqi (xs (i + 3)) (by rw [nI_clamp (by omega)]) ?_
  refine law_mi (va_runV (As := [.int (xs (i + 1)), .int (xs (i + 2)), .int (xs (i + 3))]) (rest := []) ⟨hx, hb, hml, hown, hts⟩ (M_move l D cI cL cZ cA cB H.size ad2 T (S.1 0) (S.1 1) (S.2.1 0) (S.2.1 1) hL0 hL1 ok0 ok1 (xs (i + 1)) (xs (i + 2)) (xs (i + 3)) kk v L0 L1 hr) (cwV 3 hts (lw_gV q_1075 q_1076 q_1077 q_42 q_1078) rfl rfl rfl (by decide +kernel) ⟨Nat.le_trans (Nat.le_of_ble_eq_true rfl) hR1, Nat.le_trans (Nat.le_of_ble_eq_true rfl) hR2⟩) (su_pv hN hK hP hD [71, 72, 73, 74, 75, 76, 77, 78, 79, 80] [0, 1, 2, 3, 4] rfl rfl rfl (ci := 10) (q0 := 0) rfl rfl rfl) rfl rfl hl.1 rfl (lv_room (Nat.le_of_ble_eq_true rfl)) dL_law_548 ⟨Nat.le_trans (by omega) hcc, Nat.le_trans (by omega) hss⟩) hP hD hS hA (fun r2 T1 H locs hw2 hP hD hS => ?_)
  refine lv_istore (lv' := [(7, .int r2), (6, .int (nI kk)), (5, .int (nI i)), (4, .ref od), (3, .ref oo), (2, .ref (ad2 0)), (1, .ref (ad 0)), (0, .ref b)]) hx hb dL_law_551 hl (by decide) rfl (fun ls hl => ?_)
  refine lv_aload_n hx hb dL_law_553 rfl (lv_at hl 5 rfl) ?_
  refine law_mi (va_runV (As := []) (rest := []) ⟨hx, hb, hml, hown, hts⟩ (M_thrown l D cI cL cZ cA cB H.size ad2 T1) (cwV 0 hts (lw_gV q_1018 q_1019 q_1020 q_42 q_1021) rfl rfl rfl (by decide +kernel) ⟨Nat.le_trans (Nat.le_of_ble_eq_true rfl) hR1, Nat.le_trans (Nat.le_of_ble_eq_true rfl) hR2⟩) (su_pv hN hK hP hD [71, 72, 73, 74, 75, 76, 77, 78, 79, 80] [0, 1, 2, 3, 4] rfl rfl rfl (ci := 10) (q0 := 0) rfl rfl rfl) rfl rfl hl.1 rfl (lv_room (Nat.le_of_ble_eq_true rfl)) dL_law_554 ⟨Nat.le_trans (by omega) hcc, Nat.le_trans (by omega) hss⟩) hP hD hS hA (fun r3 u H locs ht hP hD hS => ?_)
  obtain ⟨ht, hu⟩ := ht
  have hu := hu.symm
  subst hu
  obtain rfl : r3 = nI kk := ht.trans hw2.1
  have ht : nI kk = nI kk ∧ True := ⟨rfl, trivial⟩
  refine lv_iload hx hb dL_law_557 (lv_at hl 1 rfl) ?_
  refine lv_icmp_eq (tgt := 564) hx hb dL_law_559 (by decide) (fun _ => ?_) (fun h9 => absurd (by first | exact ht.1 | rfl) h9)
  refine lv_iload hx hb dL_law_564 (lv_at hl 1 rfl) ?_
  refine lv_if_ne (tgt := 581) hx hb dL_law_566 (by decide) (fun h9 => ?_) (fun h9 => ?_)
  · refine lv_goto (tgt := 2877) hx hb dL_law_581 (by decide) ?_
    refine W.widen (k := cells + 2) (n := slots + 26) (by omega) (by omega) ?_
    exact kk9 S1 f1 fd T1 H locs ls (lawI_of hw.2.2.1 hw.2.2.2 hw2.2.2.1 hw2.2.2.2 hk0 hk1) hP hD hS (lv_sub hl [2, 3, 4, 5, 6, 7] rfl)
  · have hk := kk_0 hk4 h9
    have ho : f1 0 = v.toInt64 := hw.2.1 hk
    have hv2 := hw2.2.1 hk
    refine lv_aload_n hx hb dL_law_569 rfl (lv_at hl 4 rfl) ?_
    refine lv_iconst (v := nI 0) hx hb dL_law_570 (by decide) ?_
    refine su_lald hx hb hK hP 0 1 rfl rfl (i := 0) (by decide) (by decide) (f1 0) rfl dL_law_571 ?_
    refine lv_iload hx hb dL_law_572 (lv_at hl 0 rfl) ?_
    refine lv_i2l (v := r2.toInt64) hx hb dL_law_574 rfl ?_
    refine W.lcmp hx hb dL_law_575 ?_
    refine su_eqi 0 (by first | (rw [ho]; exact lg_self _) | (rw [ho, hv2]; exact lg_self _)) ?_
    refine lv_if_eq (tgt := 581) hx hb dL_law_576 (by decide) (fun _ => ?_) (fun h9 => absurd rfl h9)
    refine lv_goto (tgt := 2877) hx hb dL_law_581 (by decide) ?_
    refine W.widen (k := cells + 2) (n := slots + 26) (by omega) (by omega) ?_
    exact kk9 S1 f1 fd T1 H locs ls (lawI_of hw.2.2.1 hw.2.2.2 hw2.2.2.1 hw2.2.2.2 hk0 hk1) hP hD hS (lv_sub hl [2, 3, 4, 5, 6, 7] rfl)
set_option maxHeartbeats 4000000 in
set_option maxRecDepth 100000 in
theorem case_number {p : Program} {l : Launch} {e : Env} {R : Room} {s : State} {m : MethodId} {args : Array Value} {below : List Frame} {meth : Method} {c : Code} {Q : State → Prop} {A : Nat → Prop} {D : va_G} {cI cL cZ cA cB cD : ClassId} {b L : Nat} {xs : Nat → Int32} {ad ad2 : Nat → Nat} {oo od : Nat}
    (C9 : lawC p l s m args c A D cI cL cZ cA cB cD b L xs R) {i : Nat} (hi : i + 4 ≤ L) {S : CS} {f : Nat → Int64} {fd : Nat → UInt64} {T : MS} (I9 : lawI S T) {H : Heap} {locs : List Loc} {ls : Array Slot} {cells slots : Nat} (hcc : cells + 2 ≤ R.cells) (hss : slots + 26 ≤ R.slots)
    (hP : va_P D vwCl (lawW ad ad2 cI cL cZ cA cB cD oo od S f fd T) H) (hD : va_D A (lawW ad ad2 cI cL cZ cA cB cD oo od S f fd T)) (hS : va_S A s.heap H locs) (hl : lv_has ls 9 [(5, .int (nI i)), (4, .ref od), (3, .ref oo), (2, .ref (ad2 0)), (1, .ref (ad 0)), (0, .ref b)])
    (kk9 : lawK p l e R s m args below meth c Q A D cI cL cZ cA cB cD b ad ad2 oo od i cells slots) : W p l e R s m args below meth c H locs cells slots Q (F0 m 832 ls []) := by
  obtain ⟨hx, hb, hml, hown, hts, hN, hE, hfl, hX, hbl, hbA, hA, hK, hR1, hR2, hL⟩ := C9
  obtain ⟨ok0, ok1, hL0, hL1⟩ := I9
  obtain ⟨kk, v, L0, L1, hr, hk0, hk1, hk4⟩ := su_h1_tot ((0 : Int32)) (RT := fun g n => R_number g n (xs (i + 2))) (fun g n ok => T_number g n (xs (i + 2)) ok) ok0 ok1 (xs (i + 1))
  refine lv_aload_n hx hb dL_law_832 rfl (lv_at hl 4 rfl) ?_
  refine lv_aload_n hx hb dL_law_833 rfl (lv_at hl 5 rfl) ?_
  refine lv_iload hx hb dL_law_834 (lv_at hl 0 rfl) ?_
  refine lv_iconst (v := nI 1) hx hb dL_law_836 (by decide) ?_
  refine lv_iadd hx hb dL_law_837 ?_
  refine su_eqi (nI (i + 1)) (nI_ad _ _) ?_
  refine va_sld hx hb hX hbl hbA hS (vp_in_nI (by omega) (by omega)) dL_law_838 ?_
  refine su_eqi (xs (i + 1)) (by rw [nI_clamp (by omega)]) ?_
  refine lv_aload_n hx hb dL_law_839 rfl (lv_at hl 5 rfl) ?_
  refine lv_iload hx hb dL_law_840 (lv_at hl 0 rfl) ?_
  refine lv_iconst (v := nI 2) hx hb dL_law_842 (by decide) ?_
  refine lv_iadd hx hb dL_law_843 ?_
  refine su_eqi (nI (i + 2)) (nI_ad _ _) ?_
  refine va_sld hx hb hX hbl hbA hS (vp_in_nI (by omega) (by omega)) dL_law_844 ?_
  refine su_eqi (xs (i + 2)) (by rw [nI_clamp (by omega)]) ?_
  refine lv_aload_n hx hb dL_law_845 rfl (lv_at hl 2 rfl) ?_
  refine law_wL (vx_runSW (As := [.ref (ad 0), .int (xs (i + 1)), .int (xs (i + 2)), .ref oo]) (rest := []) ⟨hx, hb, hml, hown, hts⟩ (L_number l hfl D cI cL cZ H.size ad S oo f ok0 ok1 (xs (i + 1)) (xs (i + 2)) kk v L0 L1 hr) (vx_cwSW 4 hts (lw_gH q_664 q_665 q_30 q_666) rfl rfl rfl (by decide +kernel) ⟨Nat.le_trans (Nat.le_of_ble_eq_true rfl) hR1, Nat.le_trans (Nat.le_of_ble_eq_true rfl) hR2⟩) (su_psx hE hS hA hN hK hP hD [0, 2, 3, 4, 5, 6, 7, 8, 9, 10, 11, 12, 13, 14, 15, 16, 17, 18, 19, 20, 21, 22, 23, 24, 25, 26, 27, 28, 29, 30, 31, 32, 33, 34, 35, 36, 37, 38, 39, 40, 41, 42, 43, 44, 45, 46, 47, 48, 49, 50, 51, 52, 53, 54, 55, 56, 57, 58, 59, 60, 61, 62, 63, 64, 65, 66, 67, 68, 69, 70] [0, 1, 2] rfl rfl rfl) rfl rfl hl.1 rfl (lv_room (Nat.le_of_ble_eq_true rfl)) dL_law_846 ⟨Nat.le_trans (Nat.add_le_add_left (Nat.le_of_ble_eq_true rfl) _) hcc, Nat.le_trans (Nat.add_le_add_left (Nat.le_of_ble_eq_true rfl) _) hss⟩) hP hD hS hA (fun r u H locs hw hP hD hS => ?_)
  obtain ⟨S1, f1⟩ := u
  obtain rfl := hw.1
  refine lv_istore (lv' := [(6, .int (nI kk)), (5, .int (nI i)), (4, .ref od), (3, .ref oo), (2, .ref (ad2 0)), (1, .ref (ad 0)), (0, .ref b)]) hx hb dL_law_849 hl (by decide) rfl (fun ls hl => ?_)
  refine lv_aload_n hx hb dL_law_851 rfl (lv_at hl 4 rfl) ?_
  refine lv_aload_n hx hb dL_law_852 rfl (lv_at hl 6 rfl) ?_
  refine lv_iload hx hb dL_law_853 (lv_at hl 1 rfl) ?_
  refine lv_iconst (v := nI 1) hx hb dL_law_855 (by decide) ?_
  refine lv_iadd hx hb dL_law_856 ?_
  refine su_eqi (nI (i + 1)) (nI_ad _ _) ?_
  refine va_sld hx hb hX hbl hbA hS (vp_in_nI (by omega) (by omega)) dL_law_857 ?_
  refine su_eqi (xs (i + 1)) (by rw [nI_clamp (by omega)]) ?_
  refine lv_aload_n hx hb dL_law_858 rfl (lv_at hl 6 rfl) ?_
  refine lv_iload hx hb dL_law_859 (lv_at hl 1 rfl) ?_
  refine lv_iconst (v := nI 2) hx hb dL_law_861 (by decide) ?_
  refine lv_iadd hx hb dL_law_862 ?_
  refine su_eqi (nI (i + 2)) (nI_ad _ _) ?_
  refine va_sld hx hb hX hbl hbA hS (vp_in_nI (by omega) (by omega)) dL_law_863 ?_
  refine su_eqi (xs (i + 2)) (by rw [nI_clamp (by omega)]) ?_
  refine law_mi (va_runV (As := [.int (xs (i + 1)), .int (xs (i + 2))]) (rest := []) ⟨hx, hb, hml, hown, hts⟩ (M_number l D cI cL cZ cA cB H.size ad2 T (S.1 0) (S.1 1) (S.2.1 0) (S.2.1 1) hL0 hL1 ok0 ok1 (xs (i + 1)) (xs (i + 2)) kk v L0 L1 hr) (cwV 2 hts (lw_gV q_1095 q_1096 q_1097 q_42 q_1098) rfl rfl rfl (by decide +kernel) ⟨Nat.le_trans (Nat.le_of_ble_eq_true rfl) hR1, Nat.le_trans (Nat.le_of_ble_eq_true rfl) hR2⟩) (su_pv hN hK hP hD [71, 72, 73, 74, 75, 76, 77, 78, 79, 80] [0, 1, 2, 3, 4] rfl rfl rfl (ci := 10) (q0 := 0) rfl rfl rfl) rfl rfl hl.1 rfl (lv_room (Nat.le_of_ble_eq_true rfl)) dL_law_864 ⟨Nat.le_trans (by omega) hcc, Nat.le_trans (by omega) hss⟩) hP hD hS hA (fun r2 T1 H locs hw2 hP hD hS => ?_)
  refine lv_istore (lv' := [(7, .int r2), (6, .int (nI kk)), (5, .int (nI i)), (4, .ref od), (3, .ref oo), (2, .ref (ad2 0)), (1, .ref (ad 0)), (0, .ref b)]) hx hb dL_law_867 hl (by decide) rfl (fun ls hl => ?_)
  refine lv_aload_n hx hb dL_law_869 rfl (lv_at hl 5 rfl) ?_
  refine law_mi (va_runV (As := []) (rest := []) ⟨hx, hb, hml, hown, hts⟩ (M_thrown l D cI cL cZ cA cB H.size ad2 T1) (cwV 0 hts (lw_gV q_1018 q_1019 q_1020 q_42 q_1021) rfl rfl rfl (by decide +kernel) ⟨Nat.le_trans (Nat.le_of_ble_eq_true rfl) hR1, Nat.le_trans (Nat.le_of_ble_eq_true rfl) hR2⟩) (su_pv hN hK hP hD [71, 72, 73, 74, 75, 76, 77, 78, 79, 80] [0, 1, 2, 3, 4] rfl rfl rfl (ci := 10) (q0 := 0) rfl rfl rfl) rfl rfl hl.1 rfl (lv_room (Nat.le_of_ble_eq_true rfl)) dL_law_870 ⟨Nat.le_trans (by omega) hcc, Nat.le_trans (by omega) hss⟩) hP hD hS hA (fun r3 u H locs ht hP hD hS => ?_)
  obtain ⟨ht, hu⟩ := ht
  have hu := hu.symm
  subst hu
  obtain rfl : r3 = nI kk := ht.trans hw2.1
  have ht : nI kk = nI kk ∧ True := ⟨rfl, trivial⟩
  refine lv_iload hx hb dL_law_873 (lv_at hl 1 rfl) ?_
  refine lv_icmp_eq (tgt := 880) hx hb dL_law_875 (by decide) (fun _ => ?_) (fun h9 => absurd (by first | exact ht.1 | rfl) h9)
  refine lv_iload hx hb dL_law_880 (lv_at hl 1 rfl) ?_
  refine lv_if_ne (tgt := 897) hx hb dL_law_882 (by decide) (fun h9 => ?_) (fun h9 => ?_)
  · refine lv_goto (tgt := 2877) hx hb dL_law_897 (by decide) ?_
    refine W.widen (k := cells + 2) (n := slots + 26) (by omega) (by omega) ?_
    exact kk9 S1 f1 fd T1 H locs ls (lawI_of hw.2.2.1 hw.2.2.2 hw2.2.2.1 hw2.2.2.2 hk0 hk1) hP hD hS (lv_sub hl [2, 3, 4, 5, 6, 7] rfl)
  · have hk := kk_0 hk4 h9
    have ho : f1 0 = v.toInt64 := hw.2.1 hk
    have hv2 := hw2.2.1 hk
    refine lv_aload_n hx hb dL_law_885 rfl (lv_at hl 4 rfl) ?_
    refine lv_iconst (v := nI 0) hx hb dL_law_886 (by decide) ?_
    refine su_lald hx hb hK hP 0 1 rfl rfl (i := 0) (by decide) (by decide) (f1 0) rfl dL_law_887 ?_
    refine lv_iload hx hb dL_law_888 (lv_at hl 0 rfl) ?_
    refine lv_i2l (v := r2.toInt64) hx hb dL_law_890 rfl ?_
    refine W.lcmp hx hb dL_law_891 ?_
    refine su_eqi 0 (by first | (rw [ho]; exact lg_self _) | (rw [ho, hv2]; exact lg_self _)) ?_
    refine lv_if_eq (tgt := 897) hx hb dL_law_892 (by decide) (fun _ => ?_) (fun h9 => absurd rfl h9)
    refine lv_goto (tgt := 2877) hx hb dL_law_897 (by decide) ?_
    refine W.widen (k := cells + 2) (n := slots + 26) (by omega) (by omega) ?_
    exact kk9 S1 f1 fd T1 H locs ls (lawI_of hw.2.2.1 hw.2.2.2 hw2.2.2.1 hw2.2.2.2 hk0 hk1) hP hD hS (lv_sub hl [2, 3, 4, 5, 6, 7] rfl)
set_option maxHeartbeats 4000000 in
set_option maxRecDepth 100000 in
theorem case_previous {p : Program} {l : Launch} {e : Env} {R : Room} {s : State} {m : MethodId} {args : Array Value} {below : List Frame} {meth : Method} {c : Code} {Q : State → Prop} {A : Nat → Prop} {D : va_G} {cI cL cZ cA cB cD : ClassId} {b L : Nat} {xs : Nat → Int32} {ad ad2 : Nat → Nat} {oo od : Nat}
    (C9 : lawC p l s m args c A D cI cL cZ cA cB cD b L xs R) {i : Nat} (hi : i + 4 ≤ L) {S : CS} {f : Nat → Int64} {fd : Nat → UInt64} {T : MS} (I9 : lawI S T) {H : Heap} {locs : List Loc} {ls : Array Slot} {cells slots : Nat} (hcc : cells + 2 ≤ R.cells) (hss : slots + 26 ≤ R.slots)
    (hP : va_P D vwCl (lawW ad ad2 cI cL cZ cA cB cD oo od S f fd T) H) (hD : va_D A (lawW ad ad2 cI cL cZ cA cB cD oo od S f fd T)) (hS : va_S A s.heap H locs) (hl : lv_has ls 9 [(5, .int (nI i)), (4, .ref od), (3, .ref oo), (2, .ref (ad2 0)), (1, .ref (ad 0)), (0, .ref b)])
    (kk9 : lawK p l e R s m args below meth c Q A D cI cL cZ cA cB cD b ad ad2 oo od i cells slots) : W p l e R s m args below meth c H locs cells slots Q (F0 m 1239 ls []) := by
  obtain ⟨hx, hb, hml, hown, hts, hN, hE, hfl, hX, hbl, hbA, hA, hK, hR1, hR2, hL⟩ := C9
  obtain ⟨ok0, ok1, hL0, hL1⟩ := I9
  by_cases hz : xs (i + 3) = 0
  · obtain ⟨kk, v, L0, L1, hr, hk0, hk1, hk4⟩ := su_h1_tot ((0 : Int32)) (RT := fun g n => R_previous g n (xs (i + 2)) false) (fun g n ok => T_previous g n (xs (i + 2)) false ok) ok0 ok1 (xs (i + 1))
    refine lv_aload_n hx hb dL_law_1239 rfl (lv_at hl 4 rfl) ?_
    refine lv_aload_n hx hb dL_law_1240 rfl (lv_at hl 5 rfl) ?_
    refine lv_iload hx hb dL_law_1241 (lv_at hl 0 rfl) ?_
    refine lv_iconst (v := nI 1) hx hb dL_law_1243 (by decide) ?_
    refine lv_iadd hx hb dL_law_1244 ?_
    refine su_eqi (nI (i + 1)) (nI_ad _ _) ?_
    refine va_sld hx hb hX hbl hbA hS (vp_in_nI (by omega) (by omega)) dL_law_1245 ?_
    refine su_eqi (xs (i + 1)) (by rw [nI_clamp (by omega)]) ?_
    refine lv_aload_n hx hb dL_law_1246 rfl (lv_at hl 5 rfl) ?_
    refine lv_iload hx hb dL_law_1247 (lv_at hl 0 rfl) ?_
    refine lv_iconst (v := nI 2) hx hb dL_law_1249 (by decide) ?_
    refine lv_iadd hx hb dL_law_1250 ?_
    refine su_eqi (nI (i + 2)) (nI_ad _ _) ?_
    refine va_sld hx hb hX hbl hbA hS (vp_in_nI (by omega) (by omega)) dL_law_1251 ?_
    refine su_eqi (xs (i + 2)) (by rw [nI_clamp (by omega)]) ?_
    refine lv_aload_n hx hb dL_law_1252 rfl (lv_at hl 5 rfl) ?_
    refine lv_iload hx hb dL_law_1253 (lv_at hl 0 rfl) ?_
    refine lv_iconst (v := nI 3) hx hb dL_law_1255 (by decide) ?_
    refine lv_iadd hx hb dL_law_1256 ?_
    refine su_eqi (nI (i + 3)) (nI_ad _ _) ?_
    refine va_sld hx hb hX hbl hbA hS (vp_in_nI (by omega) (by omega)) dL_law_1257 ?_
    refine su_eqi (xs (i + 3)) (by rw [nI_clamp (by omega)]) ?_
    refine lv_if_eq (tgt := 1265) hx hb dL_law_1258 (by decide) (fun _ => ?_) (fun h9 => absurd hz h9)
    refine lv_iconst (v := nI 0) hx hb dL_law_1265 (by decide) ?_
    refine lv_aload_n hx hb dL_law_1266 rfl (lv_at hl 2 rfl) ?_
    refine law_wL (vx_runSW (As := [.ref (ad 0), .int (xs (i + 1)), .int (xs (i + 2)), .int (bI false), .ref oo]) (rest := []) ⟨hx, hb, hml, hown, hts⟩ (L_previous l hfl D cI cL cZ H.size ad S oo f ok0 ok1 (xs (i + 1)) (xs (i + 2)) false kk v L0 L1 hr) (vx_cwSW 5 hts (lw_gH q_736 q_737 q_30 q_738) rfl rfl rfl (by decide +kernel) ⟨Nat.le_trans (Nat.le_of_ble_eq_true rfl) hR1, Nat.le_trans (Nat.le_of_ble_eq_true rfl) hR2⟩) (su_psx hE hS hA hN hK hP hD [0, 2, 3, 4, 5, 6, 7, 8, 9, 10, 11, 12, 13, 14, 15, 16, 17, 18, 19, 20, 21, 22, 23, 24, 25, 26, 27, 28, 29, 30, 31, 32, 33, 34, 35, 36, 37, 38, 39, 40, 41, 42, 43, 44, 45, 46, 47, 48, 49, 50, 51, 52, 53, 54, 55, 56, 57, 58, 59, 60, 61, 62, 63, 64, 65, 66, 67, 68, 69, 70] [0, 1, 2] rfl rfl rfl) rfl rfl hl.1 rfl (lv_room (Nat.le_of_ble_eq_true rfl)) dL_law_1267 ⟨Nat.le_trans (Nat.add_le_add_left (Nat.le_of_ble_eq_true rfl) _) hcc, Nat.le_trans (Nat.add_le_add_left (Nat.le_of_ble_eq_true rfl) _) hss⟩) hP hD hS hA (fun r u H locs hw hP hD hS => ?_)
    obtain ⟨S1, f1⟩ := u
    obtain rfl := hw.1
    refine lv_istore (lv' := [(6, .int (nI kk)), (5, .int (nI i)), (4, .ref od), (3, .ref oo), (2, .ref (ad2 0)), (1, .ref (ad 0)), (0, .ref b)]) hx hb dL_law_1270 hl (by decide) rfl (fun ls hl => ?_)
    refine lv_aload_n hx hb dL_law_1272 rfl (lv_at hl 4 rfl) ?_
    refine lv_aload_n hx hb dL_law_1273 rfl (lv_at hl 6 rfl) ?_
    refine lv_iload hx hb dL_law_1274 (lv_at hl 1 rfl) ?_
    refine lv_iconst (v := nI 1) hx hb dL_law_1276 (by decide) ?_
    refine lv_iadd hx hb dL_law_1277 ?_
    refine su_eqi (nI (i + 1)) (nI_ad _ _) ?_
    refine va_sld hx hb hX hbl hbA hS (vp_in_nI (by omega) (by omega)) dL_law_1278 ?_
    refine su_eqi (xs (i + 1)) (by rw [nI_clamp (by omega)]) ?_
    refine lv_aload_n hx hb dL_law_1279 rfl (lv_at hl 6 rfl) ?_
    refine lv_iload hx hb dL_law_1280 (lv_at hl 1 rfl) ?_
    refine lv_iconst (v := nI 2) hx hb dL_law_1282 (by decide) ?_
    refine lv_iadd hx hb dL_law_1283 ?_
    refine su_eqi (nI (i + 2)) (nI_ad _ _) ?_
    refine va_sld hx hb hX hbl hbA hS (vp_in_nI (by omega) (by omega)) dL_law_1284 ?_
    refine su_eqi (xs (i + 2)) (by rw [nI_clamp (by omega)]) ?_
    refine lv_aload_n hx hb dL_law_1285 rfl (lv_at hl 6 rfl) ?_
    refine lv_iload hx hb dL_law_1286 (lv_at hl 1 rfl) ?_
    refine lv_iconst (v := nI 3) hx hb dL_law_1288 (by decide) ?_
    refine lv_iadd hx hb dL_law_1289 ?_
    refine su_eqi (nI (i + 3)) (nI_ad _ _) ?_
    refine va_sld hx hb hX hbl hbA hS (vp_in_nI (by omega) (by omega)) dL_law_1290 ?_
    refine su_eqi (xs (i + 3)) (by rw [nI_clamp (by omega)]) ?_
    refine lv_if_eq (tgt := 1298) hx hb dL_law_1291 (by decide) (fun _ => ?_) (fun h9 => absurd hz h9)
    refine lv_iconst (v := nI 0) hx hb dL_law_1298 (by decide) ?_
    refine law_mi (va_runV (As := [.int (xs (i + 1)), .int (xs (i + 2)), .int (bI false)]) (rest := []) ⟨hx, hb, hml, hown, hts⟩ (M_previous l D cI cL cZ cA cB H.size ad2 T (S.1 0) (S.1 1) (S.2.1 0) (S.2.1 1) hL0 hL1 ok0 ok1 (xs (i + 1)) (xs (i + 2)) false kk v L0 L1 hr) (cwV 3 hts (lw_gV q_1131 q_1132 q_1133 q_42 q_1134) rfl rfl rfl (by decide +kernel) ⟨Nat.le_trans (Nat.le_of_ble_eq_true rfl) hR1, Nat.le_trans (Nat.le_of_ble_eq_true rfl) hR2⟩) (su_pv hN hK hP hD [71, 72, 73, 74, 75, 76, 77, 78, 79, 80] [0, 1, 2, 3, 4] rfl rfl rfl (ci := 10) (q0 := 0) rfl rfl rfl) rfl rfl hl.1 rfl (lv_room (Nat.le_of_ble_eq_true rfl)) dL_law_1299 ⟨Nat.le_trans (by omega) hcc, Nat.le_trans (by omega) hss⟩) hP hD hS hA (fun r2 T1 H locs hw2 hP hD hS => ?_)
    refine lv_istore (lv' := [(7, .int r2), (6, .int (nI kk)), (5, .int (nI i)), (4, .ref od), (3, .ref oo), (2, .ref (ad2 0)), (1, .ref (ad 0)), (0, .ref b)]) hx hb dL_law_1302 hl (by decide) rfl (fun ls hl => ?_)
    refine lv_aload_n hx hb dL_law_1304 rfl (lv_at hl 5 rfl) ?_
    refine law_mi (va_runV (As := []) (rest := []) ⟨hx, hb, hml, hown, hts⟩ (M_thrown l D cI cL cZ cA cB H.size ad2 T1) (cwV 0 hts (lw_gV q_1018 q_1019 q_1020 q_42 q_1021) rfl rfl rfl (by decide +kernel) ⟨Nat.le_trans (Nat.le_of_ble_eq_true rfl) hR1, Nat.le_trans (Nat.le_of_ble_eq_true rfl) hR2⟩) (su_pv hN hK hP hD [71, 72, 73, 74, 75, 76, 77, 78, 79, 80] [0, 1, 2, 3, 4] rfl rfl rfl (ci := 10) (q0 := 0) rfl rfl rfl) rfl rfl hl.1 rfl (lv_room (Nat.le_of_ble_eq_true rfl)) dL_law_1305 ⟨Nat.le_trans (by omega) hcc, Nat.le_trans (by omega) hss⟩) hP hD hS hA (fun r3 u H locs ht hP hD hS => ?_)
    obtain ⟨ht, hu⟩ := ht
    have hu := hu.symm
    subst hu
    obtain rfl : r3 = nI kk := ht.trans hw2.1
    have ht : nI kk = nI kk ∧ True := ⟨rfl, trivial⟩
    refine lv_iload hx hb dL_law_1308 (lv_at hl 1 rfl) ?_
    refine lv_icmp_eq (tgt := 1315) hx hb dL_law_1310 (by decide) (fun _ => ?_) (fun h9 => absurd (by first | exact ht.1 | rfl) h9)
    refine lv_iload hx hb dL_law_1315 (lv_at hl 1 rfl) ?_
    refine lv_if_ne (tgt := 1332) hx hb dL_law_1317 (by decide) (fun h9 => ?_) (fun h9 => ?_)
    · refine lv_goto (tgt := 2877) hx hb dL_law_1332 (by decide) ?_
      refine W.widen (k := cells + 2) (n := slots + 26) (by omega) (by omega) ?_
      exact kk9 S1 f1 fd T1 H locs ls (lawI_of hw.2.2.1 hw.2.2.2 hw2.2.2.1 hw2.2.2.2 hk0 hk1) hP hD hS (lv_sub hl [2, 3, 4, 5, 6, 7] rfl)
    · have hk := kk_0 hk4 h9
      have ho : f1 0 = v.toInt64 := hw.2.1 hk
      have hv2 := hw2.2.1 hk
      refine lv_aload_n hx hb dL_law_1320 rfl (lv_at hl 4 rfl) ?_
      refine lv_iconst (v := nI 0) hx hb dL_law_1321 (by decide) ?_
      refine su_lald hx hb hK hP 0 1 rfl rfl (i := 0) (by decide) (by decide) (f1 0) rfl dL_law_1322 ?_
      refine lv_iload hx hb dL_law_1323 (lv_at hl 0 rfl) ?_
      refine lv_i2l (v := r2.toInt64) hx hb dL_law_1325 rfl ?_
      refine W.lcmp hx hb dL_law_1326 ?_
      refine su_eqi 0 (by first | (rw [ho]; exact lg_self _) | (rw [ho, hv2]; exact lg_self _)) ?_
      refine lv_if_eq (tgt := 1332) hx hb dL_law_1327 (by decide) (fun _ => ?_) (fun h9 => absurd rfl h9)
      refine lv_goto (tgt := 2877) hx hb dL_law_1332 (by decide) ?_
      refine W.widen (k := cells + 2) (n := slots + 26) (by omega) (by omega) ?_
      exact kk9 S1 f1 fd T1 H locs ls (lawI_of hw.2.2.1 hw.2.2.2 hw2.2.2.1 hw2.2.2.2 hk0 hk1) hP hD hS (lv_sub hl [2, 3, 4, 5, 6, 7] rfl)
  · obtain ⟨kk, v, L0, L1, hr, hk0, hk1, hk4⟩ := su_h1_tot ((0 : Int32)) (RT := fun g n => R_previous g n (xs (i + 2)) true) (fun g n ok => T_previous g n (xs (i + 2)) true ok) ok0 ok1 (xs (i + 1))
    refine lv_aload_n hx hb dL_law_1239 rfl (lv_at hl 4 rfl) ?_
    refine lv_aload_n hx hb dL_law_1240 rfl (lv_at hl 5 rfl) ?_
    refine lv_iload hx hb dL_law_1241 (lv_at hl 0 rfl) ?_
    refine lv_iconst (v := nI 1) hx hb dL_law_1243 (by decide) ?_
    refine lv_iadd hx hb dL_law_1244 ?_
    refine su_eqi (nI (i + 1)) (nI_ad _ _) ?_
    refine va_sld hx hb hX hbl hbA hS (vp_in_nI (by omega) (by omega)) dL_law_1245 ?_
    refine su_eqi (xs (i + 1)) (by rw [nI_clamp (by omega)]) ?_
    refine lv_aload_n hx hb dL_law_1246 rfl (lv_at hl 5 rfl) ?_
    refine lv_iload hx hb dL_law_1247 (lv_at hl 0 rfl) ?_
    refine lv_iconst (v := nI 2) hx hb dL_law_1249 (by decide) ?_
    refine lv_iadd hx hb dL_law_1250 ?_
    refine su_eqi (nI (i + 2)) (nI_ad _ _) ?_
    refine va_sld hx hb hX hbl hbA hS (vp_in_nI (by omega) (by omega)) dL_law_1251 ?_
    refine su_eqi (xs (i + 2)) (by rw [nI_clamp (by omega)]) ?_
    refine lv_aload_n hx hb dL_law_1252 rfl (lv_at hl 5 rfl) ?_
    refine lv_iload hx hb dL_law_1253 (lv_at hl 0 rfl) ?_
    refine lv_iconst (v := nI 3) hx hb dL_law_1255 (by decide) ?_
    refine lv_iadd hx hb dL_law_1256 ?_
    refine su_eqi (nI (i + 3)) (nI_ad _ _) ?_
    refine va_sld hx hb hX hbl hbA hS (vp_in_nI (by omega) (by omega)) dL_law_1257 ?_
    refine su_eqi (xs (i + 3)) (by rw [nI_clamp (by omega)]) ?_
    refine lv_if_eq (tgt := 1265) hx hb dL_law_1258 (by decide) (fun h9 => absurd h9 hz) (fun _ => ?_)
    refine lv_iconst (v := nI 1) hx hb dL_law_1261 (by decide) ?_
    refine lv_goto (tgt := 1266) hx hb dL_law_1262 (by decide) ?_
    refine lv_aload_n hx hb dL_law_1266 rfl (lv_at hl 2 rfl) ?_
    refine law_wL (vx_runSW (As := [.ref (ad 0), .int (xs (i + 1)), .int (xs (i + 2)), .int (bI true), .ref oo]) (rest := []) ⟨hx, hb, hml, hown, hts⟩ (L_previous l hfl D cI cL cZ H.size ad S oo f ok0 ok1 (xs (i + 1)) (xs (i + 2)) true kk v L0 L1 hr) (vx_cwSW 5 hts (lw_gH q_736 q_737 q_30 q_738) rfl rfl rfl (by decide +kernel) ⟨Nat.le_trans (Nat.le_of_ble_eq_true rfl) hR1, Nat.le_trans (Nat.le_of_ble_eq_true rfl) hR2⟩) (su_psx hE hS hA hN hK hP hD [0, 2, 3, 4, 5, 6, 7, 8, 9, 10, 11, 12, 13, 14, 15, 16, 17, 18, 19, 20, 21, 22, 23, 24, 25, 26, 27, 28, 29, 30, 31, 32, 33, 34, 35, 36, 37, 38, 39, 40, 41, 42, 43, 44, 45, 46, 47, 48, 49, 50, 51, 52, 53, 54, 55, 56, 57, 58, 59, 60, 61, 62, 63, 64, 65, 66, 67, 68, 69, 70] [0, 1, 2] rfl rfl rfl) rfl rfl hl.1 rfl (lv_room (Nat.le_of_ble_eq_true rfl)) dL_law_1267 ⟨Nat.le_trans (Nat.add_le_add_left (Nat.le_of_ble_eq_true rfl) _) hcc, Nat.le_trans (Nat.add_le_add_left (Nat.le_of_ble_eq_true rfl) _) hss⟩) hP hD hS hA (fun r u H locs hw hP hD hS => ?_)
    obtain ⟨S1, f1⟩ := u
    obtain rfl := hw.1
    refine lv_istore (lv' := [(6, .int (nI kk)), (5, .int (nI i)), (4, .ref od), (3, .ref oo), (2, .ref (ad2 0)), (1, .ref (ad 0)), (0, .ref b)]) hx hb dL_law_1270 hl (by decide) rfl (fun ls hl => ?_)
    refine lv_aload_n hx hb dL_law_1272 rfl (lv_at hl 4 rfl) ?_
    refine lv_aload_n hx hb dL_law_1273 rfl (lv_at hl 6 rfl) ?_
    refine lv_iload hx hb dL_law_1274 (lv_at hl 1 rfl) ?_
    refine lv_iconst (v := nI 1) hx hb dL_law_1276 (by decide) ?_
    refine lv_iadd hx hb dL_law_1277 ?_
    refine su_eqi (nI (i + 1)) (nI_ad _ _) ?_
    refine va_sld hx hb hX hbl hbA hS (vp_in_nI (by omega) (by omega)) dL_law_1278 ?_
    refine su_eqi (xs (i + 1)) (by rw [nI_clamp (by omega)]) ?_
    refine lv_aload_n hx hb dL_law_1279 rfl (lv_at hl 6 rfl) ?_
    refine lv_iload hx hb dL_law_1280 (lv_at hl 1 rfl) ?_
    refine lv_iconst (v := nI 2) hx hb dL_law_1282 (by decide) ?_
    refine lv_iadd hx hb dL_law_1283 ?_
    refine su_eqi (nI (i + 2)) (nI_ad _ _) ?_
    refine va_sld hx hb hX hbl hbA hS (vp_in_nI (by omega) (by omega)) dL_law_1284 ?_
    refine su_eqi (xs (i + 2)) (by rw [nI_clamp (by omega)]) ?_
    refine lv_aload_n hx hb dL_law_1285 rfl (lv_at hl 6 rfl) ?_
    refine lv_iload hx hb dL_law_1286 (lv_at hl 1 rfl) ?_
    refine lv_iconst (v := nI 3) hx hb dL_law_1288 (by decide) ?_
    refine lv_iadd hx hb dL_law_1289 ?_
    refine su_eqi (nI (i + 3)) (nI_ad _ _) ?_
    refine va_sld hx hb hX hbl hbA hS (vp_in_nI (by omega) (by omega)) dL_law_1290 ?_
    refine su_eqi (xs (i + 3)) (by rw [nI_clamp (by omega)]) ?_
    refine lv_if_eq (tgt := 1298) hx hb dL_law_1291 (by decide) (fun h9 => absurd h9 hz) (fun _ => ?_)
    refine lv_iconst (v := nI 1) hx hb dL_law_1294 (by decide) ?_
    refine lv_goto (tgt := 1299) hx hb dL_law_1295 (by decide) ?_
    refine law_mi (va_runV (As := [.int (xs (i + 1)), .int (xs (i + 2)), .int (bI true)]) (rest := []) ⟨hx, hb, hml, hown, hts⟩ (M_previous l D cI cL cZ cA cB H.size ad2 T (S.1 0) (S.1 1) (S.2.1 0) (S.2.1 1) hL0 hL1 ok0 ok1 (xs (i + 1)) (xs (i + 2)) true kk v L0 L1 hr) (cwV 3 hts (lw_gV q_1131 q_1132 q_1133 q_42 q_1134) rfl rfl rfl (by decide +kernel) ⟨Nat.le_trans (Nat.le_of_ble_eq_true rfl) hR1, Nat.le_trans (Nat.le_of_ble_eq_true rfl) hR2⟩) (su_pv hN hK hP hD [71, 72, 73, 74, 75, 76, 77, 78, 79, 80] [0, 1, 2, 3, 4] rfl rfl rfl (ci := 10) (q0 := 0) rfl rfl rfl) rfl rfl hl.1 rfl (lv_room (Nat.le_of_ble_eq_true rfl)) dL_law_1299 ⟨Nat.le_trans (by omega) hcc, Nat.le_trans (by omega) hss⟩) hP hD hS hA (fun r2 T1 H locs hw2 hP hD hS => ?_)
    refine lv_istore (lv' := [(7, .int r2), (6, .int (nI kk)), (5, .int (nI i)), (4, .ref od), (3, .ref oo), (2, .ref (ad2 0)), (1, .ref (ad 0)), (0, .ref b)]) hx hb dL_law_1302 hl (by decide) rfl (fun ls hl => ?_)
    refine lv_aload_n hx hb dL_law_1304 rfl (lv_at hl 5 rfl) ?_
    refine law_mi (va_runV (As := []) (rest := []) ⟨hx, hb, hml, hown, hts⟩ (M_thrown l D cI cL cZ cA cB H.size ad2 T1) (cwV 0 hts (lw_gV q_1018 q_1019 q_1020 q_42 q_1021) rfl rfl rfl (by decide +kernel) ⟨Nat.le_trans (Nat.le_of_ble_eq_true rfl) hR1, Nat.le_trans (Nat.le_of_ble_eq_true rfl) hR2⟩) (su_pv hN hK hP hD [71, 72, 73, 74, 75, 76, 77, 78, 79, 80] [0, 1, 2, 3, 4] rfl rfl rfl (ci := 10) (q0 := 0) rfl rfl rfl) rfl rfl hl.1 rfl (lv_room (Nat.le_of_ble_eq_true rfl)) dL_law_1305 ⟨Nat.le_trans (by omega) hcc, Nat.le_trans (by omega) hss⟩) hP hD hS hA (fun r3 u H locs ht hP hD hS => ?_)
    obtain ⟨ht, hu⟩ := ht
    have hu := hu.symm
    subst hu
    obtain rfl : r3 = nI kk := ht.trans hw2.1
    have ht : nI kk = nI kk ∧ True := ⟨rfl, trivial⟩
    refine lv_iload hx hb dL_law_1308 (lv_at hl 1 rfl) ?_
    refine lv_icmp_eq (tgt := 1315) hx hb dL_law_1310 (by decide) (fun _ => ?_) (fun h9 => absurd (by first | exact ht.1 | rfl) h9)
    refine lv_iload hx hb dL_law_1315 (lv_at hl 1 rfl) ?_
    refine lv_if_ne (tgt := 1332) hx hb dL_law_1317 (by decide) (fun h9 => ?_) (fun h9 => ?_)
    · refine lv_goto (tgt := 2877) hx hb dL_law_1332 (by decide) ?_
      refine W.widen (k := cells + 2) (n := slots + 26) (by omega) (by omega) ?_
      exact kk9 S1 f1 fd T1 H locs ls (lawI_of hw.2.2.1 hw.2.2.2 hw2.2.2.1 hw2.2.2.2 hk0 hk1) hP hD hS (lv_sub hl [2, 3, 4, 5, 6, 7] rfl)
    · have hk := kk_0 hk4 h9
      have ho : f1 0 = v.toInt64 := hw.2.1 hk
      have hv2 := hw2.2.1 hk
      refine lv_aload_n hx hb dL_law_1320 rfl (lv_at hl 4 rfl) ?_
      refine lv_iconst (v := nI 0) hx hb dL_law_1321 (by decide) ?_
      refine su_lald hx hb hK hP 0 1 rfl rfl (i := 0) (by decide) (by decide) (f1 0) rfl dL_law_1322 ?_
      refine lv_iload hx hb dL_law_1323 (lv_at hl 0 rfl) ?_
      refine lv_i2l (v := r2.toInt64) hx hb dL_law_1325 rfl ?_
      refine W.lcmp hx hb dL_law_1326 ?_
      refine su_eqi 0 (by first | (rw [ho]; exact lg_self _) | (rw [ho, hv2]; exact lg_self _)) ?_
      refine lv_if_eq (tgt := 1332) hx hb dL_law_1327 (by decide) (fun _ => ?_) (fun h9 => absurd rfl h9)
      refine lv_goto (tgt := 2877) hx hb dL_law_1332 (by decide) ?_
      refine W.widen (k := cells + 2) (n := slots + 26) (by omega) (by omega) ?_
      exact kk9 S1 f1 fd T1 H locs ls (lawI_of hw.2.2.1 hw.2.2.2 hw2.2.2.1 hw2.2.2.2 hk0 hk1) hP hD hS (lv_sub hl [2, 3, 4, 5, 6, 7] rfl)
set_option maxHeartbeats 4000000 in
set_option maxRecDepth 100000 in
theorem case_fewest {p : Program} {l : Launch} {e : Env} {R : Room} {s : State} {m : MethodId} {args : Array Value} {below : List Frame} {meth : Method} {c : Code} {Q : State → Prop} {A : Nat → Prop} {D : va_G} {cI cL cZ cA cB cD : ClassId} {b L : Nat} {xs : Nat → Int32} {ad ad2 : Nat → Nat} {oo od : Nat}
    (C9 : lawC p l s m args c A D cI cL cZ cA cB cD b L xs R) {i : Nat} (hi : i + 4 ≤ L) {S : CS} {f : Nat → Int64} {fd : Nat → UInt64} {T : MS} (I9 : lawI S T) {H : Heap} {locs : List Loc} {ls : Array Slot} {cells slots : Nat} (hcc : cells + 2 ≤ R.cells) (hss : slots + 26 ≤ R.slots)
    (hP : va_P D vwCl (lawW ad ad2 cI cL cZ cA cB cD oo od S f fd T) H) (hD : va_D A (lawW ad ad2 cI cL cZ cA cB cD oo od S f fd T)) (hS : va_S A s.heap H locs) (hl : lv_has ls 9 [(5, .int (nI i)), (4, .ref od), (3, .ref oo), (2, .ref (ad2 0)), (1, .ref (ad 0)), (0, .ref b)])
    (kk9 : lawK p l e R s m args below meth c Q A D cI cL cZ cA cB cD b ad ad2 oo od i cells slots) : W p l e R s m args below meth c H locs cells slots Q (F0 m 1666 ls []) := by
  obtain ⟨hx, hb, hml, hown, hts, hN, hE, hfl, hX, hbl, hbA, hA, hK, hR1, hR2, hL⟩ := C9
  obtain ⟨ok0, ok1, hL0, hL1⟩ := I9
  by_cases hz : xs (i + 3) = 0
  · obtain ⟨kk, v, L0, L1, hr, hk0, hk1, hk4⟩ := su_h1_tot ((0 : Int32)) (RT := fun g n => R_fewest g n (xs (i + 2)) false) (fun g n ok => T_fewest g n (xs (i + 2)) false ok) ok0 ok1 (xs (i + 1))
    refine lv_aload_n hx hb dL_law_1666 rfl (lv_at hl 4 rfl) ?_
    refine lv_aload_n hx hb dL_law_1667 rfl (lv_at hl 5 rfl) ?_
    refine lv_iload hx hb dL_law_1668 (lv_at hl 0 rfl) ?_
    refine lv_iconst (v := nI 1) hx hb dL_law_1670 (by decide) ?_
    refine lv_iadd hx hb dL_law_1671 ?_
    refine su_eqi (nI (i + 1)) (nI_ad _ _) ?_
    refine va_sld hx hb hX hbl hbA hS (vp_in_nI (by omega) (by omega)) dL_law_1672 ?_
    refine su_eqi (xs (i + 1)) (by rw [nI_clamp (by omega)]) ?_
    refine lv_aload_n hx hb dL_law_1673 rfl (lv_at hl 5 rfl) ?_
    refine lv_iload hx hb dL_law_1674 (lv_at hl 0 rfl) ?_
    refine lv_iconst (v := nI 2) hx hb dL_law_1676 (by decide) ?_
    refine lv_iadd hx hb dL_law_1677 ?_
    refine su_eqi (nI (i + 2)) (nI_ad _ _) ?_
    refine va_sld hx hb hX hbl hbA hS (vp_in_nI (by omega) (by omega)) dL_law_1678 ?_
    refine su_eqi (xs (i + 2)) (by rw [nI_clamp (by omega)]) ?_
    refine lv_aload_n hx hb dL_law_1679 rfl (lv_at hl 5 rfl) ?_
    refine lv_iload hx hb dL_law_1680 (lv_at hl 0 rfl) ?_
    refine lv_iconst (v := nI 3) hx hb dL_law_1682 (by decide) ?_
    refine lv_iadd hx hb dL_law_1683 ?_
    refine su_eqi (nI (i + 3)) (nI_ad _ _) ?_
    refine va_sld hx hb hX hbl hbA hS (vp_in_nI (by omega) (by omega)) dL_law_1684 ?_
    refine su_eqi (xs (i + 3)) (by rw [nI_clamp (by omega)]) ?_
    refine lv_if_eq (tgt := 1692) hx hb dL_law_1685 (by decide) (fun _ => ?_) (fun h9 => absurd hz h9)
    refine lv_iconst (v := nI 0) hx hb dL_law_1692 (by decide) ?_
    refine lv_aload_n hx hb dL_law_1693 rfl (lv_at hl 2 rfl) ?_
    refine law_wL (vx_runSW (As := [.ref (ad 0), .int (xs (i + 1)), .int (xs (i + 2)), .int (bI false), .ref oo]) (rest := []) ⟨hx, hb, hml, hown, hts⟩ (L_fewest l hfl D cI cL cZ H.size ad S oo f ok0 ok1 (xs (i + 1)) (xs (i + 2)) false kk v L0 L1 hr) (vx_cwSW 5 hts (lw_gH q_772 q_773 q_30 q_774) rfl rfl rfl (by decide +kernel) ⟨Nat.le_trans (Nat.le_of_ble_eq_true rfl) hR1, Nat.le_trans (Nat.le_of_ble_eq_true rfl) hR2⟩) (su_psx hE hS hA hN hK hP hD [0, 2, 3, 4, 5, 6, 7, 8, 9, 10, 11, 12, 13, 14, 15, 16, 17, 18, 19, 20, 21, 22, 23, 24, 25, 26, 27, 28, 29, 30, 31, 32, 33, 34, 35, 36, 37, 38, 39, 40, 41, 42, 43, 44, 45, 46, 47, 48, 49, 50, 51, 52, 53, 54, 55, 56, 57, 58, 59, 60, 61, 62, 63, 64, 65, 66, 67, 68, 69, 70] [0, 1, 2] rfl rfl rfl) rfl rfl hl.1 rfl (lv_room (Nat.le_of_ble_eq_true rfl)) dL_law_1694 ⟨Nat.le_trans (Nat.add_le_add_left (Nat.le_of_ble_eq_true rfl) _) hcc, Nat.le_trans (Nat.add_le_add_left (Nat.le_of_ble_eq_true rfl) _) hss⟩) hP hD hS hA (fun r u H locs hw hP hD hS => ?_)
    obtain ⟨S1, f1⟩ := u
    obtain rfl := hw.1
    refine lv_istore (lv' := [(6, .int (nI kk)), (5, .int (nI i)), (4, .ref od), (3, .ref oo), (2, .ref (ad2 0)), (1, .ref (ad 0)), (0, .ref b)]) hx hb dL_law_1697 hl (by decide) rfl (fun ls hl => ?_)
    refine lv_aload_n hx hb dL_law_1699 rfl (lv_at hl 4 rfl) ?_
    refine lv_aload_n hx hb dL_law_1700 rfl (lv_at hl 6 rfl) ?_
    refine lv_iload hx hb dL_law_1701 (lv_at hl 1 rfl) ?_
    refine lv_iconst (v := nI 1) hx hb dL_law_1703 (by decide) ?_
    refine lv_iadd hx hb dL_law_1704 ?_
    refine su_eqi (nI (i + 1)) (nI_ad _ _) ?_
    refine va_sld hx hb hX hbl hbA hS (vp_in_nI (by omega) (by omega)) dL_law_1705 ?_
    refine su_eqi (xs (i + 1)) (by rw [nI_clamp (by omega)]) ?_
    refine lv_aload_n hx hb dL_law_1706 rfl (lv_at hl 6 rfl) ?_
    refine lv_iload hx hb dL_law_1707 (lv_at hl 1 rfl) ?_
    refine lv_iconst (v := nI 2) hx hb dL_law_1709 (by decide) ?_
    refine lv_iadd hx hb dL_law_1710 ?_
    refine su_eqi (nI (i + 2)) (nI_ad _ _) ?_
    refine va_sld hx hb hX hbl hbA hS (vp_in_nI (by omega) (by omega)) dL_law_1711 ?_
    refine su_eqi (xs (i + 2)) (by rw [nI_clamp (by omega)]) ?_
    refine lv_aload_n hx hb dL_law_1712 rfl (lv_at hl 6 rfl) ?_
    refine lv_iload hx hb dL_law_1713 (lv_at hl 1 rfl) ?_
    refine lv_iconst (v := nI 3) hx hb dL_law_1715 (by decide) ?_
    refine lv_iadd hx hb dL_law_1716 ?_
    refine su_eqi (nI (i + 3)) (nI_ad _ _) ?_
    refine va_sld hx hb hX hbl hbA hS (vp_in_nI (by omega) (by omega)) dL_law_1717 ?_
    refine su_eqi (xs (i + 3)) (by rw [nI_clamp (by omega)]) ?_
    refine lv_if_eq (tgt := 1725) hx hb dL_law_1718 (by decide) (fun _ => ?_) (fun h9 => absurd hz h9)
    refine lv_iconst (v := nI 0) hx hb dL_law_1725 (by decide) ?_
    refine law_mi (va_runV (As := [.int (xs (i + 1)), .int (xs (i + 2)), .int (bI false)]) (rest := []) ⟨hx, hb, hml, hown, hts⟩ (M_fewest l D cI cL cZ cA cB H.size ad2 T (S.1 0) (S.1 1) (S.2.1 0) (S.2.1 1) hL0 hL1 ok0 ok1 (xs (i + 1)) (xs (i + 2)) false kk v L0 L1 hr) (cwV 3 hts (lw_gV q_1151 q_1152 q_1153 q_42 q_1154) rfl rfl rfl (by decide +kernel) ⟨Nat.le_trans (Nat.le_of_ble_eq_true rfl) hR1, Nat.le_trans (Nat.le_of_ble_eq_true rfl) hR2⟩) (su_pv hN hK hP hD [71, 72, 73, 74, 75, 76, 77, 78, 79, 80] [0, 1, 2, 3, 4] rfl rfl rfl (ci := 10) (q0 := 0) rfl rfl rfl) rfl rfl hl.1 rfl (lv_room (Nat.le_of_ble_eq_true rfl)) dL_law_1726 ⟨Nat.le_trans (by omega) hcc, Nat.le_trans (by omega) hss⟩) hP hD hS hA (fun r2 T1 H locs hw2 hP hD hS => ?_)
    refine lv_istore (lv' := [(7, .int r2), (6, .int (nI kk)), (5, .int (nI i)), (4, .ref od), (3, .ref oo), (2, .ref (ad2 0)), (1, .ref (ad 0)), (0, .ref b)]) hx hb dL_law_1729 hl (by decide) rfl (fun ls hl => ?_)
    refine lv_aload_n hx hb dL_law_1731 rfl (lv_at hl 5 rfl) ?_
    refine law_mi (va_runV (As := []) (rest := []) ⟨hx, hb, hml, hown, hts⟩ (M_thrown l D cI cL cZ cA cB H.size ad2 T1) (cwV 0 hts (lw_gV q_1018 q_1019 q_1020 q_42 q_1021) rfl rfl rfl (by decide +kernel) ⟨Nat.le_trans (Nat.le_of_ble_eq_true rfl) hR1, Nat.le_trans (Nat.le_of_ble_eq_true rfl) hR2⟩) (su_pv hN hK hP hD [71, 72, 73, 74, 75, 76, 77, 78, 79, 80] [0, 1, 2, 3, 4] rfl rfl rfl (ci := 10) (q0 := 0) rfl rfl rfl) rfl rfl hl.1 rfl (lv_room (Nat.le_of_ble_eq_true rfl)) dL_law_1732 ⟨Nat.le_trans (by omega) hcc, Nat.le_trans (by omega) hss⟩) hP hD hS hA (fun r3 u H locs ht hP hD hS => ?_)
    obtain ⟨ht, hu⟩ := ht
    have hu := hu.symm
    subst hu
    obtain rfl : r3 = nI kk := ht.trans hw2.1
    have ht : nI kk = nI kk ∧ True := ⟨rfl, trivial⟩
    refine lv_iload hx hb dL_law_1735 (lv_at hl 1 rfl) ?_
    refine lv_icmp_eq (tgt := 1742) hx hb dL_law_1737 (by decide) (fun _ => ?_) (fun h9 => absurd (by first | exact ht.1 | rfl) h9)
    refine lv_iload hx hb dL_law_1742 (lv_at hl 1 rfl) ?_
    refine lv_if_ne (tgt := 1759) hx hb dL_law_1744 (by decide) (fun h9 => ?_) (fun h9 => ?_)
    · refine lv_goto (tgt := 2877) hx hb dL_law_1759 (by decide) ?_
      refine W.widen (k := cells + 2) (n := slots + 26) (by omega) (by omega) ?_
      exact kk9 S1 f1 fd T1 H locs ls (lawI_of hw.2.2.1 hw.2.2.2 hw2.2.2.1 hw2.2.2.2 hk0 hk1) hP hD hS (lv_sub hl [2, 3, 4, 5, 6, 7] rfl)
    · have hk := kk_0 hk4 h9
      have ho : f1 0 = v.toInt64 := hw.2.1 hk
      have hv2 := hw2.2.1 hk
      refine lv_aload_n hx hb dL_law_1747 rfl (lv_at hl 4 rfl) ?_
      refine lv_iconst (v := nI 0) hx hb dL_law_1748 (by decide) ?_
      refine su_lald hx hb hK hP 0 1 rfl rfl (i := 0) (by decide) (by decide) (f1 0) rfl dL_law_1749 ?_
      refine lv_iload hx hb dL_law_1750 (lv_at hl 0 rfl) ?_
      refine lv_i2l (v := r2.toInt64) hx hb dL_law_1752 rfl ?_
      refine W.lcmp hx hb dL_law_1753 ?_
      refine su_eqi 0 (by first | (rw [ho]; exact lg_self _) | (rw [ho, hv2]; exact lg_self _)) ?_
      refine lv_if_eq (tgt := 1759) hx hb dL_law_1754 (by decide) (fun _ => ?_) (fun h9 => absurd rfl h9)
      refine lv_goto (tgt := 2877) hx hb dL_law_1759 (by decide) ?_
      refine W.widen (k := cells + 2) (n := slots + 26) (by omega) (by omega) ?_
      exact kk9 S1 f1 fd T1 H locs ls (lawI_of hw.2.2.1 hw.2.2.2 hw2.2.2.1 hw2.2.2.2 hk0 hk1) hP hD hS (lv_sub hl [2, 3, 4, 5, 6, 7] rfl)
  · obtain ⟨kk, v, L0, L1, hr, hk0, hk1, hk4⟩ := su_h1_tot ((0 : Int32)) (RT := fun g n => R_fewest g n (xs (i + 2)) true) (fun g n ok => T_fewest g n (xs (i + 2)) true ok) ok0 ok1 (xs (i + 1))
    refine lv_aload_n hx hb dL_law_1666 rfl (lv_at hl 4 rfl) ?_
    refine lv_aload_n hx hb dL_law_1667 rfl (lv_at hl 5 rfl) ?_
    refine lv_iload hx hb dL_law_1668 (lv_at hl 0 rfl) ?_
    refine lv_iconst (v := nI 1) hx hb dL_law_1670 (by decide) ?_
    refine lv_iadd hx hb dL_law_1671 ?_
    refine su_eqi (nI (i + 1)) (nI_ad _ _) ?_
    refine va_sld hx hb hX hbl hbA hS (vp_in_nI (by omega) (by omega)) dL_law_1672 ?_
    refine su_eqi (xs (i + 1)) (by rw [nI_clamp (by omega)]) ?_
    refine lv_aload_n hx hb dL_law_1673 rfl (lv_at hl 5 rfl) ?_
    refine lv_iload hx hb dL_law_1674 (lv_at hl 0 rfl) ?_
    refine lv_iconst (v := nI 2) hx hb dL_law_1676 (by decide) ?_
    refine lv_iadd hx hb dL_law_1677 ?_
    refine su_eqi (nI (i + 2)) (nI_ad _ _) ?_
    refine va_sld hx hb hX hbl hbA hS (vp_in_nI (by omega) (by omega)) dL_law_1678 ?_
    refine su_eqi (xs (i + 2)) (by rw [nI_clamp (by omega)]) ?_
    refine lv_aload_n hx hb dL_law_1679 rfl (lv_at hl 5 rfl) ?_
    refine lv_iload hx hb dL_law_1680 (lv_at hl 0 rfl) ?_
    refine lv_iconst (v := nI 3) hx hb dL_law_1682 (by decide) ?_
    refine lv_iadd hx hb dL_law_1683 ?_
    refine su_eqi (nI (i + 3)) (nI_ad _ _) ?_
    refine va_sld hx hb hX hbl hbA hS (vp_in_nI (by omega) (by omega)) dL_law_1684 ?_
    refine su_eqi (xs (i + 3)) (by rw [nI_clamp (by omega)]) ?_
    refine lv_if_eq (tgt := 1692) hx hb dL_law_1685 (by decide) (fun h9 => absurd h9 hz) (fun _ => ?_)
    refine lv_iconst (v := nI 1) hx hb dL_law_1688 (by decide) ?_
    refine lv_goto (tgt := 1693) hx hb dL_law_1689 (by decide) ?_
    refine lv_aload_n hx hb dL_law_1693 rfl (lv_at hl 2 rfl) ?_
    refine law_wL (vx_runSW (As := [.ref (ad 0), .int (xs (i + 1)), .int (xs (i + 2)), .int (bI true), .ref oo]) (rest := []) ⟨hx, hb, hml, hown, hts⟩ (L_fewest l hfl D cI cL cZ H.size ad S oo f ok0 ok1 (xs (i + 1)) (xs (i + 2)) true kk v L0 L1 hr) (vx_cwSW 5 hts (lw_gH q_772 q_773 q_30 q_774) rfl rfl rfl (by decide +kernel) ⟨Nat.le_trans (Nat.le_of_ble_eq_true rfl) hR1, Nat.le_trans (Nat.le_of_ble_eq_true rfl) hR2⟩) (su_psx hE hS hA hN hK hP hD [0, 2, 3, 4, 5, 6, 7, 8, 9, 10, 11, 12, 13, 14, 15, 16, 17, 18, 19, 20, 21, 22, 23, 24, 25, 26, 27, 28, 29, 30, 31, 32, 33, 34, 35, 36, 37, 38, 39, 40, 41, 42, 43, 44, 45, 46, 47, 48, 49, 50, 51, 52, 53, 54, 55, 56, 57, 58, 59, 60, 61, 62, 63, 64, 65, 66, 67, 68, 69, 70] [0, 1, 2] rfl rfl rfl) rfl rfl hl.1 rfl (lv_room (Nat.le_of_ble_eq_true rfl)) dL_law_1694 ⟨Nat.le_trans (Nat.add_le_add_left (Nat.le_of_ble_eq_true rfl) _) hcc, Nat.le_trans (Nat.add_le_add_left (Nat.le_of_ble_eq_true rfl) _) hss⟩) hP hD hS hA (fun r u H locs hw hP hD hS => ?_)
    obtain ⟨S1, f1⟩ := u
    obtain rfl := hw.1
    refine lv_istore (lv' := [(6, .int (nI kk)), (5, .int (nI i)), (4, .ref od), (3, .ref oo), (2, .ref (ad2 0)), (1, .ref (ad 0)), (0, .ref b)]) hx hb dL_law_1697 hl (by decide) rfl (fun ls hl => ?_)
    refine lv_aload_n hx hb dL_law_1699 rfl (lv_at hl 4 rfl) ?_
    refine lv_aload_n hx hb dL_law_1700 rfl (lv_at hl 6 rfl) ?_
    refine lv_iload hx hb dL_law_1701 (lv_at hl 1 rfl) ?_
    refine lv_iconst (v := nI 1) hx hb dL_law_1703 (by decide) ?_
    refine lv_iadd hx hb dL_law_1704 ?_
    refine su_eqi (nI (i + 1)) (nI_ad _ _) ?_
    refine va_sld hx hb hX hbl hbA hS (vp_in_nI (by omega) (by omega)) dL_law_1705 ?_
    refine su_eqi (xs (i + 1)) (by rw [nI_clamp (by omega)]) ?_
    refine lv_aload_n hx hb dL_law_1706 rfl (lv_at hl 6 rfl) ?_
    refine lv_iload hx hb dL_law_1707 (lv_at hl 1 rfl) ?_
    refine lv_iconst (v := nI 2) hx hb dL_law_1709 (by decide) ?_
    refine lv_iadd hx hb dL_law_1710 ?_
    refine su_eqi (nI (i + 2)) (nI_ad _ _) ?_
    refine va_sld hx hb hX hbl hbA hS (vp_in_nI (by omega) (by omega)) dL_law_1711 ?_
    refine su_eqi (xs (i + 2)) (by rw [nI_clamp (by omega)]) ?_
    refine lv_aload_n hx hb dL_law_1712 rfl (lv_at hl 6 rfl) ?_
    refine lv_iload hx hb dL_law_1713 (lv_at hl 1 rfl) ?_
    refine lv_iconst (v := nI 3) hx hb dL_law_1715 (by decide) ?_
    refine lv_iadd hx hb dL_law_1716 ?_
    refine su_eqi (nI (i + 3)) (nI_ad _ _) ?_
    refine va_sld hx hb hX hbl hbA hS (vp_in_nI (by omega) (by omega)) dL_law_1717 ?_
    refine su_eqi (xs (i + 3)) (by rw [nI_clamp (by omega)]) ?_
    refine lv_if_eq (tgt := 1725) hx hb dL_law_1718 (by decide) (fun h9 => absurd h9 hz) (fun _ => ?_)
    refine lv_iconst (v := nI 1) hx hb dL_law_1721 (by decide) ?_
    refine lv_goto (tgt := 1726) hx hb dL_law_1722 (by decide) ?_
    refine law_mi (va_runV (As := [.int (xs (i + 1)), .int (xs (i + 2)), .int (bI true)]) (rest := []) ⟨hx, hb, hml, hown, hts⟩ (M_fewest l D cI cL cZ cA cB H.size ad2 T (S.1 0) (S.1 1) (S.2.1 0) (S.2.1 1) hL0 hL1 ok0 ok1 (xs (i + 1)) (xs (i + 2)) true kk v L0 L1 hr) (cwV 3 hts (lw_gV q_1151 q_1152 q_1153 q_42 q_1154) rfl rfl rfl (by decide +kernel) ⟨Nat.le_trans (Nat.le_of_ble_eq_true rfl) hR1, Nat.le_trans (Nat.le_of_ble_eq_true rfl) hR2⟩) (su_pv hN hK hP hD [71, 72, 73, 74, 75, 76, 77, 78, 79, 80] [0, 1, 2, 3, 4] rfl rfl rfl (ci := 10) (q0 := 0) rfl rfl rfl) rfl rfl hl.1 rfl (lv_room (Nat.le_of_ble_eq_true rfl)) dL_law_1726 ⟨Nat.le_trans (by omega) hcc, Nat.le_trans (by omega) hss⟩) hP hD hS hA (fun r2 T1 H locs hw2 hP hD hS => ?_)
    refine lv_istore (lv' := [(7, .int r2), (6, .int (nI kk)), (5, .int (nI i)), (4, .ref od), (3, .ref oo), (2, .ref (ad2 0)), (1, .ref (ad 0)), (0, .ref b)]) hx hb dL_law_1729 hl (by decide) rfl (fun ls hl => ?_)
    refine lv_aload_n hx hb dL_law_1731 rfl (lv_at hl 5 rfl) ?_
    refine law_mi (va_runV (As := []) (rest := []) ⟨hx, hb, hml, hown, hts⟩ (M_thrown l D cI cL cZ cA cB H.size ad2 T1) (cwV 0 hts (lw_gV q_1018 q_1019 q_1020 q_42 q_1021) rfl rfl rfl (by decide +kernel) ⟨Nat.le_trans (Nat.le_of_ble_eq_true rfl) hR1, Nat.le_trans (Nat.le_of_ble_eq_true rfl) hR2⟩) (su_pv hN hK hP hD [71, 72, 73, 74, 75, 76, 77, 78, 79, 80] [0, 1, 2, 3, 4] rfl rfl rfl (ci := 10) (q0 := 0) rfl rfl rfl) rfl rfl hl.1 rfl (lv_room (Nat.le_of_ble_eq_true rfl)) dL_law_1732 ⟨Nat.le_trans (by omega) hcc, Nat.le_trans (by omega) hss⟩) hP hD hS hA (fun r3 u H locs ht hP hD hS => ?_)
    obtain ⟨ht, hu⟩ := ht
    have hu := hu.symm
    subst hu
    obtain rfl : r3 = nI kk := ht.trans hw2.1
    have ht : nI kk = nI kk ∧ True := ⟨rfl, trivial⟩
    refine lv_iload hx hb dL_law_1735 (lv_at hl 1 rfl) ?_
    refine lv_icmp_eq (tgt := 1742) hx hb dL_law_1737 (by decide) (fun _ => ?_) (fun h9 => absurd (by first | exact ht.1 | rfl) h9)
    refine lv_iload hx hb dL_law_1742 (lv_at hl 1 rfl) ?_
    refine lv_if_ne (tgt := 1759) hx hb dL_law_1744 (by decide) (fun h9 => ?_) (fun h9 => ?_)
    · refine lv_goto (tgt := 2877) hx hb dL_law_1759 (by decide) ?_
      refine W.widen (k := cells + 2) (n := slots + 26) (by omega) (by omega) ?_
      exact kk9 S1 f1 fd T1 H locs ls (lawI_of hw.2.2.1 hw.2.2.2 hw2.2.2.1 hw2.2.2.2 hk0 hk1) hP hD hS (lv_sub hl [2, 3, 4, 5, 6, 7] rfl)
    · have hk := kk_0 hk4 h9
      have ho : f1 0 = v.toInt64 := hw.2.1 hk
      have hv2 := hw2.2.1 hk
      refine lv_aload_n hx hb dL_law_1747 rfl (lv_at hl 4 rfl) ?_
      refine lv_iconst (v := nI 0) hx hb dL_law_1748 (by decide) ?_
      refine su_lald hx hb hK hP 0 1 rfl rfl (i := 0) (by decide) (by decide) (f1 0) rfl dL_law_1749 ?_
      refine lv_iload hx hb dL_law_1750 (lv_at hl 0 rfl) ?_
      refine lv_i2l (v := r2.toInt64) hx hb dL_law_1752 rfl ?_
      refine W.lcmp hx hb dL_law_1753 ?_
      refine su_eqi 0 (by first | (rw [ho]; exact lg_self _) | (rw [ho, hv2]; exact lg_self _)) ?_
      refine lv_if_eq (tgt := 1759) hx hb dL_law_1754 (by decide) (fun _ => ?_) (fun h9 => absurd rfl h9)
      refine lv_goto (tgt := 2877) hx hb dL_law_1759 (by decide) ?_
      refine W.widen (k := cells + 2) (n := slots + 26) (by omega) (by omega) ?_
      exact kk9 S1 f1 fd T1 H locs ls (lawI_of hw.2.2.1 hw.2.2.2 hw2.2.2.1 hw2.2.2.2 hk0 hk1) hP hD hS (lv_sub hl [2, 3, 4, 5, 6, 7] rfl)
set_option maxHeartbeats 4000000 in
set_option maxRecDepth 100000 in
theorem case_choice {p : Program} {l : Launch} {e : Env} {R : Room} {s : State} {m : MethodId} {args : Array Value} {below : List Frame} {meth : Method} {c : Code} {Q : State → Prop} {A : Nat → Prop} {D : va_G} {cI cL cZ cA cB cD : ClassId} {b L : Nat} {xs : Nat → Int32} {ad ad2 : Nat → Nat} {oo od : Nat}
    (C9 : lawC p l s m args c A D cI cL cZ cA cB cD b L xs R) {i : Nat} (hi : i + 4 ≤ L) {S : CS} {f : Nat → Int64} {fd : Nat → UInt64} {T : MS} (I9 : lawI S T) {H : Heap} {locs : List Loc} {ls : Array Slot} {cells slots : Nat} (hcc : cells + 2 ≤ R.cells) (hss : slots + 26 ≤ R.slots)
    (hP : va_P D vwCl (lawW ad ad2 cI cL cZ cA cB cD oo od S f fd T) H) (hD : va_D A (lawW ad ad2 cI cL cZ cA cB cD oo od S f fd T)) (hS : va_S A s.heap H locs) (hl : lv_has ls 9 [(5, .int (nI i)), (4, .ref od), (3, .ref oo), (2, .ref (ad2 0)), (1, .ref (ad 0)), (0, .ref b)])
    (kk9 : lawK p l e R s m args below meth c Q A D cI cL cZ cA cB cD b ad ad2 oo od i cells slots) : W p l e R s m args below meth c H locs cells slots Q (F0 m 2041 ls []) := by
  obtain ⟨hx, hb, hml, hown, hts, hN, hE, hfl, hX, hbl, hbA, hA, hK, hR1, hR2, hL⟩ := C9
  obtain ⟨ok0, ok1, hL0, hL1⟩ := I9
  obtain ⟨kk, v, L0, L1, hr, hk0, hk1, hk4⟩ := su_h1_tot ((0 : Int32)) (RT := fun g n => R_choice g n (xs (i + 2)) (xs (i + 3))) (fun g n ok => T_choice g n (xs (i + 2)) (xs (i + 3)) ok) ok0 ok1 (xs (i + 1))
  refine lv_aload_n hx hb dL_law_2041 rfl (lv_at hl 4 rfl) ?_
  refine lv_aload_n hx hb dL_law_2042 rfl (lv_at hl 5 rfl) ?_
  refine lv_iload hx hb dL_law_2043 (lv_at hl 0 rfl) ?_
  refine lv_iconst (v := nI 1) hx hb dL_law_2045 (by decide) ?_
  refine lv_iadd hx hb dL_law_2046 ?_
  refine su_eqi (nI (i + 1)) (nI_ad _ _) ?_
  refine va_sld hx hb hX hbl hbA hS (vp_in_nI (by omega) (by omega)) dL_law_2047 ?_
  refine su_eqi (xs (i + 1)) (by rw [nI_clamp (by omega)]) ?_
  refine lv_aload_n hx hb dL_law_2048 rfl (lv_at hl 5 rfl) ?_
  refine lv_iload hx hb dL_law_2049 (lv_at hl 0 rfl) ?_
  refine lv_iconst (v := nI 2) hx hb dL_law_2051 (by decide) ?_
  refine lv_iadd hx hb dL_law_2052 ?_
  refine su_eqi (nI (i + 2)) (nI_ad _ _) ?_
  refine va_sld hx hb hX hbl hbA hS (vp_in_nI (by omega) (by omega)) dL_law_2053 ?_
  refine su_eqi (xs (i + 2)) (by rw [nI_clamp (by omega)]) ?_
  refine lv_aload_n hx hb dL_law_2054 rfl (lv_at hl 5 rfl) ?_
  refine lv_iload hx hb dL_law_2055 (lv_at hl 0 rfl) ?_
  refine lv_iconst (v := nI 3) hx hb dL_law_2057 (by decide) ?_
  refine lv_iadd hx hb dL_law_2058 ?_
  refine su_eqi (nI (i + 3)) (nI_ad _ _) ?_
  refine va_sld hx hb hX hbl hbA hS (vp_in_nI (by omega) (by omega)) dL_law_2059 ?_
  refine su_eqi (xs (i + 3)) (by rw [nI_clamp (by omega)]) ?_
  refine lv_aload_n hx hb dL_law_2060 rfl (lv_at hl 2 rfl) ?_
  refine law_wL (vx_runSW (As := [.ref (ad 0), .int (xs (i + 1)), .int (xs (i + 2)), .int (xs (i + 3)), .ref oo]) (rest := []) ⟨hx, hb, hml, hown, hts⟩ (L_choice l hfl D cI cL cZ H.size ad S oo f ok0 ok1 (xs (i + 1)) (xs (i + 2)) (xs (i + 3)) kk v L0 L1 hr) (vx_cwSW 5 hts (lw_gH q_832 q_833 q_30 q_834) rfl rfl rfl (by decide +kernel) ⟨Nat.le_trans (Nat.le_of_ble_eq_true rfl) hR1, Nat.le_trans (Nat.le_of_ble_eq_true rfl) hR2⟩) (su_psx hE hS hA hN hK hP hD [0, 2, 3, 4, 5, 6, 7, 8, 9, 10, 11, 12, 13, 14, 15, 16, 17, 18, 19, 20, 21, 22, 23, 24, 25, 26, 27, 28, 29, 30, 31, 32, 33, 34, 35, 36, 37, 38, 39, 40, 41, 42, 43, 44, 45, 46, 47, 48, 49, 50, 51, 52, 53, 54, 55, 56, 57, 58, 59, 60, 61, 62, 63, 64, 65, 66, 67, 68, 69, 70] [0, 1, 2] rfl rfl rfl) rfl rfl hl.1 rfl (lv_room (Nat.le_of_ble_eq_true rfl)) dL_law_2061 ⟨Nat.le_trans (Nat.add_le_add_left (Nat.le_of_ble_eq_true rfl) _) hcc, Nat.le_trans (Nat.add_le_add_left (Nat.le_of_ble_eq_true rfl) _) hss⟩) hP hD hS hA (fun r u H locs hw hP hD hS => ?_)
  obtain ⟨S1, f1⟩ := u
  obtain rfl := hw.1
  refine lv_istore (lv' := [(6, .int (nI kk)), (5, .int (nI i)), (4, .ref od), (3, .ref oo), (2, .ref (ad2 0)), (1, .ref (ad 0)), (0, .ref b)]) hx hb dL_law_2064 hl (by decide) rfl (fun ls hl => ?_)
  refine lv_aload_n hx hb dL_law_2066 rfl (lv_at hl 4 rfl) ?_
  refine lv_aload_n hx hb dL_law_2067 rfl (lv_at hl 6 rfl) ?_
  refine lv_iload hx hb dL_law_2068 (lv_at hl 1 rfl) ?_
  refine lv_iconst (v := nI 1) hx hb dL_law_2070 (by decide) ?_
  refine lv_iadd hx hb dL_law_2071 ?_
  refine su_eqi (nI (i + 1)) (nI_ad _ _) ?_
  refine va_sld hx hb hX hbl hbA hS (vp_in_nI (by omega) (by omega)) dL_law_2072 ?_
  refine su_eqi (xs (i + 1)) (by rw [nI_clamp (by omega)]) ?_
  refine lv_aload_n hx hb dL_law_2073 rfl (lv_at hl 6 rfl) ?_
  refine lv_iload hx hb dL_law_2074 (lv_at hl 1 rfl) ?_
  refine lv_iconst (v := nI 2) hx hb dL_law_2076 (by decide) ?_
  refine lv_iadd hx hb dL_law_2077 ?_
  refine su_eqi (nI (i + 2)) (nI_ad _ _) ?_
  refine va_sld hx hb hX hbl hbA hS (vp_in_nI (by omega) (by omega)) dL_law_2078 ?_
  refine su_eqi (xs (i + 2)) (by rw [nI_clamp (by omega)]) ?_
  refine lv_aload_n hx hb dL_law_2079 rfl (lv_at hl 6 rfl) ?_
  refine lv_iload hx hb dL_law_2080 (lv_at hl 1 rfl) ?_
  refine lv_iconst (v := nI 3) hx hb dL_law_2082 (by decide) ?_
  refine lv_iadd hx hb dL_law_2083 ?_
  refine su_eqi (nI (i + 3)) (nI_ad _ _) ?_
  refine va_sld hx hb hX hbl hbA hS (vp_in_nI (by omega) (by omega)) dL_law_2084 ?_
  refine su_eqi (xs (i + 3)) (by rw [nI_clamp (by omega)]) ?_
  refine law_mi (va_runV (As := [.int (xs (i + 1)), .int (xs (i + 2)), .int (xs (i + 3))]) (rest := []) ⟨hx, hb, hml, hown, hts⟩ (M_choice l D cI cL cZ cA cB H.size ad2 T (S.1 0) (S.1 1) (S.2.1 0) (S.2.1 1) hL0 hL1 ok0 ok1 (xs (i + 1)) (xs (i + 2)) (xs (i + 3)) kk v L0 L1 hr) (cwV 3 hts (lw_gV q_1171 q_1172 q_1173 q_42 q_1174) rfl rfl rfl (by decide +kernel) ⟨Nat.le_trans (Nat.le_of_ble_eq_true rfl) hR1, Nat.le_trans (Nat.le_of_ble_eq_true rfl) hR2⟩) (su_pv hN hK hP hD [71, 72, 73, 74, 75, 76, 77, 78, 79, 80] [0, 1, 2, 3, 4] rfl rfl rfl (ci := 10) (q0 := 0) rfl rfl rfl) rfl rfl hl.1 rfl (lv_room (Nat.le_of_ble_eq_true rfl)) dL_law_2085 ⟨Nat.le_trans (by omega) hcc, Nat.le_trans (by omega) hss⟩) hP hD hS hA (fun r2 T1 H locs hw2 hP hD hS => ?_)
  refine lv_istore (lv' := [(7, .int r2), (6, .int (nI kk)), (5, .int (nI i)), (4, .ref od), (3, .ref oo), (2, .ref (ad2 0)), (1, .ref (ad 0)), (0, .ref b)]) hx hb dL_law_2088 hl (by decide) rfl (fun ls hl => ?_)
  refine lv_aload_n hx hb dL_law_2090 rfl (lv_at hl 5 rfl) ?_
  refine law_mi (va_runV (As := []) (rest := []) ⟨hx, hb, hml, hown, hts⟩ (M_thrown l D cI cL cZ cA cB H.size ad2 T1) (cwV 0 hts (lw_gV q_1018 q_1019 q_1020 q_42 q_1021) rfl rfl rfl (by decide +kernel) ⟨Nat.le_trans (Nat.le_of_ble_eq_true rfl) hR1, Nat.le_trans (Nat.le_of_ble_eq_true rfl) hR2⟩) (su_pv hN hK hP hD [71, 72, 73, 74, 75, 76, 77, 78, 79, 80] [0, 1, 2, 3, 4] rfl rfl rfl (ci := 10) (q0 := 0) rfl rfl rfl) rfl rfl hl.1 rfl (lv_room (Nat.le_of_ble_eq_true rfl)) dL_law_2091 ⟨Nat.le_trans (by omega) hcc, Nat.le_trans (by omega) hss⟩) hP hD hS hA (fun r3 u H locs ht hP hD hS => ?_)
  obtain ⟨ht, hu⟩ := ht
  have hu := hu.symm
  subst hu
  obtain rfl : r3 = nI kk := ht.trans hw2.1
  have ht : nI kk = nI kk ∧ True := ⟨rfl, trivial⟩
  refine lv_iload hx hb dL_law_2094 (lv_at hl 1 rfl) ?_
  refine lv_icmp_eq (tgt := 2101) hx hb dL_law_2096 (by decide) (fun _ => ?_) (fun h9 => absurd (by first | exact ht.1 | rfl) h9)
  refine lv_iload hx hb dL_law_2101 (lv_at hl 1 rfl) ?_
  refine lv_if_ne (tgt := 2118) hx hb dL_law_2103 (by decide) (fun h9 => ?_) (fun h9 => ?_)
  · refine lv_goto (tgt := 2877) hx hb dL_law_2118 (by decide) ?_
    refine W.widen (k := cells + 2) (n := slots + 26) (by omega) (by omega) ?_
    exact kk9 S1 f1 fd T1 H locs ls (lawI_of hw.2.2.1 hw.2.2.2 hw2.2.2.1 hw2.2.2.2 hk0 hk1) hP hD hS (lv_sub hl [2, 3, 4, 5, 6, 7] rfl)
  · have hk := kk_0 hk4 h9
    have ho : f1 0 = v.toInt64 := hw.2.1 hk
    have hv2 := hw2.2.1 hk
    refine lv_aload_n hx hb dL_law_2106 rfl (lv_at hl 4 rfl) ?_
    refine lv_iconst (v := nI 0) hx hb dL_law_2107 (by decide) ?_
    refine su_lald hx hb hK hP 0 1 rfl rfl (i := 0) (by decide) (by decide) (f1 0) rfl dL_law_2108 ?_
    refine lv_iload hx hb dL_law_2109 (lv_at hl 0 rfl) ?_
    refine lv_i2l (v := r2.toInt64) hx hb dL_law_2111 rfl ?_
    refine W.lcmp hx hb dL_law_2112 ?_
    refine su_eqi 0 (by first | (rw [ho]; exact lg_self _) | (rw [ho, hv2]; exact lg_self _)) ?_
    refine lv_if_eq (tgt := 2118) hx hb dL_law_2113 (by decide) (fun _ => ?_) (fun h9 => absurd rfl h9)
    refine lv_goto (tgt := 2877) hx hb dL_law_2118 (by decide) ?_
    refine W.widen (k := cells + 2) (n := slots + 26) (by omega) (by omega) ?_
    exact kk9 S1 f1 fd T1 H locs ls (lawI_of hw.2.2.1 hw.2.2.2 hw2.2.2.1 hw2.2.2.2 hk0 hk1) hP hD hS (lv_sub hl [2, 3, 4, 5, 6, 7] rfl)
set_option maxHeartbeats 4000000 in
set_option maxRecDepth 100000 in
theorem case_isLike {p : Program} {l : Launch} {e : Env} {R : Room} {s : State} {m : MethodId} {args : Array Value} {below : List Frame} {meth : Method} {c : Code} {Q : State → Prop} {A : Nat → Prop} {D : va_G} {cI cL cZ cA cB cD : ClassId} {b L : Nat} {xs : Nat → Int32} {ad ad2 : Nat → Nat} {oo od : Nat}
    (C9 : lawC p l s m args c A D cI cL cZ cA cB cD b L xs R) {i : Nat} (hi : i + 4 ≤ L) {S : CS} {f : Nat → Int64} {fd : Nat → UInt64} {T : MS} (I9 : lawI S T) {H : Heap} {locs : List Loc} {ls : Array Slot} {cells slots : Nat} (hcc : cells + 2 ≤ R.cells) (hss : slots + 26 ≤ R.slots)
    (hP : va_P D vwCl (lawW ad ad2 cI cL cZ cA cB cD oo od S f fd T) H) (hD : va_D A (lawW ad ad2 cI cL cZ cA cB cD oo od S f fd T)) (hS : va_S A s.heap H locs) (hl : lv_has ls 9 [(5, .int (nI i)), (4, .ref od), (3, .ref oo), (2, .ref (ad2 0)), (1, .ref (ad 0)), (0, .ref b)])
    (kk9 : lawK p l e R s m args below meth c Q A D cI cL cZ cA cB cD b ad ad2 oo od i cells slots) : W p l e R s m args below meth c H locs cells slots Q (F0 m 2407 ls []) := by
  obtain ⟨hx, hb, hml, hown, hts, hN, hE, hfl, hX, hbl, hbA, hA, hK, hR1, hR2, hL⟩ := C9
  obtain ⟨ok0, ok1, hL0, hL1⟩ := I9
  obtain ⟨kk, v, L0, L1, hr, hk0, hk1, hk4⟩ := T_isLike (S.1 0) (S.2.1 0) (S.1 1) (S.2.1 1) (xs (i + 1)) (xs (i + 2)) ok0 ok1
  refine lv_aload_n hx hb dL_law_2407 rfl (lv_at hl 4 rfl) ?_
  refine lv_aload_n hx hb dL_law_2408 rfl (lv_at hl 5 rfl) ?_
  refine lv_iload hx hb dL_law_2409 (lv_at hl 0 rfl) ?_
  refine lv_iconst (v := nI 1) hx hb dL_law_2411 (by decide) ?_
  refine lv_iadd hx hb dL_law_2412 ?_
  refine su_eqi (nI (i + 1)) (nI_ad _ _) ?_
  refine va_sld hx hb hX hbl hbA hS (vp_in_nI (by omega) (by omega)) dL_law_2413 ?_
  refine su_eqi (xs (i + 1)) (by rw [nI_clamp (by omega)]) ?_
  refine lv_aload_n hx hb dL_law_2414 rfl (lv_at hl 5 rfl) ?_
  refine lv_iload hx hb dL_law_2415 (lv_at hl 0 rfl) ?_
  refine lv_iconst (v := nI 2) hx hb dL_law_2417 (by decide) ?_
  refine lv_iadd hx hb dL_law_2418 ?_
  refine su_eqi (nI (i + 2)) (nI_ad _ _) ?_
  refine va_sld hx hb hX hbl hbA hS (vp_in_nI (by omega) (by omega)) dL_law_2419 ?_
  refine su_eqi (xs (i + 2)) (by rw [nI_clamp (by omega)]) ?_
  refine lv_aload_n hx hb dL_law_2420 rfl (lv_at hl 2 rfl) ?_
  refine law_wL (vx_runSW (As := [.ref (ad 0), .int (xs (i + 1)), .int (xs (i + 2)), .ref oo]) (rest := []) ⟨hx, hb, hml, hown, hts⟩ (L_isLike l hfl D cI cL cZ H.size ad S oo f ok0 ok1 (xs (i + 1)) (xs (i + 2)) kk v L0 L1 hr) (vx_cwSW 4 hts (lw_gH q_893 q_894 q_30 q_895) rfl rfl rfl (by decide +kernel) ⟨Nat.le_trans (Nat.le_of_ble_eq_true rfl) hR1, Nat.le_trans (Nat.le_of_ble_eq_true rfl) hR2⟩) (su_psx hE hS hA hN hK hP hD [0, 2, 3, 4, 5, 6, 7, 8, 9, 10, 11, 12, 13, 14, 15, 16, 17, 18, 19, 20, 21, 22, 23, 24, 25, 26, 27, 28, 29, 30, 31, 32, 33, 34, 35, 36, 37, 38, 39, 40, 41, 42, 43, 44, 45, 46, 47, 48, 49, 50, 51, 52, 53, 54, 55, 56, 57, 58, 59, 60, 61, 62, 63, 64, 65, 66, 67, 68, 69, 70] [0, 1, 2] rfl rfl rfl) rfl rfl hl.1 rfl (lv_room (Nat.le_of_ble_eq_true rfl)) dL_law_2421 ⟨Nat.le_trans (Nat.add_le_add_left (Nat.le_of_ble_eq_true rfl) _) hcc, Nat.le_trans (Nat.add_le_add_left (Nat.le_of_ble_eq_true rfl) _) hss⟩) hP hD hS hA (fun r u H locs hw hP hD hS => ?_)
  obtain ⟨S1, f1⟩ := u
  obtain rfl := hw.1
  refine lv_istore (lv' := [(6, .int (nI kk)), (5, .int (nI i)), (4, .ref od), (3, .ref oo), (2, .ref (ad2 0)), (1, .ref (ad 0)), (0, .ref b)]) hx hb dL_law_2424 hl (by decide) rfl (fun ls hl => ?_)
  refine lv_aload_n hx hb dL_law_2426 rfl (lv_at hl 4 rfl) ?_
  refine lv_aload_n hx hb dL_law_2427 rfl (lv_at hl 6 rfl) ?_
  refine lv_iload hx hb dL_law_2428 (lv_at hl 1 rfl) ?_
  refine lv_iconst (v := nI 1) hx hb dL_law_2430 (by decide) ?_
  refine lv_iadd hx hb dL_law_2431 ?_
  refine su_eqi (nI (i + 1)) (nI_ad _ _) ?_
  refine va_sld hx hb hX hbl hbA hS (vp_in_nI (by omega) (by omega)) dL_law_2432 ?_
  refine su_eqi (xs (i + 1)) (by rw [nI_clamp (by omega)]) ?_
  refine lv_aload_n hx hb dL_law_2433 rfl (lv_at hl 6 rfl) ?_
  refine lv_iload hx hb dL_law_2434 (lv_at hl 1 rfl) ?_
  refine lv_iconst (v := nI 2) hx hb dL_law_2436 (by decide) ?_
  refine lv_iadd hx hb dL_law_2437 ?_
  refine su_eqi (nI (i + 2)) (nI_ad _ _) ?_
  refine va_sld hx hb hX hbl hbA hS (vp_in_nI (by omega) (by omega)) dL_law_2438 ?_
  refine su_eqi (xs (i + 2)) (by rw [nI_clamp (by omega)]) ?_
  refine law_mi (va_runV (As := [.int (xs (i + 1)), .int (xs (i + 2))]) (rest := []) ⟨hx, hb, hml, hown, hts⟩ (M_isLike l D cI cL cZ cA cB H.size ad2 T (S.1 0) (S.1 1) (S.2.1 0) (S.2.1 1) hL0 hL1 ok0 ok1 (xs (i + 1)) (xs (i + 2)) kk v L0 L1 hr) (cwV 2 hts (lw_gV q_1203 q_1204 q_1205 q_42 q_1206) rfl rfl rfl (by decide +kernel) ⟨Nat.le_trans (Nat.le_of_ble_eq_true rfl) hR1, Nat.le_trans (Nat.le_of_ble_eq_true rfl) hR2⟩) (su_pv hN hK hP hD [71, 72, 73, 74, 75, 76, 77, 78, 79, 80] [0, 1, 2, 3, 4] rfl rfl rfl (ci := 10) (q0 := 0) rfl rfl rfl) rfl rfl hl.1 rfl (lv_room (Nat.le_of_ble_eq_true rfl)) dL_law_2439 ⟨Nat.le_trans (by omega) hcc, Nat.le_trans (by omega) hss⟩) hP hD hS hA (fun r2 T1 H locs hw2 hP hD hS => ?_)
  refine lv_istore (lv' := [(7, .int r2), (6, .int (nI kk)), (5, .int (nI i)), (4, .ref od), (3, .ref oo), (2, .ref (ad2 0)), (1, .ref (ad 0)), (0, .ref b)]) hx hb dL_law_2442 hl (by decide) rfl (fun ls hl => ?_)
  refine lv_aload_n hx hb dL_law_2444 rfl (lv_at hl 5 rfl) ?_
  refine law_mi (va_runV (As := []) (rest := []) ⟨hx, hb, hml, hown, hts⟩ (M_thrown l D cI cL cZ cA cB H.size ad2 T1) (cwV 0 hts (lw_gV q_1018 q_1019 q_1020 q_42 q_1021) rfl rfl rfl (by decide +kernel) ⟨Nat.le_trans (Nat.le_of_ble_eq_true rfl) hR1, Nat.le_trans (Nat.le_of_ble_eq_true rfl) hR2⟩) (su_pv hN hK hP hD [71, 72, 73, 74, 75, 76, 77, 78, 79, 80] [0, 1, 2, 3, 4] rfl rfl rfl (ci := 10) (q0 := 0) rfl rfl rfl) rfl rfl hl.1 rfl (lv_room (Nat.le_of_ble_eq_true rfl)) dL_law_2445 ⟨Nat.le_trans (by omega) hcc, Nat.le_trans (by omega) hss⟩) hP hD hS hA (fun r3 u H locs ht hP hD hS => ?_)
  obtain ⟨ht, hu⟩ := ht
  have hu := hu.symm
  subst hu
  obtain rfl : r3 = nI kk := ht.trans hw2.1
  have ht : nI kk = nI kk ∧ True := ⟨rfl, trivial⟩
  refine lv_iload hx hb dL_law_2448 (lv_at hl 1 rfl) ?_
  refine lv_icmp_eq (tgt := 2455) hx hb dL_law_2450 (by decide) (fun _ => ?_) (fun h9 => absurd (by first | exact ht.1 | rfl) h9)
  refine lv_iload hx hb dL_law_2455 (lv_at hl 1 rfl) ?_
  refine lv_if_ne (tgt := 2479) hx hb dL_law_2457 (by decide) (fun h9 => ?_) (fun h9 => ?_)
  · refine lv_goto (tgt := 2877) hx hb dL_law_2479 (by decide) ?_
    refine W.widen (k := cells + 2) (n := slots + 26) (by omega) (by omega) ?_
    exact kk9 S1 f1 fd T1 H locs ls (lawI_of hw.2.2.1 hw.2.2.2 hw2.2.2.1 hw2.2.2.2 hk0 hk1) hP hD hS (lv_sub hl [2, 3, 4, 5, 6, 7] rfl)
  · have hk := kk_0 hk4 h9
    have ho : f1 0 = su_z01 v := hw.2.1 hk
    have hv2 := hw2.2.1 hk
    refine lv_aload_n hx hb dL_law_2460 rfl (lv_at hl 4 rfl) ?_
    refine lv_iconst (v := nI 0) hx hb dL_law_2461 (by decide) ?_
    refine su_lald hx hb hK hP 0 1 rfl rfl (i := 0) (by decide) (by decide) (f1 0) rfl dL_law_2462 ?_
    refine lv_iload hx hb dL_law_2463 (lv_at hl 0 rfl) ?_
    refine lv_if_eq (tgt := 2472) hx hb dL_law_2465 (by decide) (fun cz => ?_) (fun cz => ?_)
    · have ho := ho.trans (show su_z01 v = 0 from if_pos (by rw [← hv2]; exact cz))
      refine lv_lconst (v := 0) hx hb dL_law_2472 (by decide) ?_
      refine W.lcmp hx hb dL_law_2473 ?_
      refine su_eqi 0 (by first | (rw [ho]; exact lg_self _) | (rw [ho, hv2]; exact lg_self _)) ?_
      refine lv_if_eq (tgt := 2479) hx hb dL_law_2474 (by decide) (fun _ => ?_) (fun h9 => absurd rfl h9)
      refine lv_goto (tgt := 2877) hx hb dL_law_2479 (by decide) ?_
      refine W.widen (k := cells + 2) (n := slots + 26) (by omega) (by omega) ?_
      exact kk9 S1 f1 fd T1 H locs ls (lawI_of hw.2.2.1 hw.2.2.2 hw2.2.2.1 hw2.2.2.2 hk0 hk1) hP hD hS (lv_sub hl [2, 3, 4, 5, 6, 7] rfl)
    · have ho := ho.trans (show su_z01 v = 1 from if_neg (by rw [← hv2]; exact cz))
      refine lv_lconst (v := 1) hx hb dL_law_2468 (by decide) ?_
      refine lv_goto (tgt := 2473) hx hb dL_law_2469 (by decide) ?_
      refine W.lcmp hx hb dL_law_2473 ?_
      refine su_eqi 0 (by first | (rw [ho]; exact lg_self _) | (rw [ho, hv2]; exact lg_self _)) ?_
      refine lv_if_eq (tgt := 2479) hx hb dL_law_2474 (by decide) (fun _ => ?_) (fun h9 => absurd rfl h9)
      refine lv_goto (tgt := 2877) hx hb dL_law_2479 (by decide) ?_
      refine W.widen (k := cells + 2) (n := slots + 26) (by omega) (by omega) ?_
      exact kk9 S1 f1 fd T1 H locs ls (lawI_of hw.2.2.1 hw.2.2.2 hw2.2.2.1 hw2.2.2.2 hk0 hk1) hP hD hS (lv_sub hl [2, 3, 4, 5, 6, 7] rfl)
set_option maxHeartbeats 4000000 in
set_option maxRecDepth 100000 in
theorem case_isOftenAlike {p : Program} {l : Launch} {e : Env} {R : Room} {s : State} {m : MethodId} {args : Array Value} {below : List Frame} {meth : Method} {c : Code} {Q : State → Prop} {A : Nat → Prop} {D : va_G} {cI cL cZ cA cB cD : ClassId} {b L : Nat} {xs : Nat → Int32} {ad ad2 : Nat → Nat} {oo od : Nat}
    (C9 : lawC p l s m args c A D cI cL cZ cA cB cD b L xs R) {i : Nat} (hi : i + 4 ≤ L) {S : CS} {f : Nat → Int64} {fd : Nat → UInt64} {T : MS} (I9 : lawI S T) {H : Heap} {locs : List Loc} {ls : Array Slot} {cells slots : Nat} (hcc : cells + 2 ≤ R.cells) (hss : slots + 26 ≤ R.slots)
    (hP : va_P D vwCl (lawW ad ad2 cI cL cZ cA cB cD oo od S f fd T) H) (hD : va_D A (lawW ad ad2 cI cL cZ cA cB cD oo od S f fd T)) (hS : va_S A s.heap H locs) (hl : lv_has ls 9 [(5, .int (nI i)), (4, .ref od), (3, .ref oo), (2, .ref (ad2 0)), (1, .ref (ad 0)), (0, .ref b)])
    (kk9 : lawK p l e R s m args below meth c Q A D cI cL cZ cA cB cD b ad ad2 oo od i cells slots) : W p l e R s m args below meth c H locs cells slots Q (F0 m 2787 ls []) := by
  obtain ⟨hx, hb, hml, hown, hts, hN, hE, hfl, hX, hbl, hbA, hA, hK, hR1, hR2, hL⟩ := C9
  obtain ⟨ok0, ok1, hL0, hL1⟩ := I9
  obtain ⟨kk, v, L0, L1, hr, hk0, hk1, hk4⟩ := su_h1_tot ((0 : Int32)) (RT := fun g n => R_isOftenAlike g n) (fun g n ok => T_isOftenAlike g n ok) ok0 ok1 (xs (i + 1))
  refine lv_aload_n hx hb dL_law_2787 rfl (lv_at hl 4 rfl) ?_
  refine lv_aload_n hx hb dL_law_2788 rfl (lv_at hl 5 rfl) ?_
  refine lv_iload hx hb dL_law_2789 (lv_at hl 0 rfl) ?_
  refine lv_iconst (v := nI 1) hx hb dL_law_2791 (by decide) ?_
  refine lv_iadd hx hb dL_law_2792 ?_
  refine su_eqi (nI (i + 1)) (nI_ad _ _) ?_
  refine va_sld hx hb hX hbl hbA hS (vp_in_nI (by omega) (by omega)) dL_law_2793 ?_
  refine su_eqi (xs (i + 1)) (by rw [nI_clamp (by omega)]) ?_
  refine lv_aload_n hx hb dL_law_2794 rfl (lv_at hl 2 rfl) ?_
  refine law_wL (vx_runSW (As := [.ref (ad 0), .int (xs (i + 1)), .ref oo]) (rest := []) ⟨hx, hb, hml, hown, hts⟩ (L_isOftenAlike l hfl D cI cL cZ H.size ad S oo f ok0 ok1 (xs (i + 1)) kk v L0 L1 hr) (vx_cwSW 3 hts (lw_gH q_973 q_974 q_30 q_975) rfl rfl rfl (by decide +kernel) ⟨Nat.le_trans (Nat.le_of_ble_eq_true rfl) hR1, Nat.le_trans (Nat.le_of_ble_eq_true rfl) hR2⟩) (su_psx hE hS hA hN hK hP hD [0, 2, 3, 4, 5, 6, 7, 8, 9, 10, 11, 12, 13, 14, 15, 16, 17, 18, 19, 20, 21, 22, 23, 24, 25, 26, 27, 28, 29, 30, 31, 32, 33, 34, 35, 36, 37, 38, 39, 40, 41, 42, 43, 44, 45, 46, 47, 48, 49, 50, 51, 52, 53, 54, 55, 56, 57, 58, 59, 60, 61, 62, 63, 64, 65, 66, 67, 68, 69, 70] [0, 1, 2] rfl rfl rfl) rfl rfl hl.1 rfl (lv_room (Nat.le_of_ble_eq_true rfl)) dL_law_2795 ⟨Nat.le_trans (Nat.add_le_add_left (Nat.le_of_ble_eq_true rfl) _) hcc, Nat.le_trans (Nat.add_le_add_left (Nat.le_of_ble_eq_true rfl) _) hss⟩) hP hD hS hA (fun r u H locs hw hP hD hS => ?_)
  obtain ⟨S1, f1⟩ := u
  obtain rfl := hw.1
  refine lv_istore (lv' := [(6, .int (nI kk)), (5, .int (nI i)), (4, .ref od), (3, .ref oo), (2, .ref (ad2 0)), (1, .ref (ad 0)), (0, .ref b)]) hx hb dL_law_2798 hl (by decide) rfl (fun ls hl => ?_)
  refine lv_aload_n hx hb dL_law_2800 rfl (lv_at hl 4 rfl) ?_
  refine lv_aload_n hx hb dL_law_2801 rfl (lv_at hl 6 rfl) ?_
  refine lv_iload hx hb dL_law_2802 (lv_at hl 1 rfl) ?_
  refine lv_iconst (v := nI 1) hx hb dL_law_2804 (by decide) ?_
  refine lv_iadd hx hb dL_law_2805 ?_
  refine su_eqi (nI (i + 1)) (nI_ad _ _) ?_
  refine va_sld hx hb hX hbl hbA hS (vp_in_nI (by omega) (by omega)) dL_law_2806 ?_
  refine su_eqi (xs (i + 1)) (by rw [nI_clamp (by omega)]) ?_
  refine law_mi (va_runV (As := [.int (xs (i + 1))]) (rest := []) ⟨hx, hb, hml, hown, hts⟩ (M_isOftenAlike l D cI cL cZ cA cB H.size ad2 T (S.1 0) (S.1 1) (S.2.1 0) (S.2.1 1) hL0 hL1 ok0 ok1 (xs (i + 1)) kk v L0 L1 hr) (cwV 1 hts (lw_gV q_1223 q_1224 q_1225 q_42 q_1226) rfl rfl rfl (by decide +kernel) ⟨Nat.le_trans (Nat.le_of_ble_eq_true rfl) hR1, Nat.le_trans (Nat.le_of_ble_eq_true rfl) hR2⟩) (su_pv hN hK hP hD [71, 72, 73, 74, 75, 76, 77, 78, 79, 80] [0, 1, 2, 3, 4] rfl rfl rfl (ci := 10) (q0 := 0) rfl rfl rfl) rfl rfl hl.1 rfl (lv_room (Nat.le_of_ble_eq_true rfl)) dL_law_2807 ⟨Nat.le_trans (by omega) hcc, Nat.le_trans (by omega) hss⟩) hP hD hS hA (fun r2 T1 H locs hw2 hP hD hS => ?_)
  refine lv_istore (lv' := [(7, .int r2), (6, .int (nI kk)), (5, .int (nI i)), (4, .ref od), (3, .ref oo), (2, .ref (ad2 0)), (1, .ref (ad 0)), (0, .ref b)]) hx hb dL_law_2810 hl (by decide) rfl (fun ls hl => ?_)
  refine lv_aload_n hx hb dL_law_2812 rfl (lv_at hl 5 rfl) ?_
  refine law_mi (va_runV (As := []) (rest := []) ⟨hx, hb, hml, hown, hts⟩ (M_thrown l D cI cL cZ cA cB H.size ad2 T1) (cwV 0 hts (lw_gV q_1018 q_1019 q_1020 q_42 q_1021) rfl rfl rfl (by decide +kernel) ⟨Nat.le_trans (Nat.le_of_ble_eq_true rfl) hR1, Nat.le_trans (Nat.le_of_ble_eq_true rfl) hR2⟩) (su_pv hN hK hP hD [71, 72, 73, 74, 75, 76, 77, 78, 79, 80] [0, 1, 2, 3, 4] rfl rfl rfl (ci := 10) (q0 := 0) rfl rfl rfl) rfl rfl hl.1 rfl (lv_room (Nat.le_of_ble_eq_true rfl)) dL_law_2813 ⟨Nat.le_trans (by omega) hcc, Nat.le_trans (by omega) hss⟩) hP hD hS hA (fun r3 u H locs ht hP hD hS => ?_)
  obtain ⟨ht, hu⟩ := ht
  have hu := hu.symm
  subst hu
  obtain rfl : r3 = nI kk := ht.trans hw2.1
  have ht : nI kk = nI kk ∧ True := ⟨rfl, trivial⟩
  refine lv_iload hx hb dL_law_2816 (lv_at hl 1 rfl) ?_
  refine lv_icmp_eq (tgt := 2823) hx hb dL_law_2818 (by decide) (fun _ => ?_) (fun h9 => absurd (by first | exact ht.1 | rfl) h9)
  refine lv_iload hx hb dL_law_2823 (lv_at hl 1 rfl) ?_
  refine lv_if_ne (tgt := 2847) hx hb dL_law_2825 (by decide) (fun h9 => ?_) (fun h9 => ?_)
  · refine lv_goto (tgt := 2877) hx hb dL_law_2847 (by decide) ?_
    refine W.widen (k := cells + 2) (n := slots + 26) (by omega) (by omega) ?_
    exact kk9 S1 f1 fd T1 H locs ls (lawI_of hw.2.2.1 hw.2.2.2 hw2.2.2.1 hw2.2.2.2 hk0 hk1) hP hD hS (lv_sub hl [2, 3, 4, 5, 6, 7] rfl)
  · have hk := kk_0 hk4 h9
    have ho : f1 0 = su_z01 v := hw.2.1 hk
    have hv2 := hw2.2.1 hk
    refine lv_aload_n hx hb dL_law_2828 rfl (lv_at hl 4 rfl) ?_
    refine lv_iconst (v := nI 0) hx hb dL_law_2829 (by decide) ?_
    refine su_lald hx hb hK hP 0 1 rfl rfl (i := 0) (by decide) (by decide) (f1 0) rfl dL_law_2830 ?_
    refine lv_iload hx hb dL_law_2831 (lv_at hl 0 rfl) ?_
    refine lv_if_eq (tgt := 2840) hx hb dL_law_2833 (by decide) (fun cz => ?_) (fun cz => ?_)
    · have ho := ho.trans (show su_z01 v = 0 from if_pos (by rw [← hv2]; exact cz))
      refine lv_lconst (v := 0) hx hb dL_law_2840 (by decide) ?_
      refine W.lcmp hx hb dL_law_2841 ?_
      refine su_eqi 0 (by first | (rw [ho]; exact lg_self _) | (rw [ho, hv2]; exact lg_self _)) ?_
      refine lv_if_eq (tgt := 2847) hx hb dL_law_2842 (by decide) (fun _ => ?_) (fun h9 => absurd rfl h9)
      refine lv_goto (tgt := 2877) hx hb dL_law_2847 (by decide) ?_
      refine W.widen (k := cells + 2) (n := slots + 26) (by omega) (by omega) ?_
      exact kk9 S1 f1 fd T1 H locs ls (lawI_of hw.2.2.1 hw.2.2.2 hw2.2.2.1 hw2.2.2.2 hk0 hk1) hP hD hS (lv_sub hl [2, 3, 4, 5, 6, 7] rfl)
    · have ho := ho.trans (show su_z01 v = 1 from if_neg (by rw [← hv2]; exact cz))
      refine lv_lconst (v := 1) hx hb dL_law_2836 (by decide) ?_
      refine lv_goto (tgt := 2841) hx hb dL_law_2837 (by decide) ?_
      refine W.lcmp hx hb dL_law_2841 ?_
      refine su_eqi 0 (by first | (rw [ho]; exact lg_self _) | (rw [ho, hv2]; exact lg_self _)) ?_
      refine lv_if_eq (tgt := 2847) hx hb dL_law_2842 (by decide) (fun _ => ?_) (fun h9 => absurd rfl h9)
      refine lv_goto (tgt := 2877) hx hb dL_law_2847 (by decide) ?_
      refine W.widen (k := cells + 2) (n := slots + 26) (by omega) (by omega) ?_
      exact kk9 S1 f1 fd T1 H locs ls (lawI_of hw.2.2.1 hw.2.2.2 hw2.2.2.1 hw2.2.2.2 hk0 hk1) hP hD hS (lv_sub hl [2, 3, 4, 5, 6, 7] rfl)
