set_option maxHeartbeats 4000000 in
set_option maxRecDepth 100000 in
theorem case_insert {p : Program} {l : Launch} {e : Env} {R : Room} {s : State} {m : MethodId} {args : Array Value} {below : List Frame} {meth : Method} {c : Code} {Q : State → Prop} {A : Nat → Prop} {D : va_G} {cI cL cZ cA cB cD : ClassId} {b L : Nat} {xs : Nat → Int32} {ad ad2 : Nat → Nat} {oo od : Nat}
    (C9 : lawC p l s m args c A D cI cL cZ cA cB cD b L xs R) {i : Nat} (hi : i + 4 ≤ L) {S : CS} {f : Nat → Int64} {fd : Nat → UInt64} {T : MS} (I9 : lawI S T) {H : Heap} {locs : List Loc} {ls : Array Slot} {cells slots : Nat} (hcc : cells + 2 ≤ R.cells) (hss : slots + 26 ≤ R.slots)
    (hP : va_P D vwCl (lawW ad ad2 cI cL cZ cA cB cD oo od S f fd T) H) (hD : va_D A (lawW ad ad2 cI cL cZ cA cB cD oo od S f fd T)) (hS : va_S A s.heap H locs) (hl : lv_has ls 9 [(5, .int (nI i)), (4, .ref od), (3, .ref oo), (2, .ref (ad2 0)), (1, .ref (ad 0)), (0, .ref b)])
    (kk9 : lawK p l e R s m args below meth c Q A D cI cL cZ cA cB cD b ad ad2 oo od i cells slots) : W p l e R s m args below meth c H locs cells slots Q (F0 m 276 ls []) := by
  obtain ⟨hx, hb, hml, hown, hts, hN, hE, hfl, hX, hbl, hbA, hA, hK, hR1, hR2, hL⟩ := C9
  obtain ⟨ok0, ok1, hL0, hL1⟩ := I9
  obtain ⟨kk, v, L0, L1, hr, hk0, hk1, hk4⟩ := su_h1_tot ((0 : Int32)) (RT := fun g n => R_insert g n (xs (i + 2)) (xs (i + 3))) (fun g n ok => T_insert g n (xs (i + 2)) (xs (i + 3)) ok) ok0 ok1 (xs (i + 1))
  refine lv_aload_n hx hb dL_law_276 rfl (lv_at hl 4 rfl) ?_
  refine lv_aload_n hx hb dL_law_277 rfl (lv_at hl 5 rfl) ?_
  refine lv_iload hx hb dL_law_278 (lv_at hl 0 rfl) ?_
  refine lv_iconst (v := nI 1) hx hb dL_law_280 (by decide) ?_
  refine lv_iadd hx hb dL_law_281 ?_
  refine su_eqi (nI (i + 1)) (nI_ad _ _) ?_
  refine va_sld hx hb hX hbl hbA hS (vp_in_nI (by omega) (by omega)) dL_law_282 ?_
  refine su_eqi (xs (i + 1)) (by rw [nI_clamp (by omega)]) ?_
  refine lv_aload_n hx hb dL_law_283 rfl (lv_at hl 5 rfl) ?_
  refine lv_iload hx hb dL_law_284 (lv_at hl 0 rfl) ?_
  refine lv_iconst (v := nI 2) hx hb dL_law_286 (by decide) ?_
  refine lv_iadd hx hb dL_law_287 ?_
  refine su_eqi (nI (i + 2)) (nI_ad _ _) ?_
  refine va_sld hx hb hX hbl hbA hS (vp_in_nI (by omega) (by omega)) dL_law_288 ?_
  refine su_eqi (xs (i + 2)) (by rw [nI_clamp (by omega)]) ?_
  refine lv_aload_n hx hb dL_law_289 rfl (lv_at hl 5 rfl) ?_
  refine lv_iload hx hb dL_law_290 (lv_at hl 0 rfl) ?_
  refine lv_iconst (v := nI 3) hx hb dL_law_292 (by decide) ?_
  refine lv_iadd hx hb dL_law_293 ?_
  refine su_eqi (nI (i + 3)) (nI_ad _ _) ?_
  refine va_sld hx hb hX hbl hbA hS (vp_in_nI (by omega) (by omega)) dL_law_294 ?_
  refine su_eqi (xs (i + 3)) (by rw [nI_clamp (by omega)]) ?_
  refine lv_aload_n hx hb dL_law_295 rfl (lv_at hl 2 rfl) ?_
  refine law_wL (vx_runSW (As := [.ref (ad 0), .int (xs (i + 1)), .int (xs (i + 2)), .int (xs (i + 3)), .ref oo]) (rest := []) ⟨hx, hb, hml, hown, hts⟩ (L_insert l hfl D cI cL cZ H.size ad S oo f ok0 ok1 (xs (i + 1)) (xs (i + 2)) (xs (i + 3)) kk v L0 L1 hr) (vx_cwSW 5 hts (lw_gH q_576 q_577 q_30 q_578) rfl rfl rfl (by decide +kernel) ⟨Nat.le_trans (Nat.le_of_ble_eq_true rfl) hR1, Nat.le_trans (Nat.le_of_ble_eq_true rfl) hR2⟩) (su_psx hE hS hA hN hK hP hD [0, 2, 3, 4, 5, 6, 7, 8, 9, 10, 11, 12, 13, 14, 15, 16, 17, 18, 19, 20, 21, 22, 23, 24, 25, 26, 27, 28, 29, 30, 31, 32, 33, 34, 35, 36, 37, 38, 39, 40, 41, 42, 43, 44, 45, 46, 47, 48, 49, 50, 51, 52, 53, 54, 55, 56, 57, 58, 59, 60, 61, 62, 63, 64, 65, 66, 67, 68, 69, 70] [0, 1, 2] rfl rfl rfl) rfl rfl hl.1 rfl (lv_room (Nat.le_of_ble_eq_true rfl)) dL_law_296 ⟨Nat.le_trans (Nat.add_le_add_left (Nat.le_of_ble_eq_true rfl) _) hcc, Nat.le_trans (Nat.add_le_add_left (Nat.le_of_ble_eq_true rfl) _) hss⟩) hP hD hS hA (fun r u H locs hw hP hD hS => ?_)
  obtain ⟨S1, f1⟩ := u
  obtain rfl := hw.1
  refine lv_istore (lv' := [(6, .int (nI kk)), (5, .int (nI i)), (4, .ref od), (3, .ref oo), (2, .ref (ad2 0)), (1, .ref (ad 0)), (0, .ref b)]) hx hb dL_law_299 hl (by decide) rfl (fun ls hl => ?_)
  refine lv_aload_n hx hb dL_law_301 rfl (lv_at hl 4 rfl) ?_
  refine lv_aload_n hx hb dL_law_302 rfl (lv_at hl 6 rfl) ?_
  refine lv_iload hx hb dL_law_303 (lv_at hl 1 rfl) ?_
  refine lv_iconst (v := nI 1) hx hb dL_law_305 (by decide) ?_
  refine lv_iadd hx hb dL_law_306 ?_
  refine su_eqi (nI (i + 1)) (nI_ad _ _) ?_
  refine va_sld hx hb hX hbl hbA hS (vp_in_nI (by omega) (by omega)) dL_law_307 ?_
  refine su_eqi (xs (i + 1)) (by rw [nI_clamp (by omega)]) ?_
  refine lv_aload_n hx hb dL_law_308 rfl (lv_at hl 6 rfl) ?_
  refine lv_iload hx hb dL_law_309 (lv_at hl 1 rfl) ?_
  refine lv_iconst (v := nI 2) hx hb dL_law_311 (by decide) ?_
  refine lv_iadd hx hb dL_law_312 ?_
  refine su_eqi (nI (i + 2)) (nI_ad _ _) ?_
  refine va_sld hx hb hX hbl hbA hS (vp_in_nI (by omega) (by omega)) dL_law_313 ?_
  refine su_eqi (xs (i + 2)) (by rw [nI_clamp (by omega)]) ?_
  refine lv_aload_n hx hb dL_law_314 rfl (lv_at hl 6 rfl) ?_
  refine lv_iload hx hb dL_law_315 (lv_at hl 1 rfl) ?_
  refine lv_iconst (v := nI 3) hx hb dL_law_317 (by decide) ?_
  refine lv_iadd hx hb dL_law_318 ?_
  refine su_eqi (nI (i + 3)) (nI_ad _ _) ?_
  refine va_sld hx hb hX hbl hbA hS (vp_in_nI (by omega) (by omega)) dL_law_319 ?_
  refine su_eqi (xs (i + 3)) (by rw [nI_clamp (by omega)]) ?_
  refine law_mi (va_runV (As := [.int (xs (i + 1)), .int (xs (i + 2)), .int (xs (i + 3))]) (rest := []) ⟨hx, hb, hml, hown, hts⟩ (M_insert l D cI cL cZ cA cB H.size ad2 T (S.1 0) (S.1 1) (S.2.1 0) (S.2.1 1) hL0 hL1 ok0 ok1 (xs (i + 1)) (xs (i + 2)) (xs (i + 3)) kk v L0 L1 hr) (cwV 3 hts (lw_gV q_1059 q_1060 q_1061 q_42 q_1062) rfl rfl rfl (by decide +kernel) ⟨Nat.le_trans (Nat.le_of_ble_eq_true rfl) hR1, Nat.le_trans (Nat.le_of_ble_eq_true rfl) hR2⟩) (su_pv hN hK hP hD [71, 72, 73, 74, 75, 76, 77, 78, 79, 80] [0, 1, 2, 3, 4] rfl rfl rfl (ci := 10) (q0 := 0) rfl rfl rfl) rfl rfl hl.1 rfl (lv_room (Nat.le_of_ble_eq_true rfl)) dL_law_320 ⟨Nat.le_trans (by omega) hcc, Nat.le_trans (by omega) hss⟩) hP hD hS hA (fun r2 T1 H locs hw2 hP hD hS => ?_)
  refine lv_istore (lv' := [(7, .int r2), (6, .int (nI kk)), (5, .int (nI i)), (4, .ref od), (3, .ref oo), (2, .ref (ad2 0)), (1, .ref (ad 0)), (0, .ref b)]) hx hb dL_law_323 hl (by decide) rfl (fun ls hl => ?_)
  refine lv_aload_n hx hb dL_law_325 rfl (lv_at hl 5 rfl) ?_
  refine law_mi (va_runV (As := []) (rest := []) ⟨hx, hb, hml, hown, hts⟩ (M_thrown l D cI cL cZ cA cB H.size ad2 T1) (cwV 0 hts (lw_gV q_1018 q_1019 q_1020 q_42 q_1021) rfl rfl rfl (by decide +kernel) ⟨Nat.le_trans (Nat.le_of_ble_eq_true rfl) hR1, Nat.le_trans (Nat.le_of_ble_eq_true rfl) hR2⟩) (su_pv hN hK hP hD [71, 72, 73, 74, 75, 76, 77, 78, 79, 80] [0, 1, 2, 3, 4] rfl rfl rfl (ci := 10) (q0 := 0) rfl rfl rfl) rfl rfl hl.1 rfl (lv_room (Nat.le_of_ble_eq_true rfl)) dL_law_326 ⟨Nat.le_trans (by omega) hcc, Nat.le_trans (by omega) hss⟩) hP hD hS hA (fun r3 u H locs ht hP hD hS => ?_)
  obtain ⟨ht, hu⟩ := ht
  have hu := hu.symm
  subst hu
  obtain rfl : r3 = nI kk := ht.trans hw2.1
  have ht : nI kk = nI kk ∧ True := ⟨rfl, trivial⟩
  refine lv_iload hx hb dL_law_329 (lv_at hl 1 rfl) ?_
  refine lv_icmp_eq (tgt := 336) hx hb dL_law_331 (by decide) (fun _ => ?_) (fun h9 => absurd (by first | exact ht.1 | rfl) h9)
  refine lv_iload hx hb dL_law_336 (lv_at hl 1 rfl) ?_
  refine lv_if_ne (tgt := 353) hx hb dL_law_338 (by decide) (fun h9 => ?_) (fun h9 => ?_)
  · refine lv_goto (tgt := 2877) hx hb dL_law_353 (by decide) ?_
    refine W.widen (k := cells + 2) (n := slots + 26) (by omega) (by omega) ?_
    exact kk9 S1 f1 fd T1 H locs ls (lawI_of hw.2.2.1 hw.2.2.2 hw2.2.2.1 hw2.2.2.2 hk0 hk1) hP hD hS (lv_sub hl [2, 3, 4, 5, 6, 7] rfl)
  · have hk := kk_0 hk4 h9
    have ho : f1 0 = v.toInt64 := hw.2.1 hk
    have hv2 := hw2.2.1 hk
    refine lv_aload_n hx hb dL_law_341 rfl (lv_at hl 4 rfl) ?_
    refine lv_iconst (v := nI 0) hx hb dL_law_342 (by decide) ?_
    refine su_lald hx hb hK hP 0 1 rfl rfl (i := 0) (by decide) (by decide) (f1 0) rfl dL_law_343 ?_
    refine lv_iload hx hb dL_law_344 (lv_at hl 0 rfl) ?_
    refine lv_i2l (v := r2.toInt64) hx hb dL_law_346 rfl ?_
    refine W.lcmp hx hb dL_law_347 ?_
    refine su_eqi 0 (by first | (rw [ho]; exact lg_self _) | (rw [ho, hv2]; exact lg_self _)) ?_
    refine lv_if_eq (tgt := 353) hx hb dL_law_348 (by decide) (fun _ => ?_) (fun h9 => absurd rfl h9)
    refine lv_goto (tgt := 2877) hx hb dL_law_353 (by decide) ?_
    refine W.widen (k := cells + 2) (n := slots + 26) (by omega) (by omega) ?_
    exact kk9 S1 f1 fd T1 H locs ls (lawI_of hw.2.2.1 hw.2.2.2 hw2.2.2.1 hw2.2.2.2 hk0 hk1) hP hD hS (lv_sub hl [2, 3, 4, 5, 6, 7] rfl)
set_option maxHeartbeats 4000000 in
set_option maxRecDepth 100000 in
theorem case_clear {p : Program} {l : Launch} {e : Env} {R : Room} {s : State} {m : MethodId} {args : Array Value} {below : List Frame} {meth : Method} {c : Code} {Q : State → Prop} {A : Nat → Prop} {D : va_G} {cI cL cZ cA cB cD : ClassId} {b L : Nat} {xs : Nat → Int32} {ad ad2 : Nat → Nat} {oo od : Nat}
    (C9 : lawC p l s m args c A D cI cL cZ cA cB cD b L xs R) {i : Nat} (hi : i + 4 ≤ L) {S : CS} {f : Nat → Int64} {fd : Nat → UInt64} {T : MS} (I9 : lawI S T) {H : Heap} {locs : List Loc} {ls : Array Slot} {cells slots : Nat} (hcc : cells + 2 ≤ R.cells) (hss : slots + 26 ≤ R.slots)
    (hP : va_P D vwCl (lawW ad ad2 cI cL cZ cA cB cD oo od S f fd T) H) (hD : va_D A (lawW ad ad2 cI cL cZ cA cB cD oo od S f fd T)) (hS : va_S A s.heap H locs) (hl : lv_has ls 9 [(5, .int (nI i)), (4, .ref od), (3, .ref oo), (2, .ref (ad2 0)), (1, .ref (ad 0)), (0, .ref b)])
    (kk9 : lawK p l e R s m args below meth c Q A D cI cL cZ cA cB cD b ad ad2 oo od i cells slots) : W p l e R s m args below meth c H locs cells slots Q (F0 m 640 ls []) := by
  obtain ⟨hx, hb, hml, hown, hts, hN, hE, hfl, hX, hbl, hbA, hA, hK, hR1, hR2, hL⟩ := C9
  obtain ⟨ok0, ok1, hL0, hL1⟩ := I9
  obtain ⟨kk, v, L0, L1, hr, hk0, hk1, hk4⟩ := su_h1_tot ((0 : Int32)) (RT := fun g n => R_clear g n) (fun g n ok => T_clear g n ok) ok0 ok1 (xs (i + 1))
  refine lv_aload_n hx hb dL_law_640 rfl (lv_at hl 4 rfl) ?_
  refine lv_aload_n hx hb dL_law_641 rfl (lv_at hl 5 rfl) ?_
  refine lv_iload hx hb dL_law_642 (lv_at hl 0 rfl) ?_
  refine lv_iconst (v := nI 1) hx hb dL_law_644 (by decide) ?_
  refine lv_iadd hx hb dL_law_645 ?_
  refine su_eqi (nI (i + 1)) (nI_ad _ _) ?_
  refine va_sld hx hb hX hbl hbA hS (vp_in_nI (by omega) (by omega)) dL_law_646 ?_
  refine su_eqi (xs (i + 1)) (by rw [nI_clamp (by omega)]) ?_
  refine lv_aload_n hx hb dL_law_647 rfl (lv_at hl 2 rfl) ?_
  refine law_wL (vx_runSW (As := [.ref (ad 0), .int (xs (i + 1)), .ref oo]) (rest := []) ⟨hx, hb, hml, hown, hts⟩ (L_clear l hfl D cI cL cZ H.size ad S oo f ok0 ok1 (xs (i + 1)) kk v L0 L1 hr) (vx_cwSW 3 hts (lw_gH q_638 q_639 q_30 q_640) rfl rfl rfl (by decide +kernel) ⟨Nat.le_trans (Nat.le_of_ble_eq_true rfl) hR1, Nat.le_trans (Nat.le_of_ble_eq_true rfl) hR2⟩) (su_psx hE hS hA hN hK hP hD [0, 2, 3, 4, 5, 6, 7, 8, 9, 10, 11, 12, 13, 14, 15, 16, 17, 18, 19, 20, 21, 22, 23, 24, 25, 26, 27, 28, 29, 30, 31, 32, 33, 34, 35, 36, 37, 38, 39, 40, 41, 42, 43, 44, 45, 46, 47, 48, 49, 50, 51, 52, 53, 54, 55, 56, 57, 58, 59, 60, 61, 62, 63, 64, 65, 66, 67, 68, 69, 70] [0, 1, 2] rfl rfl rfl) rfl rfl hl.1 rfl (lv_room (Nat.le_of_ble_eq_true rfl)) dL_law_648 ⟨Nat.le_trans (Nat.add_le_add_left (Nat.le_of_ble_eq_true rfl) _) hcc, Nat.le_trans (Nat.add_le_add_left (Nat.le_of_ble_eq_true rfl) _) hss⟩) hP hD hS hA (fun r u H locs hw hP hD hS => ?_)
  obtain ⟨S1, f1⟩ := u
  obtain rfl := hw.1
  refine lv_istore (lv' := [(6, .int (nI kk)), (5, .int (nI i)), (4, .ref od), (3, .ref oo), (2, .ref (ad2 0)), (1, .ref (ad 0)), (0, .ref b)]) hx hb dL_law_651 hl (by decide) rfl (fun ls hl => ?_)
  refine lv_aload_n hx hb dL_law_653 rfl (lv_at hl 4 rfl) ?_
  refine lv_aload_n hx hb dL_law_654 rfl (lv_at hl 6 rfl) ?_
  refine lv_iload hx hb dL_law_655 (lv_at hl 1 rfl) ?_
  refine lv_iconst (v := nI 1) hx hb dL_law_657 (by decide) ?_
  refine lv_iadd hx hb dL_law_658 ?_
  refine su_eqi (nI (i + 1)) (nI_ad _ _) ?_
  refine va_sld hx hb hX hbl hbA hS (vp_in_nI (by omega) (by omega)) dL_law_659 ?_
  refine su_eqi (xs (i + 1)) (by rw [nI_clamp (by omega)]) ?_
  refine law_mi (va_runV (As := [.int (xs (i + 1))]) (rest := []) ⟨hx, hb, hml, hown, hts⟩ (M_clear l D cI cL cZ cA cB H.size ad2 T (S.1 0) (S.1 1) (S.2.1 0) (S.2.1 1) hL0 hL1 ok0 ok1 (xs (i + 1)) kk v L0 L1 hr) (cwV 1 hts (lw_gV q_1083 q_1084 q_1085 q_42 q_1086) rfl rfl rfl (by decide +kernel) ⟨Nat.le_trans (Nat.le_of_ble_eq_true rfl) hR1, Nat.le_trans (Nat.le_of_ble_eq_true rfl) hR2⟩) (su_pv hN hK hP hD [71, 72, 73, 74, 75, 76, 77, 78, 79, 80] [0, 1, 2, 3, 4] rfl rfl rfl (ci := 10) (q0 := 0) rfl rfl rfl) rfl rfl hl.1 rfl (lv_room (Nat.le_of_ble_eq_true rfl)) dL_law_660 ⟨Nat.le_trans (by omega) hcc, Nat.le_trans (by omega) hss⟩) hP hD hS hA (fun r2 T1 H locs hw2 hP hD hS => ?_)
  refine lv_istore (lv' := [(7, .int r2), (6, .int (nI kk)), (5, .int (nI i)), (4, .ref od), (3, .ref oo), (2, .ref (ad2 0)), (1, .ref (ad 0)), (0, .ref b)]) hx hb dL_law_663 hl (by decide) rfl (fun ls hl => ?_)
  refine lv_aload_n hx hb dL_law_665 rfl (lv_at hl 5 rfl) ?_
  refine law_mi (va_runV (As := []) (rest := []) ⟨hx, hb, hml, hown, hts⟩ (M_thrown l D cI cL cZ cA cB H.size ad2 T1) (cwV 0 hts (lw_gV q_1018 q_1019 q_1020 q_42 q_1021) rfl rfl rfl (by decide +kernel) ⟨Nat.le_trans (Nat.le_of_ble_eq_true rfl) hR1, Nat.le_trans (Nat.le_of_ble_eq_true rfl) hR2⟩) (su_pv hN hK hP hD [71, 72, 73, 74, 75, 76, 77, 78, 79, 80] [0, 1, 2, 3, 4] rfl rfl rfl (ci := 10) (q0 := 0) rfl rfl rfl) rfl rfl hl.1 rfl (lv_room (Nat.le_of_ble_eq_true rfl)) dL_law_666 ⟨Nat.le_trans (by omega) hcc, Nat.le_trans (by omega) hss⟩) hP hD hS hA (fun r3 u H locs ht hP hD hS => ?_)
  obtain ⟨ht, hu⟩ := ht
  have hu := hu.symm
  subst hu
  obtain rfl : r3 = nI kk := ht.trans hw2.1
  have ht : nI kk = nI kk ∧ True := ⟨rfl, trivial⟩
  refine lv_iload hx hb dL_law_669 (lv_at hl 1 rfl) ?_
  refine lv_icmp_eq (tgt := 676) hx hb dL_law_671 (by decide) (fun _ => ?_) (fun h9 => absurd (by first | exact ht.1 | rfl) h9)
  refine lv_iload hx hb dL_law_676 (lv_at hl 1 rfl) ?_
  refine lv_if_ne (tgt := 693) hx hb dL_law_678 (by decide) (fun h9 => ?_) (fun h9 => ?_)
  · refine lv_goto (tgt := 2877) hx hb dL_law_693 (by decide) ?_
    refine W.widen (k := cells + 2) (n := slots + 26) (by omega) (by omega) ?_
    exact kk9 S1 f1 fd T1 H locs ls (lawI_of hw.2.2.1 hw.2.2.2 hw2.2.2.1 hw2.2.2.2 hk0 hk1) hP hD hS (lv_sub hl [2, 3, 4, 5, 6, 7] rfl)
  · have hk := kk_0 hk4 h9
    have ho : f1 0 = v.toInt64 := hw.2.1 hk
    have hv2 := hw2.2.1 hk
    refine lv_aload_n hx hb dL_law_681 rfl (lv_at hl 4 rfl) ?_
    refine lv_iconst (v := nI 0) hx hb dL_law_682 (by decide) ?_
    refine su_lald hx hb hK hP 0 1 rfl rfl (i := 0) (by decide) (by decide) (f1 0) rfl dL_law_683 ?_
    refine lv_iload hx hb dL_law_684 (lv_at hl 0 rfl) ?_
    refine lv_i2l (v := r2.toInt64) hx hb dL_law_686 rfl ?_
    refine W.lcmp hx hb dL_law_687 ?_
    refine su_eqi 0 (by first | (rw [ho]; exact lg_self _) | (rw [ho, hv2]; exact lg_self _)) ?_
    refine lv_if_eq (tgt := 693) hx hb dL_law_688 (by decide) (fun _ => ?_) (fun h9 => absurd rfl h9)
    refine lv_goto (tgt := 2877) hx hb dL_law_693 (by decide) ?_
    refine W.widen (k := cells + 2) (n := slots + 26) (by omega) (by omega) ?_
    exact kk9 S1 f1 fd T1 H locs ls (lawI_of hw.2.2.1 hw.2.2.2 hw2.2.2.1 hw2.2.2.2 hk0 hk1) hP hD hS (lv_sub hl [2, 3, 4, 5, 6, 7] rfl)
set_option maxHeartbeats 4000000 in
set_option maxRecDepth 100000 in
theorem case_isSum {p : Program} {l : Launch} {e : Env} {R : Room} {s : State} {m : MethodId} {args : Array Value} {below : List Frame} {meth : Method} {c : Code} {Q : State → Prop} {A : Nat → Prop} {D : va_G} {cI cL cZ cA cB cD : ClassId} {b L : Nat} {xs : Nat → Int32} {ad ad2 : Nat → Nat} {oo od : Nat}
    (C9 : lawC p l s m args c A D cI cL cZ cA cB cD b L xs R) {i : Nat} (hi : i + 4 ≤ L) {S : CS} {f : Nat → Int64} {fd : Nat → UInt64} {T : MS} (I9 : lawI S T) {H : Heap} {locs : List Loc} {ls : Array Slot} {cells slots : Nat} (hcc : cells + 2 ≤ R.cells) (hss : slots + 26 ≤ R.slots)
    (hP : va_P D vwCl (lawW ad ad2 cI cL cZ cA cB cD oo od S f fd T) H) (hD : va_D A (lawW ad ad2 cI cL cZ cA cB cD oo od S f fd T)) (hS : va_S A s.heap H locs) (hl : lv_has ls 9 [(5, .int (nI i)), (4, .ref od), (3, .ref oo), (2, .ref (ad2 0)), (1, .ref (ad 0)), (0, .ref b)])
    (kk9 : lawK p l e R s m args below meth c Q A D cI cL cZ cA cB cD b ad ad2 oo od i cells slots) : W p l e R s m args below meth c H locs cells slots Q (F0 m 956 ls []) := by
  obtain ⟨hx, hb, hml, hown, hts, hN, hE, hfl, hX, hbl, hbA, hA, hK, hR1, hR2, hL⟩ := C9
  obtain ⟨ok0, ok1, hL0, hL1⟩ := I9
  by_cases hz : xs (i + 3) = 0
  · obtain ⟨kk, v, L0, L1, hr, hk0, hk1, hk4⟩ := su_h1_tot ((0 : Int32)) (RT := fun g n => R_isSum g n (xs (i + 2)) false) (fun g n ok => T_isSum g n (xs (i + 2)) false ok) ok0 ok1 (xs (i + 1))
    refine lv_aload_n hx hb dL_law_956 rfl (lv_at hl 4 rfl) ?_
    refine lv_aload_n hx hb dL_law_957 rfl (lv_at hl 5 rfl) ?_
    refine lv_iload hx hb dL_law_958 (lv_at hl 0 rfl) ?_
    refine lv_iconst (v := nI 1) hx hb dL_law_960 (by decide) ?_
    refine lv_iadd hx hb dL_law_961 ?_
    refine su_eqi (nI (i + 1)) (nI_ad _ _) ?_
    refine va_sld hx hb hX hbl hbA hS (vp_in_nI (by omega) (by omega)) dL_law_962 ?_
    refine su_eqi (xs (i + 1)) (by rw [nI_clamp (by omega)]) ?_
    refine lv_aload_n hx hb dL_law_963 rfl (lv_at hl 5 rfl) ?_
    refine lv_iload hx hb dL_law_964 (lv_at hl 0 rfl) ?_
    refine lv_iconst (v := nI 2) hx hb dL_law_966 (by decide) ?_
    refine lv_iadd hx hb dL_law_967 ?_
    refine su_eqi (nI (i + 2)) (nI_ad _ _) ?_
    refine va_sld hx hb hX hbl hbA hS (vp_in_nI (by omega) (by omega)) dL_law_968 ?_
    refine su_eqi (xs (i + 2)) (by rw [nI_clamp (by omega)]) ?_
    refine lv_aload_n hx hb dL_law_969 rfl (lv_at hl 5 rfl) ?_
    refine lv_iload hx hb dL_law_970 (lv_at hl 0 rfl) ?_
    refine lv_iconst (v := nI 3) hx hb dL_law_972 (by decide) ?_
    refine lv_iadd hx hb dL_law_973 ?_
    refine su_eqi (nI (i + 3)) (nI_ad _ _) ?_
    refine va_sld hx hb hX hbl hbA hS (vp_in_nI (by omega) (by omega)) dL_law_974 ?_
    refine su_eqi (xs (i + 3)) (by rw [nI_clamp (by omega)]) ?_
    refine lv_if_eq (tgt := 982) hx hb dL_law_975 (by decide) (fun _ => ?_) (fun h9 => absurd hz h9)
    refine lv_iconst (v := nI 0) hx hb dL_law_982 (by decide) ?_
    refine lv_aload_n hx hb dL_law_983 rfl (lv_at hl 2 rfl) ?_
    refine law_wL (vx_runSW (As := [.ref (ad 0), .int (xs (i + 1)), .int (xs (i + 2)), .int (bI false), .ref oo]) (rest := []) ⟨hx, hb, hml, hown, hts⟩ (L_isSum l hfl D cI cL cZ H.size ad S oo f ok0 ok1 (xs (i + 1)) (xs (i + 2)) false kk v L0 L1 hr) (vx_cwSW 5 hts (lw_gH q_678 q_679 q_30 q_680) rfl rfl rfl (by decide +kernel) ⟨Nat.le_trans (Nat.le_of_ble_eq_true rfl) hR1, Nat.le_trans (Nat.le_of_ble_eq_true rfl) hR2⟩) (su_psx hE hS hA hN hK hP hD [0, 2, 3, 4, 5, 6, 7, 8, 9, 10, 11, 12, 13, 14, 15, 16, 17, 18, 19, 20, 21, 22, 23, 24, 25, 26, 27, 28, 29, 30, 31, 32, 33, 34, 35, 36, 37, 38, 39, 40, 41, 42, 43, 44, 45, 46, 47, 48, 49, 50, 51, 52, 53, 54, 55, 56, 57, 58, 59, 60, 61, 62, 63, 64, 65, 66, 67, 68, 69, 70] [0, 1, 2] rfl rfl rfl) rfl rfl hl.1 rfl (lv_room (Nat.le_of_ble_eq_true rfl)) dL_law_984 ⟨Nat.le_trans (Nat.add_le_add_left (Nat.le_of_ble_eq_true rfl) _) hcc, Nat.le_trans (Nat.add_le_add_left (Nat.le_of_ble_eq_true rfl) _) hss⟩) hP hD hS hA (fun r u H locs hw hP hD hS => ?_)
    obtain ⟨S1, f1⟩ := u
    obtain rfl := hw.1
    refine lv_istore (lv' := [(6, .int (nI kk)), (5, .int (nI i)), (4, .ref od), (3, .ref oo), (2, .ref (ad2 0)), (1, .ref (ad 0)), (0, .ref b)]) hx hb dL_law_987 hl (by decide) rfl (fun ls hl => ?_)
    refine lv_aload_n hx hb dL_law_989 rfl (lv_at hl 4 rfl) ?_
    refine lv_aload_n hx hb dL_law_990 rfl (lv_at hl 6 rfl) ?_
    refine lv_iload hx hb dL_law_991 (lv_at hl 1 rfl) ?_
    refine lv_iconst (v := nI 1) hx hb dL_law_993 (by decide) ?_
    refine lv_iadd hx hb dL_law_994 ?_
    refine su_eqi (nI (i + 1)) (nI_ad _ _) ?_
    refine va_sld hx hb hX hbl hbA hS (vp_in_nI (by omega) (by omega)) dL_law_995 ?_
    refine su_eqi (xs (i + 1)) (by rw [nI_clamp (by omega)]) ?_
    refine lv_aload_n hx hb dL_law_996 rfl (lv_at hl 6 rfl) ?_
    refine lv_iload hx hb dL_law_997 (lv_at hl 1 rfl) ?_
    refine lv_iconst (v := nI 2) hx hb dL_law_999 (by decide) ?_
    refine lv_iadd hx hb dL_law_1000 ?_
    refine su_eqi (nI (i + 2)) (nI_ad _ _) ?_
    refine va_sld hx hb hX hbl hbA hS (vp_in_nI (by omega) (by omega)) dL_law_1001 ?_
    refine su_eqi (xs (i + 2)) (by rw [nI_clamp (by omega)]) ?_
    refine lv_aload_n hx hb dL_law_1002 rfl (lv_at hl 6 rfl) ?_
    refine lv_iload hx hb dL_law_1003 (lv_at hl 1 rfl) ?_
    refine lv_iconst (v := nI 3) hx hb dL_law_1005 (by decide) ?_
    refine lv_iadd hx hb dL_law_1006 ?_
    refine su_eqi (nI (i + 3)) (nI_ad _ _) ?_
    refine va_sld hx hb hX hbl hbA hS (vp_in_nI (by omega) (by omega)) dL_law_1007 ?_
    refine su_eqi (xs (i + 3)) (by rw [nI_clamp (by omega)]) ?_
    refine lv_if_eq (tgt := 1015) hx hb dL_law_1008 (by decide) (fun _ => ?_) (fun h9 => absurd hz h9)
    refine lv_iconst (v := nI 0) hx hb dL_law_1015 (by decide) ?_
    refine law_mi (va_runV (As := [.int (xs (i + 1)), .int (xs (i + 2)), .int (bI false)]) (rest := []) ⟨hx, hb, hml, hown, hts⟩ (M_isSum l D cI cL cZ cA cB H.size ad2 T (S.1 0) (S.1 1) (S.2.1 0) (S.2.1 1) hL0 hL1 ok0 ok1 (xs (i + 1)) (xs (i + 2)) false kk v L0 L1 hr) (cwV 3 hts (lw_gV q_1103 q_1104 q_1105 q_42 q_1106) rfl rfl rfl (by decide +kernel) ⟨Nat.le_trans (Nat.le_of_ble_eq_true rfl) hR1, Nat.le_trans (Nat.le_of_ble_eq_true rfl) hR2⟩) (su_pv hN hK hP hD [71, 72, 73, 74, 75, 76, 77, 78, 79, 80] [0, 1, 2, 3, 4] rfl rfl rfl (ci := 10) (q0 := 0) rfl rfl rfl) rfl rfl hl.1 rfl (lv_room (Nat.le_of_ble_eq_true rfl)) dL_law_1016 ⟨Nat.le_trans (by omega) hcc, Nat.le_trans (by omega) hss⟩) hP hD hS hA (fun r2 T1 H locs hw2 hP hD hS => ?_)
    refine lv_istore (lv' := [(7, .int r2), (6, .int (nI kk)), (5, .int (nI i)), (4, .ref od), (3, .ref oo), (2, .ref (ad2 0)), (1, .ref (ad 0)), (0, .ref b)]) hx hb dL_law_1019 hl (by decide) rfl (fun ls hl => ?_)
    refine lv_aload_n hx hb dL_law_1021 rfl (lv_at hl 5 rfl) ?_
    refine law_mi (va_runV (As := []) (rest := []) ⟨hx, hb, hml, hown, hts⟩ (M_thrown l D cI cL cZ cA cB H.size ad2 T1) (cwV 0 hts (lw_gV q_1018 q_1019 q_1020 q_42 q_1021) rfl rfl rfl (by decide +kernel) ⟨Nat.le_trans (Nat.le_of_ble_eq_true rfl) hR1, Nat.le_trans (Nat.le_of_ble_eq_true rfl) hR2⟩) (su_pv hN hK hP hD [71, 72, 73, 74, 75, 76, 77, 78, 79, 80] [0, 1, 2, 3, 4] rfl rfl rfl (ci := 10) (q0 := 0) rfl rfl rfl) rfl rfl hl.1 rfl (lv_room (Nat.le_of_ble_eq_true rfl)) dL_law_1022 ⟨Nat.le_trans (by omega) hcc, Nat.le_trans (by omega) hss⟩) hP hD hS hA (fun r3 u H locs ht hP hD hS => ?_)
    obtain ⟨ht, hu⟩ := ht
    have hu := hu.symm
    subst hu
    obtain rfl : r3 = nI kk := ht.trans hw2.1
    have ht : nI kk = nI kk ∧ True := ⟨rfl, trivial⟩
    refine lv_iload hx hb dL_law_1025 (lv_at hl 1 rfl) ?_
    refine lv_icmp_eq (tgt := 1032) hx hb dL_law_1027 (by decide) (fun _ => ?_) (fun h9 => absurd (by first | exact ht.1 | rfl) h9)
    refine lv_iload hx hb dL_law_1032 (lv_at hl 1 rfl) ?_
    refine lv_if_ne (tgt := 1056) hx hb dL_law_1034 (by decide) (fun h9 => ?_) (fun h9 => ?_)
    · refine lv_goto (tgt := 2877) hx hb dL_law_1056 (by decide) ?_
      refine W.widen (k := cells + 2) (n := slots + 26) (by omega) (by omega) ?_
      exact kk9 S1 f1 fd T1 H locs ls (lawI_of hw.2.2.1 hw.2.2.2 hw2.2.2.1 hw2.2.2.2 hk0 hk1) hP hD hS (lv_sub hl [2, 3, 4, 5, 6, 7] rfl)
    · have hk := kk_0 hk4 h9
      have ho : f1 0 = su_z01 v := hw.2.1 hk
      have hv2 := hw2.2.1 hk
      refine lv_aload_n hx hb dL_law_1037 rfl (lv_at hl 4 rfl) ?_
      refine lv_iconst (v := nI 0) hx hb dL_law_1038 (by decide) ?_
      refine su_lald hx hb hK hP 0 1 rfl rfl (i := 0) (by decide) (by decide) (f1 0) rfl dL_law_1039 ?_
      refine lv_iload hx hb dL_law_1040 (lv_at hl 0 rfl) ?_
      refine lv_if_eq (tgt := 1049) hx hb dL_law_1042 (by decide) (fun cz => ?_) (fun cz => ?_)
      · have ho := ho.trans (show su_z01 v = 0 from if_pos (by rw [← hv2]; exact cz))
        refine lv_lconst (v := 0) hx hb dL_law_1049 (by decide) ?_
        refine W.lcmp hx hb dL_law_1050 ?_
        refine su_eqi 0 (by first | (rw [ho]; exact lg_self _) | (rw [ho, hv2]; exact lg_self _)) ?_
        refine lv_if_eq (tgt := 1056) hx hb dL_law_1051 (by decide) (fun _ => ?_) (fun h9 => absurd rfl h9)
        refine lv_goto (tgt := 2877) hx hb dL_law_1056 (by decide) ?_
        refine W.widen (k := cells + 2) (n := slots + 26) (by omega) (by omega) ?_
        exact kk9 S1 f1 fd T1 H locs ls (lawI_of hw.2.2.1 hw.2.2.2 hw2.2.2.1 hw2.2.2.2 hk0 hk1) hP hD hS (lv_sub hl [2, 3, 4, 5, 6, 7] rfl)
      · have ho := ho.trans (show su_z01 v = 1 from if_neg (by rw [← hv2]; exact cz))
        refine lv_lconst (v := 1) hx hb dL_law_1045 (by decide) ?_
        refine lv_goto (tgt := 1050) hx hb dL_law_1046 (by decide) ?_
        refine W.lcmp hx hb dL_law_1050 ?_
        refine su_eqi 0 (by first | (rw [ho]; exact lg_self _) | (rw [ho, hv2]; exact lg_self _)) ?_
        refine lv_if_eq (tgt := 1056) hx hb dL_law_1051 (by decide) (fun _ => ?_) (fun h9 => absurd rfl h9)
        refine lv_goto (tgt := 2877) hx hb dL_law_1056 (by decide) ?_
        refine W.widen (k := cells + 2) (n := slots + 26) (by omega) (by omega) ?_
        exact kk9 S1 f1 fd T1 H locs ls (lawI_of hw.2.2.1 hw.2.2.2 hw2.2.2.1 hw2.2.2.2 hk0 hk1) hP hD hS (lv_sub hl [2, 3, 4, 5, 6, 7] rfl)
  · obtain ⟨kk, v, L0, L1, hr, hk0, hk1, hk4⟩ := su_h1_tot ((0 : Int32)) (RT := fun g n => R_isSum g n (xs (i + 2)) true) (fun g n ok => T_isSum g n (xs (i + 2)) true ok) ok0 ok1 (xs (i + 1))
    refine lv_aload_n hx hb dL_law_956 rfl (lv_at hl 4 rfl) ?_
    refine lv_aload_n hx hb dL_law_957 rfl (lv_at hl 5 rfl) ?_
    refine lv_iload hx hb dL_law_958 (lv_at hl 0 rfl) ?_
    refine lv_iconst (v := nI 1) hx hb dL_law_960 (by decide) ?_
    refine lv_iadd hx hb dL_law_961 ?_
    refine su_eqi (nI (i + 1)) (nI_ad _ _) ?_
    refine va_sld hx hb hX hbl hbA hS (vp_in_nI (by omega) (by omega)) dL_law_962 ?_
    refine su_eqi (xs (i + 1)) (by rw [nI_clamp (by omega)]) ?_
    refine lv_aload_n hx hb dL_law_963 rfl (lv_at hl 5 rfl) ?_
    refine lv_iload hx hb dL_law_964 (lv_at hl 0 rfl) ?_
    refine lv_iconst (v := nI 2) hx hb dL_law_966 (by decide) ?_
    refine lv_iadd hx hb dL_law_967 ?_
    refine su_eqi (nI (i + 2)) (nI_ad _ _) ?_
    refine va_sld hx hb hX hbl hbA hS (vp_in_nI (by omega) (by omega)) dL_law_968 ?_
    refine su_eqi (xs (i + 2)) (by rw [nI_clamp (by omega)]) ?_
    refine lv_aload_n hx hb dL_law_969 rfl (lv_at hl 5 rfl) ?_
    refine lv_iload hx hb dL_law_970 (lv_at hl 0 rfl) ?_
    refine lv_iconst (v := nI 3) hx hb dL_law_972 (by decide) ?_
    refine lv_iadd hx hb dL_law_973 ?_
    refine su_eqi (nI (i + 3)) (nI_ad _ _) ?_
    refine va_sld hx hb hX hbl hbA hS (vp_in_nI (by omega) (by omega)) dL_law_974 ?_
    refine su_eqi (xs (i + 3)) (by rw [nI_clamp (by omega)]) ?_
    refine lv_if_eq (tgt := 982) hx hb dL_law_975 (by decide) (fun h9 => absurd h9 hz) (fun _ => ?_)
    refine lv_iconst (v := nI 1) hx hb dL_law_978 (by decide) ?_
    refine lv_goto (tgt := 983) hx hb dL_law_979 (by decide) ?_
    refine lv_aload_n hx hb dL_law_983 rfl (lv_at hl 2 rfl) ?_
    refine law_wL (vx_runSW (As := [.ref (ad 0), .int (xs (i + 1)), .int (xs (i + 2)), .int (bI true), .ref oo]) (rest := []) ⟨hx, hb, hml, hown, hts⟩ (L_isSum l hfl D cI cL cZ H.size ad S oo f ok0 ok1 (xs (i + 1)) (xs (i + 2)) true kk v L0 L1 hr) (vx_cwSW 5 hts (lw_gH q_678 q_679 q_30 q_680) rfl rfl rfl (by decide +kernel) ⟨Nat.le_trans (Nat.le_of_ble_eq_true rfl) hR1, Nat.le_trans (Nat.le_of_ble_eq_true rfl) hR2⟩) (su_psx hE hS hA hN hK hP hD [0, 2, 3, 4, 5, 6, 7, 8, 9, 10, 11, 12, 13, 14, 15, 16, 17, 18, 19, 20, 21, 22, 23, 24, 25, 26, 27, 28, 29, 30, 31, 32, 33, 34, 35, 36, 37, 38, 39, 40, 41, 42, 43, 44, 45, 46, 47, 48, 49, 50, 51, 52, 53, 54, 55, 56, 57, 58, 59, 60, 61, 62, 63, 64, 65, 66, 67, 68, 69, 70] [0, 1, 2] rfl rfl rfl) rfl rfl hl.1 rfl (lv_room (Nat.le_of_ble_eq_true rfl)) dL_law_984 ⟨Nat.le_trans (Nat.add_le_add_left (Nat.le_of_ble_eq_true rfl) _) hcc, Nat.le_trans (Nat.add_le_add_left (Nat.le_of_ble_eq_true rfl) _) hss⟩) hP hD hS hA (fun r u H locs hw hP hD hS => ?_)
    obtain ⟨S1, f1⟩ := u
    obtain rfl := hw.1
    refine lv_istore (lv' := [(6, .int (nI kk)), (5, .int (nI i)), (4, .ref od), (3, .ref oo), (2, .ref (ad2 0)), (1, .ref (ad 0)), (0, .ref b)]) hx hb dL_law_987 hl (by decide) rfl (fun ls hl => ?_)
    refine lv_aload_n hx hb dL_law_989 rfl (lv_at hl 4 rfl) ?_
    refine lv_aload_n hx hb dL_law_990 rfl (lv_at hl 6 rfl) ?_
    refine lv_iload hx hb dL_law_991 (lv_at hl 1 rfl) ?_
    refine lv_iconst (v := nI 1) hx hb dL_law_993 (by decide) ?_
    refine lv_iadd hx hb dL_law_994 ?_
    refine su_eqi (nI (i + 1)) (nI_ad _ _) ?_
    refine va_sld hx hb hX hbl hbA hS (vp_in_nI (by omega) (by omega)) dL_law_995 ?_
    refine su_eqi (xs (i + 1)) (by rw [nI_clamp (by omega)]) ?_
    refine lv_aload_n hx hb dL_law_996 rfl (lv_at hl 6 rfl) ?_
    refine lv_iload hx hb dL_law_997 (lv_at hl 1 rfl) ?_
    refine lv_iconst (v := nI 2) hx hb dL_law_999 (by decide) ?_
    refine lv_iadd hx hb dL_law_1000 ?_
    refine su_eqi (nI (i + 2)) (nI_ad _ _) ?_
    refine va_sld hx hb hX hbl hbA hS (vp_in_nI (by omega) (by omega)) dL_law_1001 ?_
    refine su_eqi (xs (i + 2)) (by rw [nI_clamp (by omega)]) ?_
    refine lv_aload_n hx hb dL_law_1002 rfl (lv_at hl 6 rfl) ?_
    refine lv_iload hx hb dL_law_1003 (lv_at hl 1 rfl) ?_
    refine lv_iconst (v := nI 3) hx hb dL_law_1005 (by decide) ?_
    refine lv_iadd hx hb dL_law_1006 ?_
    refine su_eqi (nI (i + 3)) (nI_ad _ _) ?_
    refine va_sld hx hb hX hbl hbA hS (vp_in_nI (by omega) (by omega)) dL_law_1007 ?_
    refine su_eqi (xs (i + 3)) (by rw [nI_clamp (by omega)]) ?_
    refine lv_if_eq (tgt := 1015) hx hb dL_law_1008 (by decide) (fun h9 => absurd h9 hz) (fun _ => ?_)
    refine lv_iconst (v := nI 1) hx hb dL_law_1011 (by decide) ?_
    refine lv_goto (tgt := 1016) hx hb dL_law_1012 (by decide) ?_
    refine law_mi (va_runV (As := [.int (xs (i + 1)), .int (xs (i + 2)), .int (bI true)]) (rest := []) ⟨hx, hb, hml, hown, hts⟩ (M_isSum l D cI cL cZ cA cB H.size ad2 T (S.1 0) (S.1 1) (S.2.1 0) (S.2.1 1) hL0 hL1 ok0 ok1 (xs (i + 1)) (xs (i + 2)) true kk v L0 L1 hr) (cwV 3 hts (lw_gV q_1103 q_1104 q_1105 q_42 q_1106) rfl rfl rfl (by decide +kernel) ⟨Nat.le_trans (Nat.le_of_ble_eq_true rfl) hR1, Nat.le_trans (Nat.le_of_ble_eq_true rfl) hR2⟩) (su_pv hN hK hP hD [71, 72, 73, 74, 75, 76, 77, 78, 79, 80] [0, 1, 2, 3, 4] rfl rfl rfl (ci := 10) (q0 := 0) rfl rfl rfl) rfl rfl hl.1 rfl (lv_room (Nat.le_of_ble_eq_true rfl)) dL_law_1016 ⟨Nat.le_trans (by omega) hcc, Nat.le_trans (by omega) hss⟩) hP hD hS hA (fun r2 T1 H locs hw2 hP hD hS => ?_)
    refine lv_istore (lv' := [(7, .int r2), (6, .int (nI kk)), (5, .int (nI i)), (4, .ref od), (3, .ref oo), (2, .ref (ad2 0)), (1, .ref (ad 0)), (0, .ref b)]) hx hb dL_law_1019 hl (by decide) rfl (fun ls hl => ?_)
    refine lv_aload_n hx hb dL_law_1021 rfl (lv_at hl 5 rfl) ?_
    refine law_mi (va_runV (As := []) (rest := []) ⟨hx, hb, hml, hown, hts⟩ (M_thrown l D cI cL cZ cA cB H.size ad2 T1) (cwV 0 hts (lw_gV q_1018 q_1019 q_1020 q_42 q_1021) rfl rfl rfl (by decide +kernel) ⟨Nat.le_trans (Nat.le_of_ble_eq_true rfl) hR1, Nat.le_trans (Nat.le_of_ble_eq_true rfl) hR2⟩) (su_pv hN hK hP hD [71, 72, 73, 74, 75, 76, 77, 78, 79, 80] [0, 1, 2, 3, 4] rfl rfl rfl (ci := 10) (q0 := 0) rfl rfl rfl) rfl rfl hl.1 rfl (lv_room (Nat.le_of_ble_eq_true rfl)) dL_law_1022 ⟨Nat.le_trans (by omega) hcc, Nat.le_trans (by omega) hss⟩) hP hD hS hA (fun r3 u H locs ht hP hD hS => ?_)
    obtain ⟨ht, hu⟩ := ht
    have hu := hu.symm
    subst hu
    obtain rfl : r3 = nI kk := ht.trans hw2.1
    have ht : nI kk = nI kk ∧ True := ⟨rfl, trivial⟩
    refine lv_iload hx hb dL_law_1025 (lv_at hl 1 rfl) ?_
    refine lv_icmp_eq (tgt := 1032) hx hb dL_law_1027 (by decide) (fun _ => ?_) (fun h9 => absurd (by first | exact ht.1 | rfl) h9)
    refine lv_iload hx hb dL_law_1032 (lv_at hl 1 rfl) ?_
    refine lv_if_ne (tgt := 1056) hx hb dL_law_1034 (by decide) (fun h9 => ?_) (fun h9 => ?_)
    · refine lv_goto (tgt := 2877) hx hb dL_law_1056 (by decide) ?_
      refine W.widen (k := cells + 2) (n := slots + 26) (by omega) (by omega) ?_
      exact kk9 S1 f1 fd T1 H locs ls (lawI_of hw.2.2.1 hw.2.2.2 hw2.2.2.1 hw2.2.2.2 hk0 hk1) hP hD hS (lv_sub hl [2, 3, 4, 5, 6, 7] rfl)
    · have hk := kk_0 hk4 h9
      have ho : f1 0 = su_z01 v := hw.2.1 hk
      have hv2 := hw2.2.1 hk
      refine lv_aload_n hx hb dL_law_1037 rfl (lv_at hl 4 rfl) ?_
      refine lv_iconst (v := nI 0) hx hb dL_law_1038 (by decide) ?_
      refine su_lald hx hb hK hP 0 1 rfl rfl (i := 0) (by decide) (by decide) (f1 0) rfl dL_law_1039 ?_
      refine lv_iload hx hb dL_law_1040 (lv_at hl 0 rfl) ?_
      refine lv_if_eq (tgt := 1049) hx hb dL_law_1042 (by decide) (fun cz => ?_) (fun cz => ?_)
      · have ho := ho.trans (show su_z01 v = 0 from if_pos (by rw [← hv2]; exact cz))
        refine lv_lconst (v := 0) hx hb dL_law_1049 (by decide) ?_
        refine W.lcmp hx hb dL_law_1050 ?_
        refine su_eqi 0 (by first | (rw [ho]; exact lg_self _) | (rw [ho, hv2]; exact lg_self _)) ?_
        refine lv_if_eq (tgt := 1056) hx hb dL_law_1051 (by decide) (fun _ => ?_) (fun h9 => absurd rfl h9)
        refine lv_goto (tgt := 2877) hx hb dL_law_1056 (by decide) ?_
        refine W.widen (k := cells + 2) (n := slots + 26) (by omega) (by omega) ?_
        exact kk9 S1 f1 fd T1 H locs ls (lawI_of hw.2.2.1 hw.2.2.2 hw2.2.2.1 hw2.2.2.2 hk0 hk1) hP hD hS (lv_sub hl [2, 3, 4, 5, 6, 7] rfl)
      · have ho := ho.trans (show su_z01 v = 1 from if_neg (by rw [← hv2]; exact cz))
        refine lv_lconst (v := 1) hx hb dL_law_1045 (by decide) ?_
        refine lv_goto (tgt := 1050) hx hb dL_law_1046 (by decide) ?_
        refine W.lcmp hx hb dL_law_1050 ?_
        refine su_eqi 0 (by first | (rw [ho]; exact lg_self _) | (rw [ho, hv2]; exact lg_self _)) ?_
        refine lv_if_eq (tgt := 1056) hx hb dL_law_1051 (by decide) (fun _ => ?_) (fun h9 => absurd rfl h9)
        refine lv_goto (tgt := 2877) hx hb dL_law_1056 (by decide) ?_
        refine W.widen (k := cells + 2) (n := slots + 26) (by omega) (by omega) ?_
        exact kk9 S1 f1 fd T1 H locs ls (lawI_of hw.2.2.1 hw.2.2.2 hw2.2.2.1 hw2.2.2.2 hk0 hk1) hP hD hS (lv_sub hl [2, 3, 4, 5, 6, 7] rfl)
set_option maxHeartbeats 4000000 in
set_option maxRecDepth 100000 in
theorem case_lastGap {p : Program} {l : Launch} {e : Env} {R : Room} {s : State} {m : MethodId} {args : Array Value} {below : List Frame} {meth : Method} {c : Code} {Q : State → Prop} {A : Nat → Prop} {D : va_G} {cI cL cZ cA cB cD : ClassId} {b L : Nat} {xs : Nat → Int32} {ad ad2 : Nat → Nat} {oo od : Nat}
    (C9 : lawC p l s m args c A D cI cL cZ cA cB cD b L xs R) {i : Nat} (hi : i + 4 ≤ L) {S : CS} {f : Nat → Int64} {fd : Nat → UInt64} {T : MS} (I9 : lawI S T) {H : Heap} {locs : List Loc} {ls : Array Slot} {cells slots : Nat} (hcc : cells + 2 ≤ R.cells) (hss : slots + 26 ≤ R.slots)
    (hP : va_P D vwCl (lawW ad ad2 cI cL cZ cA cB cD oo od S f fd T) H) (hD : va_D A (lawW ad ad2 cI cL cZ cA cB cD oo od S f fd T)) (hS : va_S A s.heap H locs) (hl : lv_has ls 9 [(5, .int (nI i)), (4, .ref od), (3, .ref oo), (2, .ref (ad2 0)), (1, .ref (ad 0)), (0, .ref b)])
    (kk9 : lawK p l e R s m args below meth c Q A D cI cL cZ cA cB cD b ad ad2 oo od i cells slots) : W p l e R s m args below meth c H locs cells slots Q (F0 m 1431 ls []) := by
  obtain ⟨hx, hb, hml, hown, hts, hN, hE, hfl, hX, hbl, hbA, hA, hK, hR1, hR2, hL⟩ := C9
  obtain ⟨ok0, ok1, hL0, hL1⟩ := I9
  by_cases hz : xs (i + 2) = 0
  · obtain ⟨kk, v, L0, L1, hr, hk0, hk1, hk4⟩ := su_h1_tot ((0 : Int32)) (RT := fun g n => R_lastGap g n false) (fun g n ok => T_lastGap g n false ok) ok0 ok1 (xs (i + 1))
    refine lv_aload_n hx hb dL_law_1431 rfl (lv_at hl 4 rfl) ?_
    refine lv_aload_n hx hb dL_law_1432 rfl (lv_at hl 5 rfl) ?_
    refine lv_iload hx hb dL_law_1433 (lv_at hl 0 rfl) ?_
    refine lv_iconst (v := nI 1) hx hb dL_law_1435 (by decide) ?_
    refine lv_iadd hx hb dL_law_1436 ?_
    refine su_eqi (nI (i + 1)) (nI_ad _ _) ?_
    refine va_sld hx hb hX hbl hbA hS (vp_in_nI (by omega) (by omega)) dL_law_1437 ?_
    refine su_eqi (xs (i + 1)) (by rw [nI_clamp (by omega)]) ?_
    refine lv_aload_n hx hb dL_law_1438 rfl (lv_at hl 5 rfl) ?_
    refine lv_iload hx hb dL_law_1439 (lv_at hl 0 rfl) ?_
    refine lv_iconst (v := nI 2) hx hb dL_law_1441 (by decide) ?_
    refine lv_iadd hx hb dL_law_1442 ?_
    refine su_eqi (nI (i + 2)) (nI_ad _ _) ?_
    refine va_sld hx hb hX hbl hbA hS (vp_in_nI (by omega) (by omega)) dL_law_1443 ?_
    refine su_eqi (xs (i + 2)) (by rw [nI_clamp (by omega)]) ?_
    refine lv_if_eq (tgt := 1451) hx hb dL_law_1444 (by decide) (fun _ => ?_) (fun h9 => absurd hz h9)
    refine lv_iconst (v := nI 0) hx hb dL_law_1451 (by decide) ?_
    refine lv_aload_n hx hb dL_law_1452 rfl (lv_at hl 2 rfl) ?_
    refine law_wL (vx_runSW (As := [.ref (ad 0), .int (xs (i + 1)), .int (bI false), .ref oo]) (rest := []) ⟨hx, hb, hml, hown, hts⟩ (L_lastGap l hfl D cI cL cZ H.size ad S oo f ok0 ok1 (xs (i + 1)) false kk v L0 L1 hr) (vx_cwSW 4 hts (lw_gH q_750 q_751 q_30 q_752) rfl rfl rfl (by decide +kernel) ⟨Nat.le_trans (Nat.le_of_ble_eq_true rfl) hR1, Nat.le_trans (Nat.le_of_ble_eq_true rfl) hR2⟩) (su_psx hE hS hA hN hK hP hD [0, 2, 3, 4, 5, 6, 7, 8, 9, 10, 11, 12, 13, 14, 15, 16, 17, 18, 19, 20, 21, 22, 23, 24, 25, 26, 27, 28, 29, 30, 31, 32, 33, 34, 35, 36, 37, 38, 39, 40, 41, 42, 43, 44, 45, 46, 47, 48, 49, 50, 51, 52, 53, 54, 55, 56, 57, 58, 59, 60, 61, 62, 63, 64, 65, 66, 67, 68, 69, 70] [0, 1, 2] rfl rfl rfl) rfl rfl hl.1 rfl (lv_room (Nat.le_of_ble_eq_true rfl)) dL_law_1453 ⟨Nat.le_trans (Nat.add_le_add_left (Nat.le_of_ble_eq_true rfl) _) hcc, Nat.le_trans (Nat.add_le_add_left (Nat.le_of_ble_eq_true rfl) _) hss⟩) hP hD hS hA (fun r u H locs hw hP hD hS => ?_)
    obtain ⟨S1, f1⟩ := u
    obtain rfl := hw.1
    refine lv_istore (lv' := [(6, .int (nI kk)), (5, .int (nI i)), (4, .ref od), (3, .ref oo), (2, .ref (ad2 0)), (1, .ref (ad 0)), (0, .ref b)]) hx hb dL_law_1456 hl (by decide) rfl (fun ls hl => ?_)
    refine lv_aload_n hx hb dL_law_1458 rfl (lv_at hl 4 rfl) ?_
    refine lv_aload_n hx hb dL_law_1459 rfl (lv_at hl 6 rfl) ?_
    refine lv_iload hx hb dL_law_1460 (lv_at hl 1 rfl) ?_
    refine lv_iconst (v := nI 1) hx hb dL_law_1462 (by decide) ?_
    refine lv_iadd hx hb dL_law_1463 ?_
    refine su_eqi (nI (i + 1)) (nI_ad _ _) ?_
    refine va_sld hx hb hX hbl hbA hS (vp_in_nI (by omega) (by omega)) dL_law_1464 ?_
    refine su_eqi (xs (i + 1)) (by rw [nI_clamp (by omega)]) ?_
    refine lv_aload_n hx hb dL_law_1465 rfl (lv_at hl 6 rfl) ?_
    refine lv_iload hx hb dL_law_1466 (lv_at hl 1 rfl) ?_
    refine lv_iconst (v := nI 2) hx hb dL_law_1468 (by decide) ?_
    refine lv_iadd hx hb dL_law_1469 ?_
    refine su_eqi (nI (i + 2)) (nI_ad _ _) ?_
    refine va_sld hx hb hX hbl hbA hS (vp_in_nI (by omega) (by omega)) dL_law_1470 ?_
    refine su_eqi (xs (i + 2)) (by rw [nI_clamp (by omega)]) ?_
    refine lv_if_eq (tgt := 1478) hx hb dL_law_1471 (by decide) (fun _ => ?_) (fun h9 => absurd hz h9)
    refine lv_iconst (v := nI 0) hx hb dL_law_1478 (by decide) ?_
    refine law_mi (va_runV (As := [.int (xs (i + 1)), .int (bI false)]) (rest := []) ⟨hx, hb, hml, hown, hts⟩ (M_lastGap l D cI cL cZ cA cB H.size ad2 T (S.1 0) (S.1 1) (S.2.1 0) (S.2.1 1) hL0 hL1 ok0 ok1 (xs (i + 1)) false kk v L0 L1 hr) (cwV 2 hts (lw_gV q_1139 q_1140 q_1141 q_42 q_1142) rfl rfl rfl (by decide +kernel) ⟨Nat.le_trans (Nat.le_of_ble_eq_true rfl) hR1, Nat.le_trans (Nat.le_of_ble_eq_true rfl) hR2⟩) (su_pv hN hK hP hD [71, 72, 73, 74, 75, 76, 77, 78, 79, 80] [0, 1, 2, 3, 4] rfl rfl rfl (ci := 10) (q0 := 0) rfl rfl rfl) rfl rfl hl.1 rfl (lv_room (Nat.le_of_ble_eq_true rfl)) dL_law_1479 ⟨Nat.le_trans (by omega) hcc, Nat.le_trans (by omega) hss⟩) hP hD hS hA (fun r2 T1 H locs hw2 hP hD hS => ?_)
    refine lv_istore (lv' := [(7, .int r2), (6, .int (nI kk)), (5, .int (nI i)), (4, .ref od), (3, .ref oo), (2, .ref (ad2 0)), (1, .ref (ad 0)), (0, .ref b)]) hx hb dL_law_1482 hl (by decide) rfl (fun ls hl => ?_)
    refine lv_aload_n hx hb dL_law_1484 rfl (lv_at hl 5 rfl) ?_
    refine law_mi (va_runV (As := []) (rest := []) ⟨hx, hb, hml, hown, hts⟩ (M_thrown l D cI cL cZ cA cB H.size ad2 T1) (cwV 0 hts (lw_gV q_1018 q_1019 q_1020 q_42 q_1021) rfl rfl rfl (by decide +kernel) ⟨Nat.le_trans (Nat.le_of_ble_eq_true rfl) hR1, Nat.le_trans (Nat.le_of_ble_eq_true rfl) hR2⟩) (su_pv hN hK hP hD [71, 72, 73, 74, 75, 76, 77, 78, 79, 80] [0, 1, 2, 3, 4] rfl rfl rfl (ci := 10) (q0 := 0) rfl rfl rfl) rfl rfl hl.1 rfl (lv_room (Nat.le_of_ble_eq_true rfl)) dL_law_1485 ⟨Nat.le_trans (by omega) hcc, Nat.le_trans (by omega) hss⟩) hP hD hS hA (fun r3 u H locs ht hP hD hS => ?_)
    obtain ⟨ht, hu⟩ := ht
    have hu := hu.symm
    subst hu
    obtain rfl : r3 = nI kk := ht.trans hw2.1
    have ht : nI kk = nI kk ∧ True := ⟨rfl, trivial⟩
    refine lv_iload hx hb dL_law_1488 (lv_at hl 1 rfl) ?_
    refine lv_icmp_eq (tgt := 1495) hx hb dL_law_1490 (by decide) (fun _ => ?_) (fun h9 => absurd (by first | exact ht.1 | rfl) h9)
    refine lv_iload hx hb dL_law_1495 (lv_at hl 1 rfl) ?_
    refine lv_if_ne (tgt := 1512) hx hb dL_law_1497 (by decide) (fun h9 => ?_) (fun h9 => ?_)
    · refine lv_goto (tgt := 2877) hx hb dL_law_1512 (by decide) ?_
      refine W.widen (k := cells + 2) (n := slots + 26) (by omega) (by omega) ?_
      exact kk9 S1 f1 fd T1 H locs ls (lawI_of hw.2.2.1 hw.2.2.2 hw2.2.2.1 hw2.2.2.2 hk0 hk1) hP hD hS (lv_sub hl [2, 3, 4, 5, 6, 7] rfl)
    · have hk := kk_0 hk4 h9
      have ho : f1 0 = v.toInt64 := hw.2.1 hk
      have hv2 := hw2.2.1 hk
      refine lv_aload_n hx hb dL_law_1500 rfl (lv_at hl 4 rfl) ?_
      refine lv_iconst (v := nI 0) hx hb dL_law_1501 (by decide) ?_
      refine su_lald hx hb hK hP 0 1 rfl rfl (i := 0) (by decide) (by decide) (f1 0) rfl dL_law_1502 ?_
      refine lv_iload hx hb dL_law_1503 (lv_at hl 0 rfl) ?_
      refine lv_i2l (v := r2.toInt64) hx hb dL_law_1505 rfl ?_
      refine W.lcmp hx hb dL_law_1506 ?_
      refine su_eqi 0 (by first | (rw [ho]; exact lg_self _) | (rw [ho, hv2]; exact lg_self _)) ?_
      refine lv_if_eq (tgt := 1512) hx hb dL_law_1507 (by decide) (fun _ => ?_) (fun h9 => absurd rfl h9)
      refine lv_goto (tgt := 2877) hx hb dL_law_1512 (by decide) ?_
      refine W.widen (k := cells + 2) (n := slots + 26) (by omega) (by omega) ?_
      exact kk9 S1 f1 fd T1 H locs ls (lawI_of hw.2.2.1 hw.2.2.2 hw2.2.2.1 hw2.2.2.2 hk0 hk1) hP hD hS (lv_sub hl [2, 3, 4, 5, 6, 7] rfl)
  · obtain ⟨kk, v, L0, L1, hr, hk0, hk1, hk4⟩ := su_h1_tot ((0 : Int32)) (RT := fun g n => R_lastGap g n true) (fun g n ok => T_lastGap g n true ok) ok0 ok1 (xs (i + 1))
    refine lv_aload_n hx hb dL_law_1431 rfl (lv_at hl 4 rfl) ?_
    refine lv_aload_n hx hb dL_law_1432 rfl (lv_at hl 5 rfl) ?_
    refine lv_iload hx hb dL_law_1433 (lv_at hl 0 rfl) ?_
    refine lv_iconst (v := nI 1) hx hb dL_law_1435 (by decide) ?_
    refine lv_iadd hx hb dL_law_1436 ?_
    refine su_eqi (nI (i + 1)) (nI_ad _ _) ?_
    refine va_sld hx hb hX hbl hbA hS (vp_in_nI (by omega) (by omega)) dL_law_1437 ?_
    refine su_eqi (xs (i + 1)) (by rw [nI_clamp (by omega)]) ?_
    refine lv_aload_n hx hb dL_law_1438 rfl (lv_at hl 5 rfl) ?_
    refine lv_iload hx hb dL_law_1439 (lv_at hl 0 rfl) ?_
    refine lv_iconst (v := nI 2) hx hb dL_law_1441 (by decide) ?_
    refine lv_iadd hx hb dL_law_1442 ?_
    refine su_eqi (nI (i + 2)) (nI_ad _ _) ?_
    refine va_sld hx hb hX hbl hbA hS (vp_in_nI (by omega) (by omega)) dL_law_1443 ?_
    refine su_eqi (xs (i + 2)) (by rw [nI_clamp (by omega)]) ?_
    refine lv_if_eq (tgt := 1451) hx hb dL_law_1444 (by decide) (fun h9 => absurd h9 hz) (fun _ => ?_)
    refine lv_iconst (v := nI 1) hx hb dL_law_1447 (by decide) ?_
    refine lv_goto (tgt := 1452) hx hb dL_law_1448 (by decide) ?_
    refine lv_aload_n hx hb dL_law_1452 rfl (lv_at hl 2 rfl) ?_
    refine law_wL (vx_runSW (As := [.ref (ad 0), .int (xs (i + 1)), .int (bI true), .ref oo]) (rest := []) ⟨hx, hb, hml, hown, hts⟩ (L_lastGap l hfl D cI cL cZ H.size ad S oo f ok0 ok1 (xs (i + 1)) true kk v L0 L1 hr) (vx_cwSW 4 hts (lw_gH q_750 q_751 q_30 q_752) rfl rfl rfl (by decide +kernel) ⟨Nat.le_trans (Nat.le_of_ble_eq_true rfl) hR1, Nat.le_trans (Nat.le_of_ble_eq_true rfl) hR2⟩) (su_psx hE hS hA hN hK hP hD [0, 2, 3, 4, 5, 6, 7, 8, 9, 10, 11, 12, 13, 14, 15, 16, 17, 18, 19, 20, 21, 22, 23, 24, 25, 26, 27, 28, 29, 30, 31, 32, 33, 34, 35, 36, 37, 38, 39, 40, 41, 42, 43, 44, 45, 46, 47, 48, 49, 50, 51, 52, 53, 54, 55, 56, 57, 58, 59, 60, 61, 62, 63, 64, 65, 66, 67, 68, 69, 70] [0, 1, 2] rfl rfl rfl) rfl rfl hl.1 rfl (lv_room (Nat.le_of_ble_eq_true rfl)) dL_law_1453 ⟨Nat.le_trans (Nat.add_le_add_left (Nat.le_of_ble_eq_true rfl) _) hcc, Nat.le_trans (Nat.add_le_add_left (Nat.le_of_ble_eq_true rfl) _) hss⟩) hP hD hS hA (fun r u H locs hw hP hD hS => ?_)
    obtain ⟨S1, f1⟩ := u
    obtain rfl := hw.1
    refine lv_istore (lv' := [(6, .int (nI kk)), (5, .int (nI i)), (4, .ref od), (3, .ref oo), (2, .ref (ad2 0)), (1, .ref (ad 0)), (0, .ref b)]) hx hb dL_law_1456 hl (by decide) rfl (fun ls hl => ?_)
    refine lv_aload_n hx hb dL_law_1458 rfl (lv_at hl 4 rfl) ?_
    refine lv_aload_n hx hb dL_law_1459 rfl (lv_at hl 6 rfl) ?_
    refine lv_iload hx hb dL_law_1460 (lv_at hl 1 rfl) ?_
    refine lv_iconst (v := nI 1) hx hb dL_law_1462 (by decide) ?_
    refine lv_iadd hx hb dL_law_1463 ?_
    refine su_eqi (nI (i + 1)) (nI_ad _ _) ?_
    refine va_sld hx hb hX hbl hbA hS (vp_in_nI (by omega) (by omega)) dL_law_1464 ?_
    refine su_eqi (xs (i + 1)) (by rw [nI_clamp (by omega)]) ?_
    refine lv_aload_n hx hb dL_law_1465 rfl (lv_at hl 6 rfl) ?_
    refine lv_iload hx hb dL_law_1466 (lv_at hl 1 rfl) ?_
    refine lv_iconst (v := nI 2) hx hb dL_law_1468 (by decide) ?_
    refine lv_iadd hx hb dL_law_1469 ?_
    refine su_eqi (nI (i + 2)) (nI_ad _ _) ?_
    refine va_sld hx hb hX hbl hbA hS (vp_in_nI (by omega) (by omega)) dL_law_1470 ?_
    refine su_eqi (xs (i + 2)) (by rw [nI_clamp (by omega)]) ?_
    refine lv_if_eq (tgt := 1478) hx hb dL_law_1471 (by decide) (fun h9 => absurd h9 hz) (fun _ => ?_)
    refine lv_iconst (v := nI 1) hx hb dL_law_1474 (by decide) ?_
    refine lv_goto (tgt := 1479) hx hb dL_law_1475 (by decide) ?_
    refine law_mi (va_runV (As := [.int (xs (i + 1)), .int (bI true)]) (rest := []) ⟨hx, hb, hml, hown, hts⟩ (M_lastGap l D cI cL cZ cA cB H.size ad2 T (S.1 0) (S.1 1) (S.2.1 0) (S.2.1 1) hL0 hL1 ok0 ok1 (xs (i + 1)) true kk v L0 L1 hr) (cwV 2 hts (lw_gV q_1139 q_1140 q_1141 q_42 q_1142) rfl rfl rfl (by decide +kernel) ⟨Nat.le_trans (Nat.le_of_ble_eq_true rfl) hR1, Nat.le_trans (Nat.le_of_ble_eq_true rfl) hR2⟩) (su_pv hN hK hP hD [71, 72, 73, 74, 75, 76, 77, 78, 79, 80] [0, 1, 2, 3, 4] rfl rfl rfl (ci := 10) (q0 := 0) rfl rfl rfl) rfl rfl hl.1 rfl (lv_room (Nat.le_of_ble_eq_true rfl)) dL_law_1479 ⟨Nat.le_trans (by omega) hcc, Nat.le_trans (by omega) hss⟩) hP hD hS hA (fun r2 T1 H locs hw2 hP hD hS => ?_)
    refine lv_istore (lv' := [(7, .int r2), (6, .int (nI kk)), (5, .int (nI i)), (4, .ref od), (3, .ref oo), (2, .ref (ad2 0)), (1, .ref (ad 0)), (0, .ref b)]) hx hb dL_law_1482 hl (by decide) rfl (fun ls hl => ?_)
    refine lv_aload_n hx hb dL_law_1484 rfl (lv_at hl 5 rfl) ?_
    refine law_mi (va_runV (As := []) (rest := []) ⟨hx, hb, hml, hown, hts⟩ (M_thrown l D cI cL cZ cA cB H.size ad2 T1) (cwV 0 hts (lw_gV q_1018 q_1019 q_1020 q_42 q_1021) rfl rfl rfl (by decide +kernel) ⟨Nat.le_trans (Nat.le_of_ble_eq_true rfl) hR1, Nat.le_trans (Nat.le_of_ble_eq_true rfl) hR2⟩) (su_pv hN hK hP hD [71, 72, 73, 74, 75, 76, 77, 78, 79, 80] [0, 1, 2, 3, 4] rfl rfl rfl (ci := 10) (q0 := 0) rfl rfl rfl) rfl rfl hl.1 rfl (lv_room (Nat.le_of_ble_eq_true rfl)) dL_law_1485 ⟨Nat.le_trans (by omega) hcc, Nat.le_trans (by omega) hss⟩) hP hD hS hA (fun r3 u H locs ht hP hD hS => ?_)
    obtain ⟨ht, hu⟩ := ht
    have hu := hu.symm
    subst hu
    obtain rfl : r3 = nI kk := ht.trans hw2.1
    have ht : nI kk = nI kk ∧ True := ⟨rfl, trivial⟩
    refine lv_iload hx hb dL_law_1488 (lv_at hl 1 rfl) ?_
    refine lv_icmp_eq (tgt := 1495) hx hb dL_law_1490 (by decide) (fun _ => ?_) (fun h9 => absurd (by first | exact ht.1 | rfl) h9)
    refine lv_iload hx hb dL_law_1495 (lv_at hl 1 rfl) ?_
    refine lv_if_ne (tgt := 1512) hx hb dL_law_1497 (by decide) (fun h9 => ?_) (fun h9 => ?_)
    · refine lv_goto (tgt := 2877) hx hb dL_law_1512 (by decide) ?_
      refine W.widen (k := cells + 2) (n := slots + 26) (by omega) (by omega) ?_
      exact kk9 S1 f1 fd T1 H locs ls (lawI_of hw.2.2.1 hw.2.2.2 hw2.2.2.1 hw2.2.2.2 hk0 hk1) hP hD hS (lv_sub hl [2, 3, 4, 5, 6, 7] rfl)
    · have hk := kk_0 hk4 h9
      have ho : f1 0 = v.toInt64 := hw.2.1 hk
      have hv2 := hw2.2.1 hk
      refine lv_aload_n hx hb dL_law_1500 rfl (lv_at hl 4 rfl) ?_
      refine lv_iconst (v := nI 0) hx hb dL_law_1501 (by decide) ?_
      refine su_lald hx hb hK hP 0 1 rfl rfl (i := 0) (by decide) (by decide) (f1 0) rfl dL_law_1502 ?_
      refine lv_iload hx hb dL_law_1503 (lv_at hl 0 rfl) ?_
      refine lv_i2l (v := r2.toInt64) hx hb dL_law_1505 rfl ?_
      refine W.lcmp hx hb dL_law_1506 ?_
      refine su_eqi 0 (by first | (rw [ho]; exact lg_self _) | (rw [ho, hv2]; exact lg_self _)) ?_
      refine lv_if_eq (tgt := 1512) hx hb dL_law_1507 (by decide) (fun _ => ?_) (fun h9 => absurd rfl h9)
      refine lv_goto (tgt := 2877) hx hb dL_law_1512 (by decide) ?_
      refine W.widen (k := cells + 2) (n := slots + 26) (by omega) (by omega) ?_
      exact kk9 S1 f1 fd T1 H locs ls (lawI_of hw.2.2.1 hw.2.2.2 hw2.2.2.1 hw2.2.2.2 hk0 hk1) hP hD hS (lv_sub hl [2, 3, 4, 5, 6, 7] rfl)
set_option maxHeartbeats 4000000 in
set_option maxRecDepth 100000 in
theorem case_fair {p : Program} {l : Launch} {e : Env} {R : Room} {s : State} {m : MethodId} {args : Array Value} {below : List Frame} {meth : Method} {c : Code} {Q : State → Prop} {A : Nat → Prop} {D : va_G} {cI cL cZ cA cB cD : ClassId} {b L : Nat} {xs : Nat → Int32} {ad ad2 : Nat → Nat} {oo od : Nat}
    (C9 : lawC p l s m args c A D cI cL cZ cA cB cD b L xs R) {i : Nat} (hi : i + 4 ≤ L) {S : CS} {f : Nat → Int64} {fd : Nat → UInt64} {T : MS} (I9 : lawI S T) {H : Heap} {locs : List Loc} {ls : Array Slot} {cells slots : Nat} (hcc : cells + 2 ≤ R.cells) (hss : slots + 26 ≤ R.slots)
    (hP : va_P D vwCl (lawW ad ad2 cI cL cZ cA cB cD oo od S f fd T) H) (hD : va_D A (lawW ad ad2 cI cL cZ cA cB cD oo od S f fd T)) (hS : va_S A s.heap H locs) (hl : lv_has ls 9 [(5, .int (nI i)), (4, .ref od), (3, .ref oo), (2, .ref (ad2 0)), (1, .ref (ad 0)), (0, .ref b)])
    (kk9 : lawK p l e R s m args below meth c Q A D cI cL cZ cA cB cD b ad ad2 oo od i cells slots) : W p l e R s m args below meth c H locs cells slots Q (F0 m 1830 ls []) := by
  obtain ⟨hx, hb, hml, hown, hts, hN, hE, hfl, hX, hbl, hbA, hA, hK, hR1, hR2, hL⟩ := C9
  obtain ⟨ok0, ok1, hL0, hL1⟩ := I9
  obtain ⟨kk, v, L0, L1, hr, hk0, hk1, hk4⟩ := su_h1_tot ((0 : Int32)) (RT := fun g n => R_fair g n) (fun g n ok => T_fair g n ok) ok0 ok1 (xs (i + 1))
  refine lv_aload_n hx hb dL_law_1830 rfl (lv_at hl 4 rfl) ?_
  refine lv_aload_n hx hb dL_law_1831 rfl (lv_at hl 5 rfl) ?_
  refine lv_iload hx hb dL_law_1832 (lv_at hl 0 rfl) ?_
  refine lv_iconst (v := nI 1) hx hb dL_law_1834 (by decide) ?_
  refine lv_iadd hx hb dL_law_1835 ?_
  refine su_eqi (nI (i + 1)) (nI_ad _ _) ?_
  refine va_sld hx hb hX hbl hbA hS (vp_in_nI (by omega) (by omega)) dL_law_1836 ?_
  refine su_eqi (xs (i + 1)) (by rw [nI_clamp (by omega)]) ?_
  refine lv_aload_n hx hb dL_law_1837 rfl (lv_at hl 2 rfl) ?_
  refine law_wL (vx_runSW (As := [.ref (ad 0), .int (xs (i + 1)), .ref oo]) (rest := []) ⟨hx, hb, hml, hown, hts⟩ (L_fair l hfl D cI cL cZ H.size ad S oo f ok0 ok1 (xs (i + 1)) kk v L0 L1 hr) (vx_cwSW 3 hts (lw_gH q_807 q_808 q_30 q_809) rfl rfl rfl (by decide +kernel) ⟨Nat.le_trans (Nat.le_of_ble_eq_true rfl) hR1, Nat.le_trans (Nat.le_of_ble_eq_true rfl) hR2⟩) (su_psx hE hS hA hN hK hP hD [0, 2, 3, 4, 5, 6, 7, 8, 9, 10, 11, 12, 13, 14, 15, 16, 17, 18, 19, 20, 21, 22, 23, 24, 25, 26, 27, 28, 29, 30, 31, 32, 33, 34, 35, 36, 37, 38, 39, 40, 41, 42, 43, 44, 45, 46, 47, 48, 49, 50, 51, 52, 53, 54, 55, 56, 57, 58, 59, 60, 61, 62, 63, 64, 65, 66, 67, 68, 69, 70] [0, 1, 2] rfl rfl rfl) rfl rfl hl.1 rfl (lv_room (Nat.le_of_ble_eq_true rfl)) dL_law_1838 ⟨Nat.le_trans (Nat.add_le_add_left (Nat.le_of_ble_eq_true rfl) _) hcc, Nat.le_trans (Nat.add_le_add_left (Nat.le_of_ble_eq_true rfl) _) hss⟩) hP hD hS hA (fun r u H locs hw hP hD hS => ?_)
  obtain ⟨S1, f1⟩ := u
  obtain rfl := hw.1
  refine lv_istore (lv' := [(6, .int (nI kk)), (5, .int (nI i)), (4, .ref od), (3, .ref oo), (2, .ref (ad2 0)), (1, .ref (ad 0)), (0, .ref b)]) hx hb dL_law_1841 hl (by decide) rfl (fun ls hl => ?_)
  refine lv_aload_n hx hb dL_law_1843 rfl (lv_at hl 4 rfl) ?_
  refine lv_aload_n hx hb dL_law_1844 rfl (lv_at hl 6 rfl) ?_
  refine lv_iload hx hb dL_law_1845 (lv_at hl 1 rfl) ?_
  refine lv_iconst (v := nI 1) hx hb dL_law_1847 (by decide) ?_
  refine lv_iadd hx hb dL_law_1848 ?_
  refine su_eqi (nI (i + 1)) (nI_ad _ _) ?_
  refine va_sld hx hb hX hbl hbA hS (vp_in_nI (by omega) (by omega)) dL_law_1849 ?_
  refine su_eqi (xs (i + 1)) (by rw [nI_clamp (by omega)]) ?_
  refine law_mi (va_runV (As := [.int (xs (i + 1))]) (rest := []) ⟨hx, hb, hml, hown, hts⟩ (M_fair l D cI cL cZ cA cB H.size ad2 T (S.1 0) (S.1 1) (S.2.1 0) (S.2.1 1) hL0 hL1 ok0 ok1 (xs (i + 1)) kk v L0 L1 hr) (cwV 1 hts (lw_gV q_1159 q_1160 q_1161 q_42 q_1162) rfl rfl rfl (by decide +kernel) ⟨Nat.le_trans (Nat.le_of_ble_eq_true rfl) hR1, Nat.le_trans (Nat.le_of_ble_eq_true rfl) hR2⟩) (su_pv hN hK hP hD [71, 72, 73, 74, 75, 76, 77, 78, 79, 80] [0, 1, 2, 3, 4] rfl rfl rfl (ci := 10) (q0 := 0) rfl rfl rfl) rfl rfl hl.1 rfl (lv_room (Nat.le_of_ble_eq_true rfl)) dL_law_1850 ⟨Nat.le_trans (by omega) hcc, Nat.le_trans (by omega) hss⟩) hP hD hS hA (fun r2 T1 H locs hw2 hP hD hS => ?_)
  refine lv_istore (lv' := [(7, .int r2), (6, .int (nI kk)), (5, .int (nI i)), (4, .ref od), (3, .ref oo), (2, .ref (ad2 0)), (1, .ref (ad 0)), (0, .ref b)]) hx hb dL_law_1853 hl (by decide) rfl (fun ls hl => ?_)
  refine lv_aload_n hx hb dL_law_1855 rfl (lv_at hl 5 rfl) ?_
  refine law_mi (va_runV (As := []) (rest := []) ⟨hx, hb, hml, hown, hts⟩ (M_thrown l D cI cL cZ cA cB H.size ad2 T1) (cwV 0 hts (lw_gV q_1018 q_1019 q_1020 q_42 q_1021) rfl rfl rfl (by decide +kernel) ⟨Nat.le_trans (Nat.le_of_ble_eq_true rfl) hR1, Nat.le_trans (Nat.le_of_ble_eq_true rfl) hR2⟩) (su_pv hN hK hP hD [71, 72, 73, 74, 75, 76, 77, 78, 79, 80] [0, 1, 2, 3, 4] rfl rfl rfl (ci := 10) (q0 := 0) rfl rfl rfl) rfl rfl hl.1 rfl (lv_room (Nat.le_of_ble_eq_true rfl)) dL_law_1856 ⟨Nat.le_trans (by omega) hcc, Nat.le_trans (by omega) hss⟩) hP hD hS hA (fun r3 u H locs ht hP hD hS => ?_)
  obtain ⟨ht, hu⟩ := ht
  have hu := hu.symm
  subst hu
  obtain rfl : r3 = nI kk := ht.trans hw2.1
  have ht : nI kk = nI kk ∧ True := ⟨rfl, trivial⟩
  refine lv_iload hx hb dL_law_1859 (lv_at hl 1 rfl) ?_
  refine lv_icmp_eq (tgt := 1866) hx hb dL_law_1861 (by decide) (fun _ => ?_) (fun h9 => absurd (by first | exact ht.1 | rfl) h9)
  refine lv_iload hx hb dL_law_1866 (lv_at hl 1 rfl) ?_
  refine lv_if_ne (tgt := 1883) hx hb dL_law_1868 (by decide) (fun h9 => ?_) (fun h9 => ?_)
  · refine lv_goto (tgt := 2877) hx hb dL_law_1883 (by decide) ?_
    refine W.widen (k := cells + 2) (n := slots + 26) (by omega) (by omega) ?_
    exact kk9 S1 f1 fd T1 H locs ls (lawI_of hw.2.2.1 hw.2.2.2 hw2.2.2.1 hw2.2.2.2 hk0 hk1) hP hD hS (lv_sub hl [2, 3, 4, 5, 6, 7] rfl)
  · have hk := kk_0 hk4 h9
    have ho : f1 0 = v.toInt64 := hw.2.1 hk
    have hv2 := hw2.2.1 hk
    refine lv_aload_n hx hb dL_law_1871 rfl (lv_at hl 4 rfl) ?_
    refine lv_iconst (v := nI 0) hx hb dL_law_1872 (by decide) ?_
    refine su_lald hx hb hK hP 0 1 rfl rfl (i := 0) (by decide) (by decide) (f1 0) rfl dL_law_1873 ?_
    refine lv_iload hx hb dL_law_1874 (lv_at hl 0 rfl) ?_
    refine lv_i2l (v := r2.toInt64) hx hb dL_law_1876 rfl ?_
    refine W.lcmp hx hb dL_law_1877 ?_
    refine su_eqi 0 (by first | (rw [ho]; exact lg_self _) | (rw [ho, hv2]; exact lg_self _)) ?_
    refine lv_if_eq (tgt := 1883) hx hb dL_law_1878 (by decide) (fun _ => ?_) (fun h9 => absurd rfl h9)
    refine lv_goto (tgt := 2877) hx hb dL_law_1883 (by decide) ?_
    refine W.widen (k := cells + 2) (n := slots + 26) (by omega) (by omega) ?_
    exact kk9 S1 f1 fd T1 H locs ls (lawI_of hw.2.2.1 hw.2.2.2 hw2.2.2.1 hw2.2.2.2 hk0 hk1) hP hD hS (lv_sub hl [2, 3, 4, 5, 6, 7] rfl)
set_option maxHeartbeats 4000000 in
set_option maxRecDepth 100000 in
theorem case_sumOf {p : Program} {l : Launch} {e : Env} {R : Room} {s : State} {m : MethodId} {args : Array Value} {below : List Frame} {meth : Method} {c : Code} {Q : State → Prop} {A : Nat → Prop} {D : va_G} {cI cL cZ cA cB cD : ClassId} {b L : Nat} {xs : Nat → Int32} {ad ad2 : Nat → Nat} {oo od : Nat}
    (C9 : lawC p l s m args c A D cI cL cZ cA cB cD b L xs R) {i : Nat} (hi : i + 4 ≤ L) {S : CS} {f : Nat → Int64} {fd : Nat → UInt64} {T : MS} (I9 : lawI S T) {H : Heap} {locs : List Loc} {ls : Array Slot} {cells slots : Nat} (hcc : cells + 2 ≤ R.cells) (hss : slots + 26 ≤ R.slots)
    (hP : va_P D vwCl (lawW ad ad2 cI cL cZ cA cB cD oo od S f fd T) H) (hD : va_D A (lawW ad ad2 cI cL cZ cA cB cD oo od S f fd T)) (hS : va_S A s.heap H locs) (hl : lv_has ls 9 [(5, .int (nI i)), (4, .ref od), (3, .ref oo), (2, .ref (ad2 0)), (1, .ref (ad 0)), (0, .ref b)])
    (kk9 : lawK p l e R s m args below meth c Q A D cI cL cZ cA cB cD b ad ad2 oo od i cells slots) : W p l e R s m args below meth c H locs cells slots Q (F0 m 2189 ls []) := by
  obtain ⟨hx, hb, hml, hown, hts, hN, hE, hfl, hX, hbl, hbA, hA, hK, hR1, hR2, hL⟩ := C9
  obtain ⟨ok0, ok1, hL0, hL1⟩ := I9
  obtain ⟨kk, v, L0, L1, hr, hk0, hk1, hk4⟩ := su_h1_tot ((0 : Int32)) (RT := fun g n => R_sumOf g n (xs (i + 2))) (fun g n ok => T_sumOf g n (xs (i + 2)) ok) ok0 ok1 (xs (i + 1))
  refine lv_aload_n hx hb dL_law_2189 rfl (lv_at hl 4 rfl) ?_
  refine lv_aload_n hx hb dL_law_2190 rfl (lv_at hl 5 rfl) ?_
  refine lv_iload hx hb dL_law_2191 (lv_at hl 0 rfl) ?_
  refine lv_iconst (v := nI 1) hx hb dL_law_2193 (by decide) ?_
  refine lv_iadd hx hb dL_law_2194 ?_
  refine su_eqi (nI (i + 1)) (nI_ad _ _) ?_
  refine va_sld hx hb hX hbl hbA hS (vp_in_nI (by omega) (by omega)) dL_law_2195 ?_
  refine su_eqi (xs (i + 1)) (by rw [nI_clamp (by omega)]) ?_
  refine lv_aload_n hx hb dL_law_2196 rfl (lv_at hl 5 rfl) ?_
  refine lv_iload hx hb dL_law_2197 (lv_at hl 0 rfl) ?_
  refine lv_iconst (v := nI 2) hx hb dL_law_2199 (by decide) ?_
  refine lv_iadd hx hb dL_law_2200 ?_
  refine su_eqi (nI (i + 2)) (nI_ad _ _) ?_
  refine va_sld hx hb hX hbl hbA hS (vp_in_nI (by omega) (by omega)) dL_law_2201 ?_
  refine su_eqi (xs (i + 2)) (by rw [nI_clamp (by omega)]) ?_
  refine lv_aload_n hx hb dL_law_2202 rfl (lv_at hl 2 rfl) ?_
  refine law_wL (vx_runSW (As := [.ref (ad 0), .int (xs (i + 1)), .int (xs (i + 2)), .ref oo]) (rest := []) ⟨hx, hb, hml, hown, hts⟩ (L_sumOf l hfl D cI cL cZ H.size ad S oo f ok0 ok1 (xs (i + 1)) (xs (i + 2)) kk v L0 L1 hr) (vx_cwSW 4 hts (lw_gH q_856 q_857 q_30 q_858) rfl rfl rfl (by decide +kernel) ⟨Nat.le_trans (Nat.le_of_ble_eq_true rfl) hR1, Nat.le_trans (Nat.le_of_ble_eq_true rfl) hR2⟩) (su_psx hE hS hA hN hK hP hD [0, 2, 3, 4, 5, 6, 7, 8, 9, 10, 11, 12, 13, 14, 15, 16, 17, 18, 19, 20, 21, 22, 23, 24, 25, 26, 27, 28, 29, 30, 31, 32, 33, 34, 35, 36, 37, 38, 39, 40, 41, 42, 43, 44, 45, 46, 47, 48, 49, 50, 51, 52, 53, 54, 55, 56, 57, 58, 59, 60, 61, 62, 63, 64, 65, 66, 67, 68, 69, 70] [0, 1, 2] rfl rfl rfl) rfl rfl hl.1 rfl (lv_room (Nat.le_of_ble_eq_true rfl)) dL_law_2203 ⟨Nat.le_trans (Nat.add_le_add_left (Nat.le_of_ble_eq_true rfl) _) hcc, Nat.le_trans (Nat.add_le_add_left (Nat.le_of_ble_eq_true rfl) _) hss⟩) hP hD hS hA (fun r u H locs hw hP hD hS => ?_)
  obtain ⟨S1, f1⟩ := u
  obtain rfl := hw.1
  refine lv_istore (lv' := [(6, .int (nI kk)), (5, .int (nI i)), (4, .ref od), (3, .ref oo), (2, .ref (ad2 0)), (1, .ref (ad 0)), (0, .ref b)]) hx hb dL_law_2206 hl (by decide) rfl (fun ls hl => ?_)
  refine lv_aload_n hx hb dL_law_2208 rfl (lv_at hl 4 rfl) ?_
  refine lv_aload_n hx hb dL_law_2209 rfl (lv_at hl 6 rfl) ?_
  refine lv_iload hx hb dL_law_2210 (lv_at hl 1 rfl) ?_
  refine lv_iconst (v := nI 1) hx hb dL_law_2212 (by decide) ?_
  refine lv_iadd hx hb dL_law_2213 ?_
  refine su_eqi (nI (i + 1)) (nI_ad _ _) ?_
  refine va_sld hx hb hX hbl hbA hS (vp_in_nI (by omega) (by omega)) dL_law_2214 ?_
  refine su_eqi (xs (i + 1)) (by rw [nI_clamp (by omega)]) ?_
  refine lv_aload_n hx hb dL_law_2215 rfl (lv_at hl 6 rfl) ?_
  refine lv_iload hx hb dL_law_2216 (lv_at hl 1 rfl) ?_
  refine lv_iconst (v := nI 2) hx hb dL_law_2218 (by decide) ?_
  refine lv_iadd hx hb dL_law_2219 ?_
  refine su_eqi (nI (i + 2)) (nI_ad _ _) ?_
  refine va_sld hx hb hX hbl hbA hS (vp_in_nI (by omega) (by omega)) dL_law_2220 ?_
  refine su_eqi (xs (i + 2)) (by rw [nI_clamp (by omega)]) ?_
  refine law_mi (va_runV (As := [.int (xs (i + 1)), .int (xs (i + 2))]) (rest := []) ⟨hx, hb, hml, hown, hts⟩ (M_sumOf l D cI cL cZ cA cB H.size ad2 T (S.1 0) (S.1 1) (S.2.1 0) (S.2.1 1) hL0 hL1 ok0 ok1 (xs (i + 1)) (xs (i + 2)) kk v L0 L1 hr) (cwV 2 hts (lw_gV q_1187 q_1188 q_1189 q_42 q_1190) rfl rfl rfl (by decide +kernel) ⟨Nat.le_trans (Nat.le_of_ble_eq_true rfl) hR1, Nat.le_trans (Nat.le_of_ble_eq_true rfl) hR2⟩) (su_pv hN hK hP hD [71, 72, 73, 74, 75, 76, 77, 78, 79, 80] [0, 1, 2, 3, 4] rfl rfl rfl (ci := 10) (q0 := 0) rfl rfl rfl) rfl rfl hl.1 rfl (lv_room (Nat.le_of_ble_eq_true rfl)) dL_law_2221 ⟨Nat.le_trans (by omega) hcc, Nat.le_trans (by omega) hss⟩) hP hD hS hA (fun r2 T1 H locs hw2 hP hD hS => ?_)
  refine lv_istore (lv' := [(7, .int r2), (6, .int (nI kk)), (5, .int (nI i)), (4, .ref od), (3, .ref oo), (2, .ref (ad2 0)), (1, .ref (ad 0)), (0, .ref b)]) hx hb dL_law_2224 hl (by decide) rfl (fun ls hl => ?_)
  refine lv_aload_n hx hb dL_law_2226 rfl (lv_at hl 5 rfl) ?_
  refine law_mi (va_runV (As := []) (rest := []) ⟨hx, hb, hml, hown, hts⟩ (M_thrown l D cI cL cZ cA cB H.size ad2 T1) (cwV 0 hts (lw_gV q_1018 q_1019 q_1020 q_42 q_1021) rfl rfl rfl (by decide +kernel) ⟨Nat.le_trans (Nat.le_of_ble_eq_true rfl) hR1, Nat.le_trans (Nat.le_of_ble_eq_true rfl) hR2⟩) (su_pv hN hK hP hD [71, 72, 73, 74, 75, 76, 77, 78, 79, 80] [0, 1, 2, 3, 4] rfl rfl rfl (ci := 10) (q0 := 0) rfl rfl rfl) rfl rfl hl.1 rfl (lv_room (Nat.le_of_ble_eq_true rfl)) dL_law_2227 ⟨Nat.le_trans (by omega) hcc, Nat.le_trans (by omega) hss⟩) hP hD hS hA (fun r3 u H locs ht hP hD hS => ?_)
  obtain ⟨ht, hu⟩ := ht
  have hu := hu.symm
  subst hu
  obtain rfl : r3 = nI kk := ht.trans hw2.1
  have ht : nI kk = nI kk ∧ True := ⟨rfl, trivial⟩
  refine lv_iload hx hb dL_law_2230 (lv_at hl 1 rfl) ?_
  refine lv_icmp_eq (tgt := 2237) hx hb dL_law_2232 (by decide) (fun _ => ?_) (fun h9 => absurd (by first | exact ht.1 | rfl) h9)
  refine lv_iload hx hb dL_law_2237 (lv_at hl 1 rfl) ?_
  refine lv_if_ne (tgt := 2254) hx hb dL_law_2239 (by decide) (fun h9 => ?_) (fun h9 => ?_)
  · refine lv_goto (tgt := 2877) hx hb dL_law_2254 (by decide) ?_
    refine W.widen (k := cells + 2) (n := slots + 26) (by omega) (by omega) ?_
    exact kk9 S1 f1 fd T1 H locs ls (lawI_of hw.2.2.1 hw.2.2.2 hw2.2.2.1 hw2.2.2.2 hk0 hk1) hP hD hS (lv_sub hl [2, 3, 4, 5, 6, 7] rfl)
  · have hk := kk_0 hk4 h9
    have ho : f1 0 = v.toInt64 := hw.2.1 hk
    have hv2 := hw2.2.1 hk
    refine lv_aload_n hx hb dL_law_2242 rfl (lv_at hl 4 rfl) ?_
    refine lv_iconst (v := nI 0) hx hb dL_law_2243 (by decide) ?_
    refine su_lald hx hb hK hP 0 1 rfl rfl (i := 0) (by decide) (by decide) (f1 0) rfl dL_law_2244 ?_
    refine lv_iload hx hb dL_law_2245 (lv_at hl 0 rfl) ?_
    refine lv_i2l (v := r2.toInt64) hx hb dL_law_2247 rfl ?_
    refine W.lcmp hx hb dL_law_2248 ?_
    refine su_eqi 0 (by first | (rw [ho]; exact lg_self _) | (rw [ho, hv2]; exact lg_self _)) ?_
    refine lv_if_eq (tgt := 2254) hx hb dL_law_2249 (by decide) (fun _ => ?_) (fun h9 => absurd rfl h9)
    refine lv_goto (tgt := 2877) hx hb dL_law_2254 (by decide) ?_
    refine W.widen (k := cells + 2) (n := slots + 26) (by omega) (by omega) ?_
    exact kk9 S1 f1 fd T1 H locs ls (lawI_of hw.2.2.1 hw.2.2.2 hw2.2.2.1 hw2.2.2.2 hk0 hk1) hP hD hS (lv_sub hl [2, 3, 4, 5, 6, 7] rfl)
set_option maxHeartbeats 4000000 in
set_option maxRecDepth 100000 in
theorem case_isParted {p : Program} {l : Launch} {e : Env} {R : Room} {s : State} {m : MethodId} {args : Array Value} {below : List Frame} {meth : Method} {c : Code} {Q : State → Prop} {A : Nat → Prop} {D : va_G} {cI cL cZ cA cB cD : ClassId} {b L : Nat} {xs : Nat → Int32} {ad ad2 : Nat → Nat} {oo od : Nat}
    (C9 : lawC p l s m args c A D cI cL cZ cA cB cD b L xs R) {i : Nat} (hi : i + 4 ≤ L) {S : CS} {f : Nat → Int64} {fd : Nat → UInt64} {T : MS} (I9 : lawI S T) {H : Heap} {locs : List Loc} {ls : Array Slot} {cells slots : Nat} (hcc : cells + 2 ≤ R.cells) (hss : slots + 26 ≤ R.slots)
    (hP : va_P D vwCl (lawW ad ad2 cI cL cZ cA cB cD oo od S f fd T) H) (hD : va_D A (lawW ad ad2 cI cL cZ cA cB cD oo od S f fd T)) (hS : va_S A s.heap H locs) (hl : lv_has ls 9 [(5, .int (nI i)), (4, .ref od), (3, .ref oo), (2, .ref (ad2 0)), (1, .ref (ad 0)), (0, .ref b)])
    (kk9 : lawK p l e R s m args below meth c Q A D cI cL cZ cA cB cD b ad ad2 oo od i cells slots) : W p l e R s m args below meth c H locs cells slots Q (F0 m 2562 ls []) := by
  obtain ⟨hx, hb, hml, hown, hts, hN, hE, hfl, hX, hbl, hbA, hA, hK, hR1, hR2, hL⟩ := C9
  obtain ⟨ok0, ok1, hL0, hL1⟩ := I9
  obtain ⟨kk, v, L0, L1, hr, hk0, hk1, hk4⟩ := su_h1_tot ((0 : Int32)) (RT := fun g n => R_isParted g n (xs (i + 2))) (fun g n ok => T_isParted g n (xs (i + 2)) ok) ok0 ok1 (xs (i + 1))
  refine lv_aload_n hx hb dL_law_2562 rfl (lv_at hl 4 rfl) ?_
  refine lv_aload_n hx hb dL_law_2563 rfl (lv_at hl 5 rfl) ?_
  refine lv_iload hx hb dL_law_2564 (lv_at hl 0 rfl) ?_
  refine lv_iconst (v := nI 1) hx hb dL_law_2566 (by decide) ?_
  refine lv_iadd hx hb dL_law_2567 ?_
  refine su_eqi (nI (i + 1)) (nI_ad _ _) ?_
  refine va_sld hx hb hX hbl hbA hS (vp_in_nI (by omega) (by omega)) dL_law_2568 ?_
  refine su_eqi (xs (i + 1)) (by rw [nI_clamp (by omega)]) ?_
  refine lv_aload_n hx hb dL_law_2569 rfl (lv_at hl 5 rfl) ?_
  refine lv_iload hx hb dL_law_2570 (lv_at hl 0 rfl) ?_
  refine lv_iconst (v := nI 2) hx hb dL_law_2572 (by decide) ?_
  refine lv_iadd hx hb dL_law_2573 ?_
  refine su_eqi (nI (i + 2)) (nI_ad _ _) ?_
  refine va_sld hx hb hX hbl hbA hS (vp_in_nI (by omega) (by omega)) dL_law_2574 ?_
  refine su_eqi (xs (i + 2)) (by rw [nI_clamp (by omega)]) ?_
  refine lv_aload_n hx hb dL_law_2575 rfl (lv_at hl 2 rfl) ?_
  refine law_wL (vx_runSW (As := [.ref (ad 0), .int (xs (i + 1)), .int (xs (i + 2)), .ref oo]) (rest := []) ⟨hx, hb, hml, hown, hts⟩ (L_isParted l hfl D cI cL cZ H.size ad S oo f ok0 ok1 (xs (i + 1)) (xs (i + 2)) kk v L0 L1 hr) (vx_cwSW 4 hts (lw_gH q_911 q_912 q_30 q_913) rfl rfl rfl (by decide +kernel) ⟨Nat.le_trans (Nat.le_of_ble_eq_true rfl) hR1, Nat.le_trans (Nat.le_of_ble_eq_true rfl) hR2⟩) (su_psx hE hS hA hN hK hP hD [0, 2, 3, 4, 5, 6, 7, 8, 9, 10, 11, 12, 13, 14, 15, 16, 17, 18, 19, 20, 21, 22, 23, 24, 25, 26, 27, 28, 29, 30, 31, 32, 33, 34, 35, 36, 37, 38, 39, 40, 41, 42, 43, 44, 45, 46, 47, 48, 49, 50, 51, 52, 53, 54, 55, 56, 57, 58, 59, 60, 61, 62, 63, 64, 65, 66, 67, 68, 69, 70] [0, 1, 2] rfl rfl rfl) rfl rfl hl.1 rfl (lv_room (Nat.le_of_ble_eq_true rfl)) dL_law_2576 ⟨Nat.le_trans (Nat.add_le_add_left (Nat.le_of_ble_eq_true rfl) _) hcc, Nat.le_trans (Nat.add_le_add_left (Nat.le_of_ble_eq_true rfl) _) hss⟩) hP hD hS hA (fun r u H locs hw hP hD hS => ?_)
  obtain ⟨S1, f1⟩ := u
  obtain rfl := hw.1
  refine lv_istore (lv' := [(6, .int (nI kk)), (5, .int (nI i)), (4, .ref od), (3, .ref oo), (2, .ref (ad2 0)), (1, .ref (ad 0)), (0, .ref b)]) hx hb dL_law_2579 hl (by decide) rfl (fun ls hl => ?_)
  refine lv_aload_n hx hb dL_law_2581 rfl (lv_at hl 4 rfl) ?_
  refine lv_aload_n hx hb dL_law_2582 rfl (lv_at hl 6 rfl) ?_
  refine lv_iload hx hb dL_law_2583 (lv_at hl 1 rfl) ?_
  refine lv_iconst (v := nI 1) hx hb dL_law_2585 (by decide) ?_
  refine lv_iadd hx hb dL_law_2586 ?_
  refine su_eqi (nI (i + 1)) (nI_ad _ _) ?_
  refine va_sld hx hb hX hbl hbA hS (vp_in_nI (by omega) (by omega)) dL_law_2587 ?_
  refine su_eqi (xs (i + 1)) (by rw [nI_clamp (by omega)]) ?_
  refine lv_aload_n hx hb dL_law_2588 rfl (lv_at hl 6 rfl) ?_
  refine lv_iload hx hb dL_law_2589 (lv_at hl 1 rfl) ?_
  refine lv_iconst (v := nI 2) hx hb dL_law_2591 (by decide) ?_
  refine lv_iadd hx hb dL_law_2592 ?_
  refine su_eqi (nI (i + 2)) (nI_ad _ _) ?_
  refine va_sld hx hb hX hbl hbA hS (vp_in_nI (by omega) (by omega)) dL_law_2593 ?_
  refine su_eqi (xs (i + 2)) (by rw [nI_clamp (by omega)]) ?_
  refine law_mi (va_runV (As := [.int (xs (i + 1)), .int (xs (i + 2))]) (rest := []) ⟨hx, hb, hml, hown, hts⟩ (M_isParted l D cI cL cZ cA cB H.size ad2 T (S.1 0) (S.1 1) (S.2.1 0) (S.2.1 1) hL0 hL1 ok0 ok1 (xs (i + 1)) (xs (i + 2)) kk v L0 L1 hr) (cwV 2 hts (lw_gV q_1211 q_1212 q_1213 q_42 q_1214) rfl rfl rfl (by decide +kernel) ⟨Nat.le_trans (Nat.le_of_ble_eq_true rfl) hR1, Nat.le_trans (Nat.le_of_ble_eq_true rfl) hR2⟩) (su_pv hN hK hP hD [71, 72, 73, 74, 75, 76, 77, 78, 79, 80] [0, 1, 2, 3, 4] rfl rfl rfl (ci := 10) (q0 := 0) rfl rfl rfl) rfl rfl hl.1 rfl (lv_room (Nat.le_of_ble_eq_true rfl)) dL_law_2594 ⟨Nat.le_trans (by omega) hcc, Nat.le_trans (by omega) hss⟩) hP hD hS hA (fun r2 T1 H locs hw2 hP hD hS => ?_)
  refine lv_istore (lv' := [(7, .int r2), (6, .int (nI kk)), (5, .int (nI i)), (4, .ref od), (3, .ref oo), (2, .ref (ad2 0)), (1, .ref (ad 0)), (0, .ref b)]) hx hb dL_law_2597 hl (by decide) rfl (fun ls hl => ?_)
  refine lv_aload_n hx hb dL_law_2599 rfl (lv_at hl 5 rfl) ?_
  refine law_mi (va_runV (As := []) (rest := []) ⟨hx, hb, hml, hown, hts⟩ (M_thrown l D cI cL cZ cA cB H.size ad2 T1) (cwV 0 hts (lw_gV q_1018 q_1019 q_1020 q_42 q_1021) rfl rfl rfl (by decide +kernel) ⟨Nat.le_trans (Nat.le_of_ble_eq_true rfl) hR1, Nat.le_trans (Nat.le_of_ble_eq_true rfl) hR2⟩) (su_pv hN hK hP hD [71, 72, 73, 74, 75, 76, 77, 78, 79, 80] [0, 1, 2, 3, 4] rfl rfl rfl (ci := 10) (q0 := 0) rfl rfl rfl) rfl rfl hl.1 rfl (lv_room (Nat.le_of_ble_eq_true rfl)) dL_law_2600 ⟨Nat.le_trans (by omega) hcc, Nat.le_trans (by omega) hss⟩) hP hD hS hA (fun r3 u H locs ht hP hD hS => ?_)
  obtain ⟨ht, hu⟩ := ht
  have hu := hu.symm
  subst hu
  obtain rfl : r3 = nI kk := ht.trans hw2.1
  have ht : nI kk = nI kk ∧ True := ⟨rfl, trivial⟩
  refine lv_iload hx hb dL_law_2603 (lv_at hl 1 rfl) ?_
  refine lv_icmp_eq (tgt := 2610) hx hb dL_law_2605 (by decide) (fun _ => ?_) (fun h9 => absurd (by first | exact ht.1 | rfl) h9)
  refine lv_iload hx hb dL_law_2610 (lv_at hl 1 rfl) ?_
  refine lv_if_ne (tgt := 2634) hx hb dL_law_2612 (by decide) (fun h9 => ?_) (fun h9 => ?_)
  · refine lv_goto (tgt := 2877) hx hb dL_law_2634 (by decide) ?_
    refine W.widen (k := cells + 2) (n := slots + 26) (by omega) (by omega) ?_
    exact kk9 S1 f1 fd T1 H locs ls (lawI_of hw.2.2.1 hw.2.2.2 hw2.2.2.1 hw2.2.2.2 hk0 hk1) hP hD hS (lv_sub hl [2, 3, 4, 5, 6, 7] rfl)
  · have hk := kk_0 hk4 h9
    have ho : f1 0 = su_z01 v := hw.2.1 hk
    have hv2 := hw2.2.1 hk
    refine lv_aload_n hx hb dL_law_2615 rfl (lv_at hl 4 rfl) ?_
    refine lv_iconst (v := nI 0) hx hb dL_law_2616 (by decide) ?_
    refine su_lald hx hb hK hP 0 1 rfl rfl (i := 0) (by decide) (by decide) (f1 0) rfl dL_law_2617 ?_
    refine lv_iload hx hb dL_law_2618 (lv_at hl 0 rfl) ?_
    refine lv_if_eq (tgt := 2627) hx hb dL_law_2620 (by decide) (fun cz => ?_) (fun cz => ?_)
    · have ho := ho.trans (show su_z01 v = 0 from if_pos (by rw [← hv2]; exact cz))
      refine lv_lconst (v := 0) hx hb dL_law_2627 (by decide) ?_
      refine W.lcmp hx hb dL_law_2628 ?_
      refine su_eqi 0 (by first | (rw [ho]; exact lg_self _) | (rw [ho, hv2]; exact lg_self _)) ?_
      refine lv_if_eq (tgt := 2634) hx hb dL_law_2629 (by decide) (fun _ => ?_) (fun h9 => absurd rfl h9)
      refine lv_goto (tgt := 2877) hx hb dL_law_2634 (by decide) ?_
      refine W.widen (k := cells + 2) (n := slots + 26) (by omega) (by omega) ?_
      exact kk9 S1 f1 fd T1 H locs ls (lawI_of hw.2.2.1 hw.2.2.2 hw2.2.2.1 hw2.2.2.2 hk0 hk1) hP hD hS (lv_sub hl [2, 3, 4, 5, 6, 7] rfl)
    · have ho := ho.trans (show su_z01 v = 1 from if_neg (by rw [← hv2]; exact cz))
      refine lv_lconst (v := 1) hx hb dL_law_2623 (by decide) ?_
      refine lv_goto (tgt := 2628) hx hb dL_law_2624 (by decide) ?_
      refine W.lcmp hx hb dL_law_2628 ?_
      refine su_eqi 0 (by first | (rw [ho]; exact lg_self _) | (rw [ho, hv2]; exact lg_self _)) ?_
      refine lv_if_eq (tgt := 2634) hx hb dL_law_2629 (by decide) (fun _ => ?_) (fun h9 => absurd rfl h9)
      refine lv_goto (tgt := 2877) hx hb dL_law_2634 (by decide) ?_
      refine W.widen (k := cells + 2) (n := slots + 26) (by omega) (by omega) ?_
      exact kk9 S1 f1 fd T1 H locs ls (lawI_of hw.2.2.1 hw.2.2.2 hw2.2.2.1 hw2.2.2.2 hk0 hk1) hP hD hS (lv_sub hl [2, 3, 4, 5, 6, 7] rfl)
