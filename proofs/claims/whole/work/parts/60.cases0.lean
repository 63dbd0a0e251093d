set_option maxHeartbeats 4000000 in
set_option maxRecDepth 100000 in
theorem case_add {p : Program} {l : Launch} {e : Env} {R : Room} {s : State} {m : MethodId} {args : Array Value} {below : List Frame} {meth : Method} {c : Code} {Q : State → Prop} {A : Nat → Prop} {D : va_G} {cI cL cZ cA cB cD : ClassId} {b L : Nat} {xs : Nat → Int32} {ad ad2 : Nat → Nat} {oo od : Nat}
    (C9 : lawC p l s m args c A D cI cL cZ cA cB cD b L xs R) {i : Nat} (hi : i + 4 ≤ L) {S : CS} {f : Nat → Int64} {fd : Nat → UInt64} {T : MS} (I9 : lawI S T) {H : Heap} {locs : List Loc} {ls : Array Slot} {cells slots : Nat} (hcc : cells + 2 ≤ R.cells) (hss : slots + 26 ≤ R.slots)
    (hP : va_P D vwCl (lawW ad ad2 cI cL cZ cA cB cD oo od S f fd T) H) (hD : va_D A (lawW ad ad2 cI cL cZ cA cB cD oo od S f fd T)) (hS : va_S A s.heap H locs) (hl : lv_has ls 9 [(5, .int (nI i)), (4, .ref od), (3, .ref oo), (2, .ref (ad2 0)), (1, .ref (ad 0)), (0, .ref b)])
    (kk9 : lawK p l e R s m args below meth c Q A D cI cL cZ cA cB cD b ad ad2 oo od i cells slots) : W p l e R s m args below meth c H locs cells slots Q (F0 m 208 ls []) := by
  obtain ⟨hx, hb, hml, hown, hts, hN, hE, hfl, hX, hbl, hbA, hA, hK, hR1, hR2, hL⟩ := C9
  obtain ⟨ok0, ok1, hL0, hL1⟩ := I9
  obtain ⟨kk, v, L0, L1, hr, hk0, hk1, hk4⟩ := su_h1_tot ((0 : Int32)) (RT := fun g n => R_add g n (xs (i + 2))) (fun g n ok => T_add g n (xs (i + 2)) ok) ok0 ok1 (xs (i + 1))
  refine lv_aload_n hx hb dL_law_208 rfl (lv_at hl 4 rfl) ?_
  refine lv_aload_n hx hb dL_law_209 rfl (lv_at hl 5 rfl) ?_
  refine lv_iload hx hb dL_law_210 (lv_at hl 0 rfl) ?_
  refine lv_iconst (v := nI 1) hx hb dL_law_212 (by decide) ?_
  refine lv_iadd hx hb dL_law_213 ?_
  refine su_eqi (nI (i + 1)) (nI_ad _ _) ?_
  refine va_sld hx hb hX hbl hbA hS (vp_in_nI (by omega) (by omega)) dL_law_214 ?_
  refine su_eqi (xs (i + 1)) (by rw [nI_clamp (by omega)]) ?_
  refine lv_aload_n hx hb dL_law_215 rfl (lv_at hl 5 rfl) ?_
  refine lv_iload hx hb dL_law_216 (lv_at hl 0 rfl) ?_
  refine lv_iconst (v := nI 2) hx hb dL_law_218 (by decide) ?_
  refine lv_iadd hx hb dL_law_219 ?_
  refine su_eqi (nI (i + 2)) (nI_ad _ _) ?_
  refine va_sld hx hb hX hbl hbA hS (vp_in_nI (by omega) (by omega)) dL_law_220 ?_
  refine su_eqi (xs (i + 2)) (by rw [nI_clamp (by omega)]) ?_
  refine lv_aload_n hx hb dL_law_221 rfl (lv_at hl 2 rfl) ?_
  refine law_wL (vx_runSW (As := [.ref (ad 0), .int (xs (i + 1)), .int (xs (i + 2)), .ref oo]) (rest := []) ⟨hx, hb, hml, hown, hts⟩ (L_add l hfl D cI cL cZ H.size ad S oo f ok0 ok1 (xs (i + 1)) (xs (i + 2)) kk v L0 L1 hr) (vx_cwSW 4 hts (lw_gH q_443 q_444 q_30 q_445) rfl rfl rfl (by decide +kernel) ⟨Nat.le_trans (Nat.le_of_ble_eq_true rfl) hR1, Nat.le_trans (Nat.le_of_ble_eq_true rfl) hR2⟩) (su_psx hE hS hA hN hK hP hD [0, 2, 3, 4, 5, 6, 7, 8, 9, 10, 11, 12, 13, 14, 15, 16, 17, 18, 19, 20, 21, 22, 23, 24, 25, 26, 27, 28, 29, 30, 31, 32, 33, 34, 35, 36, 37, 38, 39, 40, 41, 42, 43, 44, 45, 46, 47, 48, 49, 50, 51, 52, 53, 54, 55, 56, 57, 58, 59, 60, 61, 62, 63, 64, 65, 66, 67, 68, 69, 70] [0, 1, 2] rfl rfl rfl) rfl rfl hl.1 rfl (lv_room (Nat.le_of_ble_eq_true rfl)) dL_law_222 ⟨Nat.le_trans (Nat.add_le_add_left (Nat.le_of_ble_eq_true rfl) _) hcc, Nat.le_trans (Nat.add_le_add_left (Nat.le_of_ble_eq_true rfl) _) hss⟩) hP hD hS hA (fun r u H locs hw hP hD hS => ?_)
  obtain ⟨S1, f1⟩ := u
  obtain rfl := hw.1
  refine lv_istore (lv' := [(6, .int (nI kk)), (5, .int (nI i)), (4, .ref od), (3, .ref oo), (2, .ref (ad2 0)), (1, .ref (ad 0)), (0, .ref b)]) hx hb dL_law_225 hl (by decide) rfl (fun ls hl => ?_)
  refine lv_aload_n hx hb dL_law_227 rfl (lv_at hl 4 rfl) ?_
  refine lv_aload_n hx hb dL_law_228 rfl (lv_at hl 6 rfl) ?_
  refine lv_iload hx hb dL_law_229 (lv_at hl 1 rfl) ?_
  refine lv_iconst (v := nI 1) hx hb dL_law_231 (by decide) ?_
  refine lv_iadd hx hb dL_law_232 ?_
  refine su_eqi (nI (i + 1)) (nI_ad _ _) ?_
  refine va_sld hx hb hX hbl hbA hS (vp_in_nI (by omega) (by omega)) dL_law_233 ?_
  refine su_eqi (xs (i + 1)) (by rw [nI_clamp (by omega)]) ?_
  refine lv_aload_n hx hb dL_law_234 rfl (lv_at hl 6 rfl) ?_
  refine lv_iload hx hb dL_law_235 (lv_at hl 1 rfl) ?_
  refine lv_iconst (v := nI 2) hx hb dL_law_237 (by decide) ?_
  refine lv_iadd hx hb dL_law_238 ?_
  refine su_eqi (nI (i + 2)) (nI_ad _ _) ?_
  refine va_sld hx hb hX hbl hbA hS (vp_in_nI (by omega) (by omega)) dL_law_239 ?_
  refine su_eqi (xs (i + 2)) (by rw [nI_clamp (by omega)]) ?_
  refine law_mi (va_runV (As := [.int (xs (i + 1)), .int (xs (i + 2))]) (rest := []) ⟨hx, hb, hml, hown, hts⟩ (M_add l D cI cL cZ cA cB H.size ad2 T (S.1 0) (S.1 1) (S.2.1 0) (S.2.1 1) hL0 hL1 ok0 ok1 (xs (i + 1)) (xs (i + 2)) kk v L0 L1 hr) (cwV 2 hts (lw_gV q_1022 q_1023 q_1024 q_42 q_1025) rfl rfl rfl (by decide +kernel) ⟨Nat.le_trans (Nat.le_of_ble_eq_true rfl) hR1, Nat.le_trans (Nat.le_of_ble_eq_true rfl) hR2⟩) (su_pv hN hK hP hD [71, 72, 73, 74, 75, 76, 77, 78, 79, 80] [0, 1, 2, 3, 4] rfl rfl rfl (ci := 10) (q0 := 0) rfl rfl rfl) rfl rfl hl.1 rfl (lv_room (Nat.le_of_ble_eq_true rfl)) dL_law_240 ⟨Nat.le_trans (by omega) hcc, Nat.le_trans (by omega) hss⟩) hP hD hS hA (fun r2 T1 H locs hw2 hP hD hS => ?_)
  refine lv_istore (lv' := [(7, .int r2), (6, .int (nI kk)), (5, .int (nI i)), (4, .ref od), (3, .ref oo), (2, .ref (ad2 0)), (1, .ref (ad 0)), (0, .ref b)]) hx hb dL_law_243 hl (by decide) rfl (fun ls hl => ?_)
  refine lv_aload_n hx hb dL_law_245 rfl (lv_at hl 5 rfl) ?_
  refine law_mi (va_runV (As := []) (rest := []) ⟨hx, hb, hml, hown, hts⟩ (M_thrown l D cI cL cZ cA cB H.size ad2 T1) (cwV 0 hts (lw_gV q_1018 q_1019 q_1020 q_42 q_1021) rfl rfl rfl (by decide +kernel) ⟨Nat.le_trans (Nat.le_of_ble_eq_true rfl) hR1, Nat.le_trans (Nat.le_of_ble_eq_true rfl) hR2⟩) (su_pv hN hK hP hD [71, 72, 73, 74, 75, 76, 77, 78, 79, 80] [0, 1, 2, 3, 4] rfl rfl rfl (ci := 10) (q0 := 0) rfl rfl rfl) rfl rfl hl.1 rfl (lv_room (Nat.le_of_ble_eq_true rfl)) dL_law_246 ⟨Nat.le_trans (by omega) hcc, Nat.le_trans (by omega) hss⟩) hP hD hS hA (fun r3 u H locs ht hP hD hS => ?_)
  obtain ⟨ht, hu⟩ := ht
  have hu := hu.symm
  subst hu
  obtain rfl : r3 = nI kk := ht.trans hw2.1
  have ht : nI kk = nI kk ∧ True := ⟨rfl, trivial⟩
  refine lv_iload hx hb dL_law_249 (lv_at hl 1 rfl) ?_
  refine lv_icmp_eq (tgt := 256) hx hb dL_law_251 (by decide) (fun _ => ?_) (fun h9 => absurd (by first | exact ht.1 | rfl) h9)
  refine lv_iload hx hb dL_law_256 (lv_at hl 1 rfl) ?_
  refine lv_if_ne (tgt := 273) hx hb dL_law_258 (by decide) (fun h9 => ?_) (fun h9 => ?_)
  · refine lv_goto (tgt := 2877) hx hb dL_law_273 (by decide) ?_
    refine W.widen (k := cells + 2) (n := slots + 26) (by omega) (by omega) ?_
    exact kk9 S1 f1 fd T1 H locs ls (lawI_of hw.2.2.1 hw.2.2.2 hw2.2.2.1 hw2.2.2.2 hk0 hk1) hP hD hS (lv_sub hl [2, 3, 4, 5, 6, 7] rfl)
  · have hk := kk_0 hk4 h9
    have ho : f1 0 = v.toInt64 := hw.2.1 hk
    have hv2 := hw2.2.1 hk
    refine lv_aload_n hx hb dL_law_261 rfl (lv_at hl 4 rfl) ?_
    refine lv_iconst (v := nI 0) hx hb dL_law_262 (by decide) ?_
    refine su_lald hx hb hK hP 0 1 rfl rfl (i := 0) (by decide) (by decide) (f1 0) rfl dL_law_263 ?_
    refine lv_iload hx hb dL_law_264 (lv_at hl 0 rfl) ?_
    refine lv_i2l (v := r2.toInt64) hx hb dL_law_266 rfl ?_
    refine W.lcmp hx hb dL_law_267 ?_
    refine su_eqi 0 (by first | (rw [ho]; exact lg_self _) | (rw [ho, hv2]; exact lg_self _)) ?_
    refine lv_if_eq (tgt := 273) hx hb dL_law_268 (by decide) (fun _ => ?_) (fun h9 => absurd rfl h9)
    refine lv_goto (tgt := 2877) hx hb dL_law_273 (by decide) ?_
    refine W.widen (k := cells + 2) (n := slots + 26) (by omega) (by omega) ?_
    exact kk9 S1 f1 fd T1 H locs ls (lawI_of hw.2.2.1 hw.2.2.2 hw2.2.2.1 hw2.2.2.2 hk0 hk1) hP hD hS (lv_sub hl [2, 3, 4, 5, 6, 7] rfl)
set_option maxHeartbeats 4000000 in
set_option maxRecDepth 100000 in
theorem case_sort {p : Program} {l : Launch} {e : Env} {R : Room} {s : State} {m : MethodId} {args : Array Value} {below : List Frame} {meth : Method} {c : Code} {Q : State → Prop} {A : Nat → Prop} {D : va_G} {cI cL cZ cA cB cD : ClassId} {b L : Nat} {xs : Nat → Int32} {ad ad2 : Nat → Nat} {oo od : Nat}
    (C9 : lawC p l s m args c A D cI cL cZ cA cB cD b L xs R) {i : Nat} (hi : i + 4 ≤ L) {S : CS} {f : Nat → Int64} {fd : Nat → UInt64} {T : MS} (I9 : lawI S T) {H : Heap} {locs : List Loc} {ls : Array Slot} {cells slots : Nat} (hcc : cells + 2 ≤ R.cells) (hss : slots + 26 ≤ R.slots)
    (hP : va_P D vwCl (lawW ad ad2 cI cL cZ cA cB cD oo od S f fd T) H) (hD : va_D A (lawW ad ad2 cI cL cZ cA cB cD oo od S f fd T)) (hS : va_S A s.heap H locs) (hl : lv_has ls 9 [(5, .int (nI i)), (4, .ref od), (3, .ref oo), (2, .ref (ad2 0)), (1, .ref (ad 0)), (0, .ref b)])
    (kk9 : lawK p l e R s m args below meth c Q A D cI cL cZ cA cB cD b ad ad2 oo od i cells slots) : W p l e R s m args below meth c H locs cells slots Q (F0 m 584 ls []) := by
  obtain ⟨hx, hb, hml, hown, hts, hN, hE, hfl, hX, hbl, hbA, hA, hK, hR1, hR2, hL⟩ := C9
  obtain ⟨ok0, ok1, hL0, hL1⟩ := I9
  obtain ⟨kk, v, L0, L1, hr, hk0, hk1, hk4⟩ := su_h1_tot ((0 : Int32)) (RT := fun g n => R_sort g n) (fun g n ok => T_sort g n ok) ok0 ok1 (xs (i + 1))
  refine lv_aload_n hx hb dL_law_584 rfl (lv_at hl 4 rfl) ?_
  refine lv_aload_n hx hb dL_law_585 rfl (lv_at hl 5 rfl) ?_
  refine lv_iload hx hb dL_law_586 (lv_at hl 0 rfl) ?_
  refine lv_iconst (v := nI 1) hx hb dL_law_588 (by decide) ?_
  refine lv_iadd hx hb dL_law_589 ?_
  refine su_eqi (nI (i + 1)) (nI_ad _ _) ?_
  refine va_sld hx hb hX hbl hbA hS (vp_in_nI (by omega) (by omega)) dL_law_590 ?_
  refine su_eqi (xs (i + 1)) (by rw [nI_clamp (by omega)]) ?_
  refine lv_aload_n hx hb dL_law_591 rfl (lv_at hl 2 rfl) ?_
  refine law_wL (vx_runSW (As := [.ref (ad 0), .int (xs (i + 1)), .ref oo]) (rest := []) ⟨hx, hb, hml, hown, hts⟩ (L_sort l hfl D cI cL cZ H.size ad S oo f ok0 ok1 (xs (i + 1)) kk v L0 L1 hr) (vx_cwSW 3 hts (lw_gH q_618 q_619 q_30 q_620) rfl rfl rfl (by decide +kernel) ⟨Nat.le_trans (Nat.le_of_ble_eq_true rfl) hR1, Nat.le_trans (Nat.le_of_ble_eq_true rfl) hR2⟩) (su_psx hE hS hA hN hK hP hD [0, 2, 3, 4, 5, 6, 7, 8, 9, 10, 11, 12, 13, 14, 15, 16, 17, 18, 19, 20, 21, 22, 23, 24, 25, 26, 27, 28, 29, 30, 31, 32, 33, 34, 35, 36, 37, 38, 39, 40, 41, 42, 43, 44, 45, 46, 47, 48, 49, 50, 51, 52, 53, 54, 55, 56, 57, 58, 59, 60, 61, 62, 63, 64, 65, 66, 67, 68, 69, 70] [0, 1, 2] rfl rfl rfl) rfl rfl hl.1 rfl (lv_room (Nat.le_of_ble_eq_true rfl)) dL_law_592 ⟨Nat.le_trans (Nat.add_le_add_left (Nat.le_of_ble_eq_true rfl) _) hcc, Nat.le_trans (Nat.add_le_add_left (Nat.le_of_ble_eq_true rfl) _) hss⟩) hP hD hS hA (fun r u H locs hw hP hD hS => ?_)
  obtain ⟨S1, f1⟩ := u
  obtain rfl := hw.1
  refine lv_istore (lv' := [(6, .int (nI kk)), (5, .int (nI i)), (4, .ref od), (3, .ref oo), (2, .ref (ad2 0)), (1, .ref (ad 0)), (0, .ref b)]) hx hb dL_law_595 hl (by decide) rfl (fun ls hl => ?_)
  refine lv_aload_n hx hb dL_law_597 rfl (lv_at hl 4 rfl) ?_
  refine lv_aload_n hx hb dL_law_598 rfl (lv_at hl 6 rfl) ?_
  refine lv_iload hx hb dL_law_599 (lv_at hl 1 rfl) ?_
  refine lv_iconst (v := nI 1) hx hb dL_law_601 (by decide) ?_
  refine lv_iadd hx hb dL_law_602 ?_
  refine su_eqi (nI (i + 1)) (nI_ad _ _) ?_
  refine va_sld hx hb hX hbl hbA hS (vp_in_nI (by omega) (by omega)) dL_law_603 ?_
  refine su_eqi (xs (i + 1)) (by rw [nI_clamp (by omega)]) ?_
  refine law_mi (va_runV (As := [.int (xs (i + 1))]) (rest := []) ⟨hx, hb, hml, hown, hts⟩ (M_sort l D cI cL cZ cA cB H.size ad2 T (S.1 0) (S.1 1) (S.2.1 0) (S.2.1 1) hL0 hL1 ok0 ok1 (xs (i + 1)) kk v L0 L1 hr) (cwV 1 hts (lw_gV q_1079 q_1080 q_1081 q_42 q_1082) rfl rfl rfl (by decide +kernel) ⟨Nat.le_trans (Nat.le_of_ble_eq_true rfl) hR1, Nat.le_trans (Nat.le_of_ble_eq_true rfl) hR2⟩) (su_pv hN hK hP hD [71, 72, 73, 74, 75, 76, 77, 78, 79, 80] [0, 1, 2, 3, 4] rfl rfl rfl (ci := 10) (q0 := 0) rfl rfl rfl) rfl rfl hl.1 rfl (lv_room (Nat.le_of_ble_eq_true rfl)) dL_law_604 ⟨Nat.le_trans (by omega) hcc, Nat.le_trans (by omega) hss⟩) hP hD hS hA (fun r2 T1 H locs hw2 hP hD hS => ?_)
  refine lv_istore (lv' := [(7, .int r2), (6, .int (nI kk)), (5, .int (nI i)), (4, .ref od), (3, .ref oo), (2, .ref (ad2 0)), (1, .ref (ad 0)), (0, .ref b)]) hx hb dL_law_607 hl (by decide) rfl (fun ls hl => ?_)
  refine lv_aload_n hx hb dL_law_609 rfl (lv_at hl 5 rfl) ?_
  refine law_mi (va_runV (As := []) (rest := []) ⟨hx, hb, hml, hown, hts⟩ (M_thrown l D cI cL cZ cA cB H.size ad2 T1) (cwV 0 hts (lw_gV q_1018 q_1019 q_1020 q_42 q_1021) rfl rfl rfl (by decide +kernel) ⟨Nat.le_trans (Nat.le_of_ble_eq_true rfl) hR1, Nat.le_trans (Nat.le_of_ble_eq_true rfl) hR2⟩) (su_pv hN hK hP hD [71, 72, 73, 74, 75, 76, 77, 78, 79, 80] [0, 1, 2, 3, 4] rfl rfl rfl (ci := 10) (q0 := 0) rfl rfl rfl) rfl rfl hl.1 rfl (lv_room (Nat.le_of_ble_eq_true rfl)) dL_law_610 ⟨Nat.le_trans (by omega) hcc, Nat.le_trans (by omega) hss⟩) hP hD hS hA (fun r3 u H locs ht hP hD hS => ?_)
  obtain ⟨ht, hu⟩ := ht
  have hu := hu.symm
  subst hu
  obtain rfl : r3 = nI kk := ht.trans hw2.1
  have ht : nI kk = nI kk ∧ True := ⟨rfl, trivial⟩
  refine lv_iload hx hb dL_law_613 (lv_at hl 1 rfl) ?_
  refine lv_icmp_eq (tgt := 620) hx hb dL_law_615 (by decide) (fun _ => ?_) (fun h9 => absurd (by first | exact ht.1 | rfl) h9)
  refine lv_iload hx hb dL_law_620 (lv_at hl 1 rfl) ?_
  refine lv_if_ne (tgt := 637) hx hb dL_law_622 (by decide) (fun h9 => ?_) (fun h9 => ?_)
  · refine lv_goto (tgt := 2877) hx hb dL_law_637 (by decide) ?_
    refine W.widen (k := cells + 2) (n := slots + 26) (by omega) (by omega) ?_
    exact kk9 S1 f1 fd T1 H locs ls (lawI_of hw.2.2.1 hw.2.2.2 hw2.2.2.1 hw2.2.2.2 hk0 hk1) hP hD hS (lv_sub hl [2, 3, 4, 5, 6, 7] rfl)
  · have hk := kk_0 hk4 h9
    have ho : f1 0 = v.toInt64 := hw.2.1 hk
    have hv2 := hw2.2.1 hk
    refine lv_aload_n hx hb dL_law_625 rfl (lv_at hl 4 rfl) ?_
    refine lv_iconst (v := nI 0) hx hb dL_law_626 (by decide) ?_
    refine su_lald hx hb hK hP 0 1 rfl rfl (i := 0) (by decide) (by decide) (f1 0) rfl dL_law_627 ?_
    refine lv_iload hx hb dL_law_628 (lv_at hl 0 rfl) ?_
    refine lv_i2l (v := r2.toInt64) hx hb dL_law_630 rfl ?_
    refine W.lcmp hx hb dL_law_631 ?_
    refine su_eqi 0 (by first | (rw [ho]; exact lg_self _) | (rw [ho, hv2]; exact lg_self _)) ?_
    refine lv_if_eq (tgt := 637) hx hb dL_law_632 (by decide) (fun _ => ?_) (fun h9 => absurd rfl h9)
    refine lv_goto (tgt := 2877) hx hb dL_law_637 (by decide) ?_
    refine W.widen (k := cells + 2) (n := slots + 26) (by omega) (by omega) ?_
    exact kk9 S1 f1 fd T1 H locs ls (lawI_of hw.2.2.1 hw.2.2.2 hw2.2.2.1 hw2.2.2.2 hk0 hk1) hP hD hS (lv_sub hl [2, 3, 4, 5, 6, 7] rfl)
set_option maxHeartbeats 4000000 in
set_option maxRecDepth 100000 in
theorem case_total {p : Program} {l : Launch} {e : Env} {R : Room} {s : State} {m : MethodId} {args : Array Value} {below : List Frame} {meth : Method} {c : Code} {Q : State → Prop} {A : Nat → Prop} {D : va_G} {cI cL cZ cA cB cD : ClassId} {b L : Nat} {xs : Nat → Int32} {ad ad2 : Nat → Nat} {oo od : Nat}
    (C9 : lawC p l s m args c A D cI cL cZ cA cB cD b L xs R) {i : Nat} (hi : i + 4 ≤ L) {S : CS} {f : Nat → Int64} {fd : Nat → UInt64} {T : MS} (I9 : lawI S T) {H : Heap} {locs : List Loc} {ls : Array Slot} {cells slots : Nat} (hcc : cells + 2 ≤ R.cells) (hss : slots + 26 ≤ R.slots)
    (hP : va_P D vwCl (lawW ad ad2 cI cL cZ cA cB cD oo od S f fd T) H) (hD : va_D A (lawW ad ad2 cI cL cZ cA cB cD oo od S f fd T)) (hS : va_S A s.heap H locs) (hl : lv_has ls 9 [(5, .int (nI i)), (4, .ref od), (3, .ref oo), (2, .ref (ad2 0)), (1, .ref (ad 0)), (0, .ref b)])
    (kk9 : lawK p l e R s m args below meth c Q A D cI cL cZ cA cB cD b ad ad2 oo od i cells slots) : W p l e R s m args below meth c H locs cells slots Q (F0 m 900 ls []) := by
  obtain ⟨hx, hb, hml, hown, hts, hN, hE, hfl, hX, hbl, hbA, hA, hK, hR1, hR2, hL⟩ := C9
  obtain ⟨ok0, ok1, hL0, hL1⟩ := I9
  obtain ⟨kk, v, L0, L1, hr, hk0, hk1, hk4⟩ := su_h1_tot ((0 : Int32)) (RT := fun g n => R_total g n) (fun g n ok => T_total g n ok) ok0 ok1 (xs (i + 1))
  refine lv_aload_n hx hb dL_law_900 rfl (lv_at hl 4 rfl) ?_
  refine lv_aload_n hx hb dL_law_901 rfl (lv_at hl 5 rfl) ?_
  refine lv_iload hx hb dL_law_902 (lv_at hl 0 rfl) ?_
  refine lv_iconst (v := nI 1) hx hb dL_law_904 (by decide) ?_
  refine lv_iadd hx hb dL_law_905 ?_
  refine su_eqi (nI (i + 1)) (nI_ad _ _) ?_
  refine va_sld hx hb hX hbl hbA hS (vp_in_nI (by omega) (by omega)) dL_law_906 ?_
  refine su_eqi (xs (i + 1)) (by rw [nI_clamp (by omega)]) ?_
  refine lv_aload_n hx hb dL_law_907 rfl (lv_at hl 2 rfl) ?_
  refine law_wL (vx_runSW (As := [.ref (ad 0), .int (xs (i + 1)), .ref oo]) (rest := []) ⟨hx, hb, hml, hown, hts⟩ (L_total l hfl D cI cL cZ H.size ad S oo f ok0 ok1 (xs (i + 1)) kk v L0 L1 hr) (vx_cwSW 3 hts (lw_gH q_671 q_672 q_30 q_673) rfl rfl rfl (by decide +kernel) ⟨Nat.le_trans (Nat.le_of_ble_eq_true rfl) hR1, Nat.le_trans (Nat.le_of_ble_eq_true rfl) hR2⟩) (su_psx hE hS hA hN hK hP hD [0, 2, 3, 4, 5, 6, 7, 8, 9, 10, 11, 12, 13, 14, 15, 16, 17, 18, 19, 20, 21, 22, 23, 24, 25, 26, 27, 28, 29, 30, 31, 32, 33, 34, 35, 36, 37, 38, 39, 40, 41, 42, 43, 44, 45, 46, 47, 48, 49, 50, 51, 52, 53, 54, 55, 56, 57, 58, 59, 60, 61, 62, 63, 64, 65, 66, 67, 68, 69, 70] [0, 1, 2] rfl rfl rfl) rfl rfl hl.1 rfl (lv_room (Nat.le_of_ble_eq_true rfl)) dL_law_908 ⟨Nat.le_trans (Nat.add_le_add_left (Nat.le_of_ble_eq_true rfl) _) hcc, Nat.le_trans (Nat.add_le_add_left (Nat.le_of_ble_eq_true rfl) _) hss⟩) hP hD hS hA (fun r u H locs hw hP hD hS => ?_)
  obtain ⟨S1, f1⟩ := u
  obtain rfl := hw.1
  refine lv_istore (lv' := [(6, .int (nI kk)), (5, .int (nI i)), (4, .ref od), (3, .ref oo), (2, .ref (ad2 0)), (1, .ref (ad 0)), (0, .ref b)]) hx hb dL_law_911 hl (by decide) rfl (fun ls hl => ?_)
  refine lv_aload_n hx hb dL_law_913 rfl (lv_at hl 4 rfl) ?_
  refine lv_aload_n hx hb dL_law_914 rfl (lv_at hl 6 rfl) ?_
  refine lv_iload hx hb dL_law_915 (lv_at hl 1 rfl) ?_
  refine lv_iconst (v := nI 1) hx hb dL_law_917 (by decide) ?_
  refine lv_iadd hx hb dL_law_918 ?_
  refine su_eqi (nI (i + 1)) (nI_ad _ _) ?_
  refine va_sld hx hb hX hbl hbA hS (vp_in_nI (by omega) (by omega)) dL_law_919 ?_
  refine su_eqi (xs (i + 1)) (by rw [nI_clamp (by omega)]) ?_
  refine law_mi (va_runV (As := [.int (xs (i + 1))]) (rest := []) ⟨hx, hb, hml, hown, hts⟩ (M_total l D cI cL cZ cA cB H.size ad2 T (S.1 0) (S.1 1) (S.2.1 0) (S.2.1 1) hL0 hL1 ok0 ok1 (xs (i + 1)) kk v L0 L1 hr) (cwV 1 hts (lw_gV q_1099 q_1100 q_1101 q_42 q_1102) rfl rfl rfl (by decide +kernel) ⟨Nat.le_trans (Nat.le_of_ble_eq_true rfl) hR1, Nat.le_trans (Nat.le_of_ble_eq_true rfl) hR2⟩) (su_pv hN hK hP hD [71, 72, 73, 74, 75, 76, 77, 78, 79, 80] [0, 1, 2, 3, 4] rfl rfl rfl (ci := 10) (q0 := 0) rfl rfl rfl) rfl rfl hl.1 rfl (lv_room (Nat.le_of_ble_eq_true rfl)) dL_law_920 ⟨Nat.le_trans (by omega) hcc, Nat.le_trans (by omega) hss⟩) hP hD hS hA (fun r2 T1 H locs hw2 hP hD hS => ?_)
  refine lv_istore (lv' := [(7, .int r2), (6, .int (nI kk)), (5, .int (nI i)), (4, .ref od), (3, .ref oo), (2, .ref (ad2 0)), (1, .ref (ad 0)), (0, .ref b)]) hx hb dL_law_923 hl (by decide) rfl (fun ls hl => ?_)
  refine lv_aload_n hx hb dL_law_925 rfl (lv_at hl 5 rfl) ?_
  refine law_mi (va_runV (As := []) (rest := []) ⟨hx, hb, hml, hown, hts⟩ (M_thrown l D cI cL cZ cA cB H.size ad2 T1) (cwV 0 hts (lw_gV q_1018 q_1019 q_1020 q_42 q_1021) rfl rfl rfl (by decide +kernel) ⟨Nat.le_trans (Nat.le_of_ble_eq_true rfl) hR1, Nat.le_trans (Nat.le_of_ble_eq_true rfl) hR2⟩) (su_pv hN hK hP hD [71, 72, 73, 74, 75, 76, 77, 78, 79, 80] [0, 1, 2, 3, 4] rfl rfl rfl (ci := 10) (q0 := 0) rfl rfl rfl) rfl rfl hl.1 rfl (lv_room (Nat.le_of_ble_eq_true rfl)) dL_law_926 ⟨Nat.le_trans (by omega) hcc, Nat.le_trans (by omega) hss⟩) hP hD hS hA (fun r3 u H locs ht hP hD hS => ?_)
  obtain ⟨ht, hu⟩ := ht
  have hu := hu.symm
  subst hu
  obtain rfl : r3 = nI kk := ht.trans hw2.1
  have ht : nI kk = nI kk ∧ True := ⟨rfl, trivial⟩
  refine lv_iload hx hb dL_law_929 (lv_at hl 1 rfl) ?_
  refine lv_icmp_eq (tgt := 936) hx hb dL_law_931 (by decide) (fun _ => ?_) (fun h9 => absurd (by first | exact ht.1 | rfl) h9)
  refine lv_iload hx hb dL_law_936 (lv_at hl 1 rfl) ?_
  refine lv_if_ne (tgt := 953) hx hb dL_law_938 (by decide) (fun h9 => ?_) (fun h9 => ?_)
  · refine lv_goto (tgt := 2877) hx hb dL_law_953 (by decide) ?_
    refine W.widen (k := cells + 2) (n := slots + 26) (by omega) (by omega) ?_
    exact kk9 S1 f1 fd T1 H locs ls (lawI_of hw.2.2.1 hw.2.2.2 hw2.2.2.1 hw2.2.2.2 hk0 hk1) hP hD hS (lv_sub hl [2, 3, 4, 5, 6, 7] rfl)
  · have hk := kk_0 hk4 h9
    have ho : f1 0 = v.toInt64 := hw.2.1 hk
    have hv2 := hw2.2.1 hk
    refine lv_aload_n hx hb dL_law_941 rfl (lv_at hl 4 rfl) ?_
    refine lv_iconst (v := nI 0) hx hb dL_law_942 (by decide) ?_
    refine su_lald hx hb hK hP 0 1 rfl rfl (i := 0) (by decide) (by decide) (f1 0) rfl dL_law_943 ?_
    refine lv_iload hx hb dL_law_944 (lv_at hl 0 rfl) ?_
    refine lv_i2l (v := r2.toInt64) hx hb dL_law_946 rfl ?_
    refine W.lcmp hx hb dL_law_947 ?_
    refine su_eqi 0 (by first | (rw [ho]; exact lg_self _) | (rw [ho, hv2]; exact lg_self _)) ?_
    refine lv_if_eq (tgt := 953) hx hb dL_law_948 (by decide) (fun _ => ?_) (fun h9 => absurd rfl h9)
    refine lv_goto (tgt := 2877) hx hb dL_law_953 (by decide) ?_
    refine W.widen (k := cells + 2) (n := slots + 26) (by omega) (by omega) ?_
    exact kk9 S1 f1 fd T1 H locs ls (lawI_of hw.2.2.1 hw.2.2.2 hw2.2.2.1 hw2.2.2.2 hk0 hk1) hP hD hS (lv_sub hl [2, 3, 4, 5, 6, 7] rfl)
set_option maxHeartbeats 4000000 in
set_option maxRecDepth 100000 in
theorem case_gap {p : Program} {l : Launch} {e : Env} {R : Room} {s : State} {m : MethodId} {args : Array Value} {below : List Frame} {meth : Method} {c : Code} {Q : State → Prop} {A : Nat → Prop} {D : va_G} {cI cL cZ cA cB cD : ClassId} {b L : Nat} {xs : Nat → Int32} {ad ad2 : Nat → Nat} {oo od : Nat}
    (C9 : lawC p l s m args c A D cI cL cZ cA cB cD b L xs R) {i : Nat} (hi : i + 4 ≤ L) {S : CS} {f : Nat → Int64} {fd : Nat → UInt64} {T : MS} (I9 : lawI S T) {H : Heap} {locs : List Loc} {ls : Array Slot} {cells slots : Nat} (hcc : cells + 2 ≤ R.cells) (hss : slots + 26 ≤ R.slots)
    (hP : va_P D vwCl (lawW ad ad2 cI cL cZ cA cB cD oo od S f fd T) H) (hD : va_D A (lawW ad ad2 cI cL cZ cA cB cD oo od S f fd T)) (hS : va_S A s.heap H locs) (hl : lv_has ls 9 [(5, .int (nI i)), (4, .ref od), (3, .ref oo), (2, .ref (ad2 0)), (1, .ref (ad 0)), (0, .ref b)])
    (kk9 : lawK p l e R s m args below meth c Q A D cI cL cZ cA cB cD b ad ad2 oo od i cells slots) : W p l e R s m args below meth c H locs cells slots Q (F0 m 1335 ls []) := by
  obtain ⟨hx, hb, hml, hown, hts, hN, hE, hfl, hX, hbl, hbA, hA, hK, hR1, hR2, hL⟩ := C9
  obtain ⟨ok0, ok1, hL0, hL1⟩ := I9
  by_cases hz : xs (i + 3) = 0
  · obtain ⟨kk, v, L0, L1, hr, hk0, hk1, hk4⟩ := su_h1_tot ((0 : Int32)) (RT := fun g n => R_gap g n (xs (i + 2)) false) (fun g n ok => T_gap g n (xs (i + 2)) false ok) ok0 ok1 (xs (i + 1))
    refine lv_aload_n hx hb dL_law_1335 rfl (lv_at hl 4 rfl) ?_
    refine lv_aload_n hx hb dL_law_1336 rfl (lv_at hl 5 rfl) ?_
    refine lv_iload hx hb dL_law_1337 (lv_at hl 0 rfl) ?_
    refine lv_iconst (v := nI 1) hx hb dL_law_1339 (by decide) ?_
    refine lv_iadd hx hb dL_law_1340 ?_
    refine su_eqi (nI (i + 1)) (nI_ad _ _) ?_
    refine va_sld hx hb hX hbl hbA hS (vp_in_nI (by omega) (by omega)) dL_law_1341 ?_
    refine su_eqi (xs (i + 1)) (by rw [nI_clamp (by omega)]) ?_
    refine lv_aload_n hx hb dL_law_1342 rfl (lv_at hl 5 rfl) ?_
    refine lv_iload hx hb dL_law_1343 (lv_at hl 0 rfl) ?_
    refine lv_iconst (v := nI 2) hx hb dL_law_1345 (by decide) ?_
    refine lv_iadd hx hb dL_law_1346 ?_
    refine su_eqi (nI (i + 2)) (nI_ad _ _) ?_
    refine va_sld hx hb hX hbl hbA hS (vp_in_nI (by omega) (by omega)) dL_law_1347 ?_
    refine su_eqi (xs (i + 2)) (by rw [nI_clamp (by omega)]) ?_
    refine lv_aload_n hx hb dL_law_1348 rfl (lv_at hl 5 rfl) ?_
    refine lv_iload hx hb dL_law_1349 (lv_at hl 0 rfl) ?_
    refine lv_iconst (v := nI 3) hx hb dL_law_1351 (by decide) ?_
    refine lv_iadd hx hb dL_law_1352 ?_
    refine su_eqi (nI (i + 3)) (nI_ad _ _) ?_
    refine va_sld hx hb hX hbl hbA hS (vp_in_nI (by omega) (by omega)) dL_law_1353 ?_
    refine su_eqi (xs (i + 3)) (by rw [nI_clamp (by omega)]) ?_
    refine lv_if_eq (tgt := 1361) hx hb dL_law_1354 (by decide) (fun _ => ?_) (fun h9 => absurd hz h9)
    refine lv_iconst (v := nI 0) hx hb dL_law_1361 (by decide) ?_
    refine lv_aload_n hx hb dL_law_1362 rfl (lv_at hl 2 rfl) ?_
    refine law_wL (vx_runSW (As := [.ref (ad 0), .int (xs (i + 1)), .int (xs (i + 2)), .int (bI false), .ref oo]) (rest := []) ⟨hx, hb, hml, hown, hts⟩ (L_gap l hfl D cI cL cZ H.size ad S oo f ok0 ok1 (xs (i + 1)) (xs (i + 2)) false kk v L0 L1 hr) (vx_cwSW 5 hts (lw_gH q_743 q_744 q_30 q_745) rfl rfl rfl (by decide +kernel) ⟨Nat.le_trans (Nat.le_of_ble_eq_true rfl) hR1, Nat.le_trans (Nat.le_of_ble_eq_true rfl) hR2⟩) (su_psx hE hS hA hN hK hP hD [0, 2, 3, 4, 5, 6, 7, 8, 9, 10, 11, 12, 13, 14, 15, 16, 17, 18, 19, 20, 21, 22, 23, 24, 25, 26, 27, 28, 29, 30, 31, 32, 33, 34, 35, 36, 37, 38, 39, 40, 41, 42, 43, 44, 45, 46, 47, 48, 49, 50, 51, 52, 53, 54, 55, 56, 57, 58, 59, 60, 61, 62, 63, 64, 65, 66, 67, 68, 69, 70] [0, 1, 2] rfl rfl rfl) rfl rfl hl.1 rfl (lv_room (Nat.le_of_ble_eq_true rfl)) dL_law_1363 ⟨Nat.le_trans (Nat.add_le_add_left (Nat.le_of_ble_eq_true rfl) _) hcc, Nat.le_trans (Nat.add_le_add_left (Nat.le_of_ble_eq_true rfl) _) hss⟩) hP hD hS hA (fun r u H locs hw hP hD hS => ?_)
    obtain ⟨S1, f1⟩ := u
    obtain rfl := hw.1
    refine lv_istore (lv' := [(6, .int (nI kk)), (5, .int (nI i)), (4, .ref od), (3, .ref oo), (2, .ref (ad2 0)), (1, .ref (ad 0)), (0, .ref b)]) hx hb dL_law_1366 hl (by decide) rfl (fun ls hl => ?_)
    refine lv_aload_n hx hb dL_law_1368 rfl (lv_at hl 4 rfl) ?_
    refine lv_aload_n hx hb dL_law_1369 rfl (lv_at hl 6 rfl) ?_
    refine lv_iload hx hb dL_law_1370 (lv_at hl 1 rfl) ?_
    refine lv_iconst (v := nI 1) hx hb dL_law_1372 (by decide) ?_
    refine lv_iadd hx hb dL_law_1373 ?_
    refine su_eqi (nI (i + 1)) (nI_ad _ _) ?_
    refine va_sld hx hb hX hbl hbA hS (vp_in_nI (by omega) (by omega)) dL_law_1374 ?_
    refine su_eqi (xs (i + 1)) (by rw [nI_clamp (by omega)]) ?_
    refine lv_aload_n hx hb dL_law_1375 rfl (lv_at hl 6 rfl) ?_
    refine lv_iload hx hb dL_law_1376 (lv_at hl 1 rfl) ?_
    refine lv_iconst (v := nI 2) hx hb dL_law_1378 (by decide) ?_
    refine lv_iadd hx hb dL_law_1379 ?_
    refine su_eqi (nI (i + 2)) (nI_ad _ _) ?_
    refine va_sld hx hb hX hbl hbA hS (vp_in_nI (by omega) (by omega)) dL_law_1380 ?_
    refine su_eqi (xs (i + 2)) (by rw [nI_clamp (by omega)]) ?_
    refine lv_aload_n hx hb dL_law_1381 rfl (lv_at hl 6 rfl) ?_
    refine lv_iload hx hb dL_law_1382 (lv_at hl 1 rfl) ?_
    refine lv_iconst (v := nI 3) hx hb dL_law_1384 (by decide) ?_
    refine lv_iadd hx hb dL_law_1385 ?_
    refine su_eqi (nI (i + 3)) (nI_ad _ _) ?_
    refine va_sld hx hb hX hbl hbA hS (vp_in_nI (by omega) (by omega)) dL_law_1386 ?_
    refine su_eqi (xs (i + 3)) (by rw [nI_clamp (by omega)]) ?_
    refine lv_if_eq (tgt := 1394) hx hb dL_law_1387 (by decide) (fun _ => ?_) (fun h9 => absurd hz h9)
    refine lv_iconst (v := nI 0) hx hb dL_law_1394 (by decide) ?_
    refine law_mi (va_runV (As := [.int (xs (i + 1)), .int (xs (i + 2)), .int (bI false)]) (rest := []) ⟨hx, hb, hml, hown, hts⟩ (M_gap l D cI cL cZ cA cB H.size ad2 T (S.1 0) (S.1 1) (S.2.1 0) (S.2.1 1) hL0 hL1 ok0 ok1 (xs (i + 1)) (xs (i + 2)) false kk v L0 L1 hr) (cwV 3 hts (lw_gV q_1135 q_1136 q_1137 q_42 q_1138) rfl rfl rfl (by decide +kernel) ⟨Nat.le_trans (Nat.le_of_ble_eq_true rfl) hR1, Nat.le_trans (Nat.le_of_ble_eq_true rfl) hR2⟩) (su_pv hN hK hP hD [71, 72, 73, 74, 75, 76, 77, 78, 79, 80] [0, 1, 2, 3, 4] rfl rfl rfl (ci := 10) (q0 := 0) rfl rfl rfl) rfl rfl hl.1 rfl (lv_room (Nat.le_of_ble_eq_true rfl)) dL_law_1395 ⟨Nat.le_trans (by omega) hcc, Nat.le_trans (by omega) hss⟩) hP hD hS hA (fun r2 T1 H locs hw2 hP hD hS => ?_)
    refine lv_istore (lv' := [(7, .int r2), (6, .int (nI kk)), (5, .int (nI i)), (4, .ref od), (3, .ref oo), (2, .ref (ad2 0)), (1, .ref (ad 0)), (0, .ref b)]) hx hb dL_law_1398 hl (by decide) rfl (fun ls hl => ?_)
    refine lv_aload_n hx hb dL_law_1400 rfl (lv_at hl 5 rfl) ?_
    refine law_mi (va_runV (As := []) (rest := []) ⟨hx, hb, hml, hown, hts⟩ (M_thrown l D cI cL cZ cA cB H.size ad2 T1) (cwV 0 hts (lw_gV q_1018 q_1019 q_1020 q_42 q_1021) rfl rfl rfl (by decide +kernel) ⟨Nat.le_trans (Nat.le_of_ble_eq_true rfl) hR1, Nat.le_trans (Nat.le_of_ble_eq_true rfl) hR2⟩) (su_pv hN hK hP hD [71, 72, 73, 74, 75, 76, 77, 78, 79, 80] [0, 1, 2, 3, 4] rfl rfl rfl (ci := 10) (q0 := 0) rfl rfl rfl) rfl rfl hl.1 rfl (lv_room (Nat.le_of_ble_eq_true rfl)) dL_law_1401 ⟨Nat.le_trans (by omega) hcc, Nat.le_trans (by omega) hss⟩) hP hD hS hA (fun r3 u H locs ht hP hD hS => ?_)
    obtain ⟨ht, hu⟩ := ht
    have hu := hu.symm
    subst hu
    obtain rfl : r3 = nI kk := ht.trans hw2.1
    have ht : nI kk = nI kk ∧ True := ⟨rfl, trivial⟩
    refine lv_iload hx hb dL_law_1404 (lv_at hl 1 rfl) ?_
    refine lv_icmp_eq (tgt := 1411) hx hb dL_law_1406 (by decide) (fun _ => ?_) (fun h9 => absurd (by first | exact ht.1 | rfl) h9)
    refine lv_iload hx hb dL_law_1411 (lv_at hl 1 rfl) ?_
    refine lv_if_ne (tgt := 1428) hx hb dL_law_1413 (by decide) (fun h9 => ?_) (fun h9 => ?_)
    · refine lv_goto (tgt := 2877) hx hb dL_law_1428 (by decide) ?_
      refine W.widen (k := cells + 2) (n := slots + 26) (by omega) (by omega) ?_
      exact kk9 S1 f1 fd T1 H locs ls (lawI_of hw.2.2.1 hw.2.2.2 hw2.2.2.1 hw2.2.2.2 hk0 hk1) hP hD hS (lv_sub hl [2, 3, 4, 5, 6, 7] rfl)
    · have hk := kk_0 hk4 h9
      have ho : f1 0 = v.toInt64 := hw.2.1 hk
      have hv2 := hw2.2.1 hk
      refine lv_aload_n hx hb dL_law_1416 rfl (lv_at hl 4 rfl) ?_
      refine lv_iconst (v := nI 0) hx hb dL_law_1417 (by decide) ?_
      refine su_lald hx hb hK hP 0 1 rfl rfl (i := 0) (by decide) (by decide) (f1 0) rfl dL_law_1418 ?_
      refine lv_iload hx hb dL_law_1419 (lv_at hl 0 rfl) ?_
      refine lv_i2l (v := r2.toInt64) hx hb dL_law_1421 rfl ?_
      refine W.lcmp hx hb dL_law_1422 ?_
      refine su_eqi 0 (by first | (rw [ho]; exact lg_self _) | (rw [ho, hv2]; exact lg_self _)) ?_
      refine lv_if_eq (tgt := 1428) hx hb dL_law_1423 (by decide) (fun _ => ?_) (fun h9 => absurd rfl h9)
      refine lv_goto (tgt := 2877) hx hb dL_law_1428 (by decide) ?_
      refine W.widen (k := cells + 2) (n := slots + 26) (by omega) (by omega) ?_
      exact kk9 S1 f1 fd T1 H locs ls (lawI_of hw.2.2.1 hw.2.2.2 hw2.2.2.1 hw2.2.2.2 hk0 hk1) hP hD hS (lv_sub hl [2, 3, 4, 5, 6, 7] rfl)
  · obtain ⟨kk, v, L0, L1, hr, hk0, hk1, hk4⟩ := su_h1_tot ((0 : Int32)) (RT := fun g n => R_gap g n (xs (i + 2)) true) (fun g n ok => T_gap g n (xs (i + 2)) true ok) ok0 ok1 (xs (i + 1))
    refine lv_aload_n hx hb dL_law_1335 rfl (lv_at hl 4 rfl) ?_
    refine lv_aload_n hx hb dL_law_1336 rfl (lv_at hl 5 rfl) ?_
    refine lv_iload hx hb dL_law_1337 (lv_at hl 0 rfl) ?_
    refine lv_iconst (v := nI 1) hx hb dL_law_1339 (by decide) ?_
    refine lv_iadd hx hb dL_law_1340 ?_
    refine su_eqi (nI (i + 1)) (nI_ad _ _) ?_
    refine va_sld hx hb hX hbl hbA hS (vp_in_nI (by omega) (by omega)) dL_law_1341 ?_
    refine su_eqi (xs (i + 1)) (by rw [nI_clamp (by omega)]) ?_
    refine lv_aload_n hx hb dL_law_1342 rfl (lv_at hl 5 rfl) ?_
    refine lv_iload hx hb dL_law_1343 (lv_at hl 0 rfl) ?_
    refine lv_iconst (v := nI 2) hx hb dL_law_1345 (by decide) ?_
    refine lv_iadd hx hb dL_law_1346 ?_
    refine su_eqi (nI (i + 2)) (nI_ad _ _) ?_
    refine va_sld hx hb hX hbl hbA hS (vp_in_nI (by omega) (by omega)) dL_law_1347 ?_
    refine su_eqi (xs (i + 2)) (by rw [nI_clamp (by omega)]) ?_
    refine lv_aload_n hx hb dL_law_1348 rfl (lv_at hl 5 rfl) ?_
    refine lv_iload hx hb dL_law_1349 (lv_at hl 0 rfl) ?_
    refine lv_iconst (v := nI 3) hx hb dL_law_1351 (by decide) ?_
    refine lv_iadd hx hb dL_law_1352 ?_
    refine su_eqi (nI (i + 3)) (nI_ad _ _) ?_
    refine va_sld hx hb hX hbl hbA hS (vp_in_nI (by omega) (by omega)) dL_law_1353 ?_
    refine su_eqi (xs (i + 3)) (by rw [nI_clamp (by omega)]) ?_
    refine lv_if_eq (tgt := 1361) hx hb dL_law_1354 (by decide) (fun h9 => absurd h9 hz) (fun _ => ?_)
    refine lv_iconst (v := nI 1) hx hb dL_law_1357 (by decide) ?_
    refine lv_goto (tgt := 1362) hx hb dL_law_1358 (by decide) ?_
    refine lv_aload_n hx hb dL_law_1362 rfl (lv_at hl 2 rfl) ?_
    refine law_wL (vx_runSW (As := [.ref (ad 0), .int (xs (i + 1)), .int (xs (i + 2)), .int (bI true), .ref oo]) (rest := []) ⟨hx, hb, hml, hown, hts⟩ (L_gap l hfl D cI cL cZ H.size ad S oo f ok0 ok1 (xs (i + 1)) (xs (i + 2)) true kk v L0 L1 hr) (vx_cwSW 5 hts (lw_gH q_743 q_744 q_30 q_745) rfl rfl rfl (by decide +kernel) ⟨Nat.le_trans (Nat.le_of_ble_eq_true rfl) hR1, Nat.le_trans (Nat.le_of_ble_eq_true rfl) hR2⟩) (su_psx hE hS hA hN hK hP hD [0, 2, 3, 4, 5, 6, 7, 8, 9, 10, 11, 12, 13, 14, 15, 16, 17, 18, 19, 20, 21, 22, 23, 24, 25, 26, 27, 28, 29, 30, 31, 32, 33, 34, 35, 36, 37, 38, 39, 40, 41, 42, 43, 44, 45, 46, 47, 48, 49, 50, 51, 52, 53, 54, 55, 56, 57, 58, 59, 60, 61, 62, 63, 64, 65, 66, 67, 68, 69, 70] [0, 1, 2] rfl rfl rfl) rfl rfl hl.1 rfl (lv_room (Nat.le_of_ble_eq_true rfl)) dL_law_1363 ⟨Nat.le_trans (Nat.add_le_add_left (Nat.le_of_ble_eq_true rfl) _) hcc, Nat.le_trans (Nat.add_le_add_left (Nat.le_of_ble_eq_true rfl) _) hss⟩) hP hD hS hA (fun r u H locs hw hP hD hS => ?_)
    obtain ⟨S1, f1⟩ := u
    obtain rfl := hw.1
    refine lv_istore (lv' := [(6, .int (nI kk)), (5, .int (nI i)), (4, .ref od), (3, .ref oo), (2, .ref (ad2 0)), (1, .ref (ad 0)), (0, .ref b)]) hx hb dL_law_1366 hl (by decide) rfl (fun ls hl => ?_)
    refine lv_aload_n hx hb dL_law_1368 rfl (lv_at hl 4 rfl) ?_
    refine lv_aload_n hx hb dL_law_1369 rfl (lv_at hl 6 rfl) ?_
    refine lv_iload hx hb dL_law_1370 (lv_at hl 1 rfl) ?_
    refine lv_iconst (v := nI 1) hx hb dL_law_1372 (by decide) ?_
    refine lv_iadd hx hb dL_law_1373 ?_
    refine su_eqi (nI (i + 1)) (nI_ad _ _) ?_
    refine va_sld hx hb hX hbl hbA hS (vp_in_nI (by omega) (by omega)) dL_law_1374 ?_
    refine su_eqi (xs (i + 1)) (by rw [nI_clamp (by omega)]) ?_
    refine lv_aload_n hx hb dL_law_1375 rfl (lv_at hl 6 rfl) ?_
    refine lv_iload hx hb dL_law_1376 (lv_at hl 1 rfl) ?_
    refine lv_iconst (v := nI 2) hx hb dL_law_1378 (by decide) ?_
    refine lv_iadd hx hb dL_law_1379 ?_
    refine su_eqi (nI (i + 2)) (nI_ad _ _) ?_
    refine va_sld hx hb hX hbl hbA hS (vp_in_nI (by omega) (by omega)) dL_law_1380 ?_
    refine su_eqi (xs (i + 2)) (by rw [nI_clamp (by omega)]) ?_
    refine lv_aload_n hx hb dL_law_1381 rfl (lv_at hl 6 rfl) ?_
    refine lv_iload hx hb dL_law_1382 (lv_at hl 1 rfl) ?_
    refine lv_iconst (v := nI 3) hx hb dL_law_1384 (by decide) ?_
    refine lv_iadd hx hb dL_law_1385 ?_
    refine su_eqi (nI (i + 3)) (nI_ad _ _) ?_
    refine va_sld hx hb hX hbl hbA hS (vp_in_nI (by omega) (by omega)) dL_law_1386 ?_
    refine su_eqi (xs (i + 3)) (by rw [nI_clamp (by omega)]) ?_
    refine lv_if_eq (tgt := 1394) hx hb dL_law_1387 (by decide) (fun h9 => absurd h9 hz) (fun _ => ?_)
    refine lv_iconst (v := nI 1) hx hb dL_law_1390 (by decide) ?_
    refine lv_goto (tgt := 1395) hx hb dL_law_1391 (by decide) ?_
    refine law_mi (va_runV (As := [.int (xs (i + 1)), .int (xs (i + 2)), .int (bI true)]) (rest := []) ⟨hx, hb, hml, hown, hts⟩ (M_gap l D cI cL cZ cA cB H.size ad2 T (S.1 0) (S.1 1) (S.2.1 0) (S.2.1 1) hL0 hL1 ok0 ok1 (xs (i + 1)) (xs (i + 2)) true kk v L0 L1 hr) (cwV 3 hts (lw_gV q_1135 q_1136 q_1137 q_42 q_1138) rfl rfl rfl (by decide +kernel) ⟨Nat.le_trans (Nat.le_of_ble_eq_true rfl) hR1, Nat.le_trans (Nat.le_of_ble_eq_true rfl) hR2⟩) (su_pv hN hK hP hD [71, 72, 73, 74, 75, 76, 77, 78, 79, 80] [0, 1, 2, 3, 4] rfl rfl rfl (ci := 10) (q0 := 0) rfl rfl rfl) rfl rfl hl.1 rfl (lv_room (Nat.le_of_ble_eq_true rfl)) dL_law_1395 ⟨Nat.le_trans (by omega) hcc, Nat.le_trans (by omega) hss⟩) hP hD hS hA (fun r2 T1 H locs hw2 hP hD hS => ?_)
    refine lv_istore (lv' := [(7, .int r2), (6, .int (nI kk)), (5, .int (nI i)), (4, .ref od), (3, .ref oo), (2, .ref (ad2 0)), (1, .ref (ad 0)), (0, .ref b)]) hx hb dL_law_1398 hl (by decide) rfl (fun ls hl => ?_)
    refine lv_aload_n hx hb dL_law_1400 rfl (lv_at hl 5 rfl) ?_
    refine law_mi (va_runV (As := []) (rest := []) ⟨hx, hb, hml, hown, hts⟩ (M_thrown l D cI cL cZ cA cB H.size ad2 T1) (cwV 0 hts (lw_gV q_1018 q_1019 q_1020 q_42 q_1021) rfl rfl rfl (by decide +kernel) ⟨Nat.le_trans (Nat.le_of_ble_eq_true rfl) hR1, Nat.le_trans (Nat.le_of_ble_eq_true rfl) hR2⟩) (su_pv hN hK hP hD [71, 72, 73, 74, 75, 76, 77, 78, 79, 80] [0, 1, 2, 3, 4] rfl rfl rfl (ci := 10) (q0 := 0) rfl rfl rfl) rfl rfl hl.1 rfl (lv_room (Nat.le_of_ble_eq_true rfl)) dL_law_1401 ⟨Nat.le_trans (by omega) hcc, Nat.le_trans (by omega) hss⟩) hP hD hS hA (fun r3 u H locs ht hP hD hS => ?_)
    obtain ⟨ht, hu⟩ := ht
    have hu := hu.symm
    subst hu
    obtain rfl : r3 = nI kk := ht.trans hw2.1
    have ht : nI kk = nI kk ∧ True := ⟨rfl, trivial⟩
    refine lv_iload hx hb dL_law_1404 (lv_at hl 1 rfl) ?_
    refine lv_icmp_eq (tgt := 1411) hx hb dL_law_1406 (by decide) (fun _ => ?_) (fun h9 => absurd (by first | exact ht.1 | rfl) h9)
    refine lv_iload hx hb dL_law_1411 (lv_at hl 1 rfl) ?_
    refine lv_if_ne (tgt := 1428) hx hb dL_law_1413 (by decide) (fun h9 => ?_) (fun h9 => ?_)
    · refine lv_goto (tgt := 2877) hx hb dL_law_1428 (by decide) ?_
      refine W.widen (k := cells + 2) (n := slots + 26) (by omega) (by omega) ?_
      exact kk9 S1 f1 fd T1 H locs ls (lawI_of hw.2.2.1 hw.2.2.2 hw2.2.2.1 hw2.2.2.2 hk0 hk1) hP hD hS (lv_sub hl [2, 3, 4, 5, 6, 7] rfl)
    · have hk := kk_0 hk4 h9
      have ho : f1 0 = v.toInt64 := hw.2.1 hk
      have hv2 := hw2.2.1 hk
      refine lv_aload_n hx hb dL_law_1416 rfl (lv_at hl 4 rfl) ?_
      refine lv_iconst (v := nI 0) hx hb dL_law_1417 (by decide) ?_
      refine su_lald hx hb hK hP 0 1 rfl rfl (i := 0) (by decide) (by decide) (f1 0) rfl dL_law_1418 ?_
      refine lv_iload hx hb dL_law_1419 (lv_at hl 0 rfl) ?_
      refine lv_i2l (v := r2.toInt64) hx hb dL_law_1421 rfl ?_
      refine W.lcmp hx hb dL_law_1422 ?_
      refine su_eqi 0 (by first | (rw [ho]; exact lg_self _) | (rw [ho, hv2]; exact lg_self _)) ?_
      refine lv_if_eq (tgt := 1428) hx hb dL_law_1423 (by decide) (fun _ => ?_) (fun h9 => absurd rfl h9)
      refine lv_goto (tgt := 2877) hx hb dL_law_1428 (by decide) ?_
      refine W.widen (k := cells + 2) (n := slots + 26) (by omega) (by omega) ?_
      exact kk9 S1 f1 fd T1 H locs ls (lawI_of hw.2.2.1 hw.2.2.2 hw2.2.2.1 hw2.2.2.2 hk0 hk1) hP hD hS (lv_sub hl [2, 3, 4, 5, 6, 7] rfl)
set_option maxHeartbeats 4000000 in
set_option maxRecDepth 100000 in
theorem case_withMany {p : Program} {l : Launch} {e : Env} {R : Room} {s : State} {m : MethodId} {args : Array Value} {below : List Frame} {meth : Method} {c : Code} {Q : State → Prop} {A : Nat → Prop} {D : va_G} {cI cL cZ cA cB cD : ClassId} {b L : Nat} {xs : Nat → Int32} {ad ad2 : Nat → Nat} {oo od : Nat}
    (C9 : lawC p l s m args c A D cI cL cZ cA cB cD b L xs R) {i : Nat} (hi : i + 4 ≤ L) {S : CS} {f : Nat → Int64} {fd : Nat → UInt64} {T : MS} (I9 : lawI S T) {H : Heap} {locs : List Loc} {ls : Array Slot} {cells slots : Nat} (hcc : cells + 2 ≤ R.cells) (hss : slots + 26 ≤ R.slots)
    (hP : va_P D vwCl (lawW ad ad2 cI cL cZ cA cB cD oo od S f fd T) H) (hD : va_D A (lawW ad ad2 cI cL cZ cA cB cD oo od S f fd T)) (hS : va_S A s.heap H locs) (hl : lv_has ls 9 [(5, .int (nI i)), (4, .ref od), (3, .ref oo), (2, .ref (ad2 0)), (1, .ref (ad 0)), (0, .ref b)])
    (kk9 : lawK p l e R s m args below meth c Q A D cI cL cZ cA cB cD b ad ad2 oo od i cells slots) : W p l e R s m args below meth c H locs cells slots Q (F0 m 1762 ls []) := by
  obtain ⟨hx, hb, hml, hown, hts, hN, hE, hfl, hX, hbl, hbA, hA, hK, hR1, hR2, hL⟩ := C9
  obtain ⟨ok0, ok1, hL0, hL1⟩ := I9
  obtain ⟨kk, v, L0, L1, hr, hk0, hk1, hk4⟩ := su_h1_tot ((0 : Int32)) (RT := fun g n => R_withMany g n (xs (i + 2))) (fun g n ok => T_withMany g n (xs (i + 2)) ok) ok0 ok1 (xs (i + 1))
  refine lv_aload_n hx hb dL_law_1762 rfl (lv_at hl 4 rfl) ?_
  refine lv_aload_n hx hb dL_law_1763 rfl (lv_at hl 5 rfl) ?_
  refine lv_iload hx hb dL_law_1764 (lv_at hl 0 rfl) ?_
  refine lv_iconst (v := nI 1) hx hb dL_law_1766 (by decide) ?_
  refine lv_iadd hx hb dL_law_1767 ?_
  refine su_eqi (nI (i + 1)) (nI_ad _ _) ?_
  refine va_sld hx hb hX hbl hbA hS (vp_in_nI (by omega) (by omega)) dL_law_1768 ?_
  refine su_eqi (xs (i + 1)) (by rw [nI_clamp (by omega)]) ?_
  refine lv_aload_n hx hb dL_law_1769 rfl (lv_at hl 5 rfl) ?_
  refine lv_iload hx hb dL_law_1770 (lv_at hl 0 rfl) ?_
  refine lv_iconst (v := nI 2) hx hb dL_law_1772 (by decide) ?_
  refine lv_iadd hx hb dL_law_1773 ?_
  refine su_eqi (nI (i + 2)) (nI_ad _ _) ?_
  refine va_sld hx hb hX hbl hbA hS (vp_in_nI (by omega) (by omega)) dL_law_1774 ?_
  refine su_eqi (xs (i + 2)) (by rw [nI_clamp (by omega)]) ?_
  refine lv_aload_n hx hb dL_law_1775 rfl (lv_at hl 2 rfl) ?_
  refine law_wL (vx_runSW (As := [.ref (ad 0), .int (xs (i + 1)), .int (xs (i + 2)), .ref oo]) (rest := []) ⟨hx, hb, hml, hown, hts⟩ (L_withMany l hfl D cI cL cZ H.size ad S oo f ok0 ok1 (xs (i + 1)) (xs (i + 2)) kk v L0 L1 hr) (vx_cwSW 4 hts (lw_gH q_792 q_793 q_30 q_794) rfl rfl rfl (by decide +kernel) ⟨Nat.le_trans (Nat.le_of_ble_eq_true rfl) hR1, Nat.le_trans (Nat.le_of_ble_eq_true rfl) hR2⟩) (su_psx hE hS hA hN hK hP hD [0, 2, 3, 4, 5, 6, 7, 8, 9, 10, 11, 12, 13, 14, 15, 16, 17, 18, 19, 20, 21, 22, 23, 24, 25, 26, 27, 28, 29, 30, 31, 32, 33, 34, 35, 36, 37, 38, 39, 40, 41, 42, 43, 44, 45, 46, 47, 48, 49, 50, 51, 52, 53, 54, 55, 56, 57, 58, 59, 60, 61, 62, 63, 64, 65, 66, 67, 68, 69, 70] [0, 1, 2] rfl rfl rfl) rfl rfl hl.1 rfl (lv_room (Nat.le_of_ble_eq_true rfl)) dL_law_1776 ⟨Nat.le_trans (Nat.add_le_add_left (Nat.le_of_ble_eq_true rfl) _) hcc, Nat.le_trans (Nat.add_le_add_left (Nat.le_of_ble_eq_true rfl) _) hss⟩) hP hD hS hA (fun r u H locs hw hP hD hS => ?_)
  obtain ⟨S1, f1⟩ := u
  obtain rfl := hw.1
  refine lv_istore (lv' := [(6, .int (nI kk)), (5, .int (nI i)), (4, .ref od), (3, .ref oo), (2, .ref (ad2 0)), (1, .ref (ad 0)), (0, .ref b)]) hx hb dL_law_1779 hl (by decide) rfl (fun ls hl => ?_)
  refine lv_aload_n hx hb dL_law_1781 rfl (lv_at hl 4 rfl) ?_
  refine lv_aload_n hx hb dL_law_1782 rfl (lv_at hl 6 rfl) ?_
  refine lv_iload hx hb dL_law_1783 (lv_at hl 1 rfl) ?_
  refine lv_iconst (v := nI 1) hx hb dL_law_1785 (by decide) ?_
  refine lv_iadd hx hb dL_law_1786 ?_
  refine su_eqi (nI (i + 1)) (nI_ad _ _) ?_
  refine va_sld hx hb hX hbl hbA hS (vp_in_nI (by omega) (by omega)) dL_law_1787 ?_
  refine su_eqi (xs (i + 1)) (by rw [nI_clamp (by omega)]) ?_
  refine lv_aload_n hx hb dL_law_1788 rfl (lv_at hl 6 rfl) ?_
  refine lv_iload hx hb dL_law_1789 (lv_at hl 1 rfl) ?_
  refine lv_iconst (v := nI 2) hx hb dL_law_1791 (by decide) ?_
  refine lv_iadd hx hb dL_law_1792 ?_
  refine su_eqi (nI (i + 2)) (nI_ad _ _) ?_
  refine va_sld hx hb hX hbl hbA hS (vp_in_nI (by omega) (by omega)) dL_law_1793 ?_
  refine su_eqi (xs (i + 2)) (by rw [nI_clamp (by omega)]) ?_
  refine law_mi (va_runV (As := [.int (xs (i + 1)), .int (xs (i + 2))]) (rest := []) ⟨hx, hb, hml, hown, hts⟩ (M_withMany l D cI cL cZ cA cB H.size ad2 T (S.1 0) (S.1 1) (S.2.1 0) (S.2.1 1) hL0 hL1 ok0 ok1 (xs (i + 1)) (xs (i + 2)) kk v L0 L1 hr) (cwV 2 hts (lw_gV q_1155 q_1156 q_1157 q_42 q_1158) rfl rfl rfl (by decide +kernel) ⟨Nat.le_trans (Nat.le_of_ble_eq_true rfl) hR1, Nat.le_trans (Nat.le_of_ble_eq_true rfl) hR2⟩) (su_pv hN hK hP hD [71, 72, 73, 74, 75, 76, 77, 78, 79, 80] [0, 1, 2, 3, 4] rfl rfl rfl (ci := 10) (q0 := 0) rfl rfl rfl) rfl rfl hl.1 rfl (lv_room (Nat.le_of_ble_eq_true rfl)) dL_law_1794 ⟨Nat.le_trans (by omega) hcc, Nat.le_trans (by omega) hss⟩) hP hD hS hA (fun r2 T1 H locs hw2 hP hD hS => ?_)
  refine lv_istore (lv' := [(7, .int r2), (6, .int (nI kk)), (5, .int (nI i)), (4, .ref od), (3, .ref oo), (2, .ref (ad2 0)), (1, .ref (ad 0)), (0, .ref b)]) hx hb dL_law_1797 hl (by decide) rfl (fun ls hl => ?_)
  refine lv_aload_n hx hb dL_law_1799 rfl (lv_at hl 5 rfl) ?_
  refine law_mi (va_runV (As := []) (rest := []) ⟨hx, hb, hml, hown, hts⟩ (M_thrown l D cI cL cZ cA cB H.size ad2 T1) (cwV 0 hts (lw_gV q_1018 q_1019 q_1020 q_42 q_1021) rfl rfl rfl (by decide +kernel) ⟨Nat.le_trans (Nat.le_of_ble_eq_true rfl) hR1, Nat.le_trans (Nat.le_of_ble_eq_true rfl) hR2⟩) (su_pv hN hK hP hD [71, 72, 73, 74, 75, 76, 77, 78, 79, 80] [0, 1, 2, 3, 4] rfl rfl rfl (ci := 10) (q0 := 0) rfl rfl rfl) rfl rfl hl.1 rfl (lv_room (Nat.le_of_ble_eq_true rfl)) dL_law_1800 ⟨Nat.le_trans (by omega) hcc, Nat.le_trans (by omega) hss⟩) hP hD hS hA (fun r3 u H locs ht hP hD hS => ?_)
  obtain ⟨ht, hu⟩ := ht
  have hu := hu.symm
  subst hu
  obtain rfl : r3 = nI kk := ht.trans hw2.1
  have ht : nI kk = nI kk ∧ True := ⟨rfl, trivial⟩
  refine lv_iload hx hb dL_law_1803 (lv_at hl 1 rfl) ?_
  refine lv_icmp_eq (tgt := 1810) hx hb dL_law_1805 (by decide) (fun _ => ?_) (fun h9 => absurd (by first | exact ht.1 | rfl) h9)
  refine lv_iload hx hb dL_law_1810 (lv_at hl 1 rfl) ?_
  refine lv_if_ne (tgt := 1827) hx hb dL_law_1812 (by decide) (fun h9 => ?_) (fun h9 => ?_)
  · refine lv_goto (tgt := 2877) hx hb dL_law_1827 (by decide) ?_
    refine W.widen (k := cells + 2) (n := slots + 26) (by omega) (by omega) ?_
    exact kk9 S1 f1 fd T1 H locs ls (lawI_of hw.2.2.1 hw.2.2.2 hw2.2.2.1 hw2.2.2.2 hk0 hk1) hP hD hS (lv_sub hl [2, 3, 4, 5, 6, 7] rfl)
  · have hk := kk_0 hk4 h9
    have ho : f1 0 = v.toInt64 := hw.2.1 hk
    have hv2 := hw2.2.1 hk
    refine lv_aload_n hx hb dL_law_1815 rfl (lv_at hl 4 rfl) ?_
    refine lv_iconst (v := nI 0) hx hb dL_law_1816 (by decide) ?_
    refine su_lald hx hb hK hP 0 1 rfl rfl (i := 0) (by decide) (by decide) (f1 0) rfl dL_law_1817 ?_
    refine lv_iload hx hb dL_law_1818 (lv_at hl 0 rfl) ?_
    refine lv_i2l (v := r2.toInt64) hx hb dL_law_1820 rfl ?_
    refine W.lcmp hx hb dL_law_1821 ?_
    refine su_eqi 0 (by first | (rw [ho]; exact lg_self _) | (rw [ho, hv2]; exact lg_self _)) ?_
    refine lv_if_eq (tgt := 1827) hx hb dL_law_1822 (by decide) (fun _ => ?_) (fun h9 => absurd rfl h9)
    refine lv_goto (tgt := 2877) hx hb dL_law_1827 (by decide) ?_
    refine W.widen (k := cells + 2) (n := slots + 26) (by omega) (by omega) ?_
    exact kk9 S1 f1 fd T1 H locs ls (lawI_of hw.2.2.1 hw.2.2.2 hw2.2.2.1 hw2.2.2.2 hk0 hk1) hP hD hS (lv_sub hl [2, 3, 4, 5, 6, 7] rfl)
set_option maxHeartbeats 4000000 in
set_option maxRecDepth 100000 in
theorem case_rank {p : Program} {l : Launch} {e : Env} {R : Room} {s : State} {m : MethodId} {args : Array Value} {below : List Frame} {meth : Method} {c : Code} {Q : State → Prop} {A : Nat → Prop} {D : va_G} {cI cL cZ cA cB cD : ClassId} {b L : Nat} {xs : Nat → Int32} {ad ad2 : Nat → Nat} {oo od : Nat}
    (C9 : lawC p l s m args c A D cI cL cZ cA cB cD b L xs R) {i : Nat} (hi : i + 4 ≤ L) {S : CS} {f : Nat → Int64} {fd : Nat → UInt64} {T : MS} (I9 : lawI S T) {H : Heap} {locs : List Loc} {ls : Array Slot} {cells slots : Nat} (hcc : cells + 2 ≤ R.cells) (hss : slots + 26 ≤ R.slots)
    (hP : va_P D vwCl (lawW ad ad2 cI cL cZ cA cB cD oo od S f fd T) H) (hD : va_D A (lawW ad ad2 cI cL cZ cA cB cD oo od S f fd T)) (hS : va_S A s.heap H locs) (hl : lv_has ls 9 [(5, .int (nI i)), (4, .ref od), (3, .ref oo), (2, .ref (ad2 0)), (1, .ref (ad 0)), (0, .ref b)])
    (kk9 : lawK p l e R s m args below meth c Q A D cI cL cZ cA cB cD b ad ad2 oo od i cells slots) : W p l e R s m args below meth c H locs cells slots Q (F0 m 2121 ls []) := by
  obtain ⟨hx, hb, hml, hown, hts, hN, hE, hfl, hX, hbl, hbA, hA, hK, hR1, hR2, hL⟩ := C9
  obtain ⟨ok0, ok1, hL0, hL1⟩ := I9
  obtain ⟨kk, v, L0, L1, hr, hk0, hk1, hk4⟩ := su_h1_tot ((0 : Int32)) (RT := fun g n => R_rank g n (xs (i + 2))) (fun g n ok => T_rank g n (xs (i + 2)) ok) ok0 ok1 (xs (i + 1))
  refine lv_aload_n hx hb dL_law_2121 rfl (lv_at hl 4 rfl) ?_
  refine lv_aload_n hx hb dL_law_2122 rfl (lv_at hl 5 rfl) ?_
  refine lv_iload hx hb dL_law_2123 (lv_at hl 0 rfl) ?_
  refine lv_iconst (v := nI 1) hx hb dL_law_2125 (by decide) ?_
  refine lv_iadd hx hb dL_law_2126 ?_
  refine su_eqi (nI (i + 1)) (nI_ad _ _) ?_
  refine va_sld hx hb hX hbl hbA hS (vp_in_nI (by omega) (by omega)) dL_law_2127 ?_
  refine su_eqi (xs (i + 1)) (by rw [nI_clamp (by omega)]) ?_
  refine lv_aload_n hx hb dL_law_2128 rfl (lv_at hl 5 rfl) ?_
  refine lv_iload hx hb dL_law_2129 (lv_at hl 0 rfl) ?_
  refine lv_iconst (v := nI 2) hx hb dL_law_2131 (by decide) ?_
  refine lv_iadd hx hb dL_law_2132 ?_
  refine su_eqi (nI (i + 2)) (nI_ad _ _) ?_
  refine va_sld hx hb hX hbl hbA hS (vp_in_nI (by omega) (by omega)) dL_law_2133 ?_
  refine su_eqi (xs (i + 2)) (by rw [nI_clamp (by omega)]) ?_
  refine lv_aload_n hx hb dL_law_2134 rfl (lv_at hl 2 rfl) ?_
  refine law_wL (vx_runSW (As := [.ref (ad 0), .int (xs (i + 1)), .int (xs (i + 2)), .ref oo]) (rest := []) ⟨hx, hb, hml, hown, hts⟩ (L_rank l hfl D cI cL cZ H.size ad S oo f ok0 ok1 (xs (i + 1)) (xs (i + 2)) kk v L0 L1 hr) (vx_cwSW 4 hts (lw_gH q_844 q_845 q_30 q_846) rfl rfl rfl (by decide +kernel) ⟨Nat.le_trans (Nat.le_of_ble_eq_true rfl) hR1, Nat.le_trans (Nat.le_of_ble_eq_true rfl) hR2⟩) (su_psx hE hS hA hN hK hP hD [0, 2, 3, 4, 5, 6, 7, 8, 9, 10, 11, 12, 13, 14, 15, 16, 17, 18, 19, 20, 21, 22, 23, 24, 25, 26, 27, 28, 29, 30, 31, 32, 33, 34, 35, 36, 37, 38, 39, 40, 41, 42, 43, 44, 45, 46, 47, 48, 49, 50, 51, 52, 53, 54, 55, 56, 57, 58, 59, 60, 61, 62, 63, 64, 65, 66, 67, 68, 69, 70] [0, 1, 2] rfl rfl rfl) rfl rfl hl.1 rfl (lv_room (Nat.le_of_ble_eq_true rfl)) dL_law_2135 ⟨Nat.le_trans (Nat.add_le_add_left (Nat.le_of_ble_eq_true rfl) _) hcc, Nat.le_trans (Nat.add_le_add_left (Nat.le_of_ble_eq_true rfl) _) hss⟩) hP hD hS hA (fun r u H locs hw hP hD hS => ?_)
  obtain ⟨S1, f1⟩ := u
  obtain rfl := hw.1
  refine lv_istore (lv' := [(6, .int (nI kk)), (5, .int (nI i)), (4, .ref od), (3, .ref oo), (2, .ref (ad2 0)), (1, .ref (ad 0)), (0, .ref b)]) hx hb dL_law_2138 hl (by decide) rfl (fun ls hl => ?_)
  refine lv_aload_n hx hb dL_law_2140 rfl (lv_at hl 4 rfl) ?_
  refine lv_aload_n hx hb dL_law_2141 rfl (lv_at hl 6 rfl) ?_
  refine lv_iload hx hb dL_law_2142 (lv_at hl 1 rfl) ?_
  refine lv_iconst (v := nI 1) hx hb dL_law_2144 (by decide) ?_
  refine lv_iadd hx hb dL_law_2145 ?_
  refine su_eqi (nI (i + 1)) (nI_ad _ _) ?_
  refine va_sld hx hb hX hbl hbA hS (vp_in_nI (by omega) (by omega)) dL_law_2146 ?_
  refine su_eqi (xs (i + 1)) (by rw [nI_clamp (by omega)]) ?_
  refine lv_aload_n hx hb dL_law_2147 rfl (lv_at hl 6 rfl) ?_
  refine lv_iload hx hb dL_law_2148 (lv_at hl 1 rfl) ?_
  refine lv_iconst (v := nI 2) hx hb dL_law_2150 (by decide) ?_
  refine lv_iadd hx hb dL_law_2151 ?_
  refine su_eqi (nI (i + 2)) (nI_ad _ _) ?_
  refine va_sld hx hb hX hbl hbA hS (vp_in_nI (by omega) (by omega)) dL_law_2152 ?_
  refine su_eqi (xs (i + 2)) (by rw [nI_clamp (by omega)]) ?_
  refine law_mi (va_runV (As := [.int (xs (i + 1)), .int (xs (i + 2))]) (rest := []) ⟨hx, hb, hml, hown, hts⟩ (M_rank l D cI cL cZ cA cB H.size ad2 T (S.1 0) (S.1 1) (S.2.1 0) (S.2.1 1) hL0 hL1 ok0 ok1 (xs (i + 1)) (xs (i + 2)) kk v L0 L1 hr) (cwV 2 hts (lw_gV q_1175 q_1176 q_1177 q_42 q_1178) rfl rfl rfl (by decide +kernel) ⟨Nat.le_trans (Nat.le_of_ble_eq_true rfl) hR1, Nat.le_trans (Nat.le_of_ble_eq_true rfl) hR2⟩) (su_pv hN hK hP hD [71, 72, 73, 74, 75, 76, 77, 78, 79, 80] [0, 1, 2, 3, 4] rfl rfl rfl (ci := 10) (q0 := 0) rfl rfl rfl) rfl rfl hl.1 rfl (lv_room (Nat.le_of_ble_eq_true rfl)) dL_law_2153 ⟨Nat.le_trans (by omega) hcc, Nat.le_trans (by omega) hss⟩) hP hD hS hA (fun r2 T1 H locs hw2 hP hD hS => ?_)
  refine lv_istore (lv' := [(7, .int r2), (6, .int (nI kk)), (5, .int (nI i)), (4, .ref od), (3, .ref oo), (2, .ref (ad2 0)), (1, .ref (ad 0)), (0, .ref b)]) hx hb dL_law_2156 hl (by decide) rfl (fun ls hl => ?_)
  refine lv_aload_n hx hb dL_law_2158 rfl (lv_at hl 5 rfl) ?_
  refine law_mi (va_runV (As := []) (rest := []) ⟨hx, hb, hml, hown, hts⟩ (M_thrown l D cI cL cZ cA cB H.size ad2 T1) (cwV 0 hts (lw_gV q_1018 q_1019 q_1020 q_42 q_1021) rfl rfl rfl (by decide +kernel) ⟨Nat.le_trans (Nat.le_of_ble_eq_true rfl) hR1, Nat.le_trans (Nat.le_of_ble_eq_true rfl) hR2⟩) (su_pv hN hK hP hD [71, 72, 73, 74, 75, 76, 77, 78, 79, 80] [0, 1, 2, 3, 4] rfl rfl rfl (ci := 10) (q0 := 0) rfl rfl rfl) rfl rfl hl.1 rfl (lv_room (Nat.le_of_ble_eq_true rfl)) dL_law_2159 ⟨Nat.le_trans (by omega) hcc, Nat.le_trans (by omega) hss⟩) hP hD hS hA (fun r3 u H locs ht hP hD hS => ?_)
  obtain ⟨ht, hu⟩ := ht
  have hu := hu.symm
  subst hu
  obtain rfl : r3 = nI kk := ht.trans hw2.1
  have ht : nI kk = nI kk ∧ True := ⟨rfl, trivial⟩
  refine lv_iload hx hb dL_law_2162 (lv_at hl 1 rfl) ?_
  refine lv_icmp_eq (tgt := 2169) hx hb dL_law_2164 (by decide) (fun _ => ?_) (fun h9 => absurd (by first | exact ht.1 | rfl) h9)
  refine lv_iload hx hb dL_law_2169 (lv_at hl 1 rfl) ?_
  refine lv_if_ne (tgt := 2186) hx hb dL_law_2171 (by decide) (fun h9 => ?_) (fun h9 => ?_)
  · refine lv_goto (tgt := 2877) hx hb dL_law_2186 (by decide) ?_
    refine W.widen (k := cells + 2) (n := slots + 26) (by omega) (by omega) ?_
    exact kk9 S1 f1 fd T1 H locs ls (lawI_of hw.2.2.1 hw.2.2.2 hw2.2.2.1 hw2.2.2.2 hk0 hk1) hP hD hS (lv_sub hl [2, 3, 4, 5, 6, 7] rfl)
  · have hk := kk_0 hk4 h9
    have ho : f1 0 = v.toInt64 := hw.2.1 hk
    have hv2 := hw2.2.1 hk
    refine lv_aload_n hx hb dL_law_2174 rfl (lv_at hl 4 rfl) ?_
    refine lv_iconst (v := nI 0) hx hb dL_law_2175 (by decide) ?_
    refine su_lald hx hb hK hP 0 1 rfl rfl (i := 0) (by decide) (by decide) (f1 0) rfl dL_law_2176 ?_
    refine lv_iload hx hb dL_law_2177 (lv_at hl 0 rfl) ?_
    refine lv_i2l (v := r2.toInt64) hx hb dL_law_2179 rfl ?_
    refine W.lcmp hx hb dL_law_2180 ?_
    refine su_eqi 0 (by first | (rw [ho]; exact lg_self _) | (rw [ho, hv2]; exact lg_self _)) ?_
    refine lv_if_eq (tgt := 2186) hx hb dL_law_2181 (by decide) (fun _ => ?_) (fun h9 => absurd rfl h9)
    refine lv_goto (tgt := 2877) hx hb dL_law_2186 (by decide) ?_
    refine W.widen (k := cells + 2) (n := slots + 26) (by omega) (by omega) ?_
    exact kk9 S1 f1 fd T1 H locs ls (lawI_of hw.2.2.1 hw.2.2.2 hw2.2.2.1 hw2.2.2.2 hk0 hk1) hP hD hS (lv_sub hl [2, 3, 4, 5, 6, 7] rfl)
set_option maxHeartbeats 4000000 in
set_option maxRecDepth 100000 in
theorem case_together {p : Program} {l : Launch} {e : Env} {R : Room} {s : State} {m : MethodId} {args : Array Value} {below : List Frame} {meth : Method} {c : Code} {Q : State → Prop} {A : Nat → Prop} {D : va_G} {cI cL cZ cA cB cD : ClassId} {b L : Nat} {xs : Nat → Int32} {ad ad2 : Nat → Nat} {oo od : Nat}
    (C9 : lawC p l s m args c A D cI cL cZ cA cB cD b L xs R) {i : Nat} (hi : i + 4 ≤ L) {S : CS} {f : Nat → Int64} {fd : Nat → UInt64} {T : MS} (I9 : lawI S T) {H : Heap} {locs : List Loc} {ls : Array Slot} {cells slots : Nat} (hcc : cells + 2 ≤ R.cells) (hss : slots + 26 ≤ R.slots)
    (hP : va_P D vwCl (lawW ad ad2 cI cL cZ cA cB cD oo od S f fd T) H) (hD : va_D A (lawW ad ad2 cI cL cZ cA cB cD oo od S f fd T)) (hS : va_S A s.heap H locs) (hl : lv_has ls 9 [(5, .int (nI i)), (4, .ref od), (3, .ref oo), (2, .ref (ad2 0)), (1, .ref (ad 0)), (0, .ref b)])
    (kk9 : lawK p l e R s m args below meth c Q A D cI cL cZ cA cB cD b ad ad2 oo od i cells slots) : W p l e R s m args below meth c H locs cells slots Q (F0 m 2482 ls []) := by
  obtain ⟨hx, hb, hml, hown, hts, hN, hE, hfl, hX, hbl, hbA, hA, hK, hR1, hR2, hL⟩ := C9
  obtain ⟨ok0, ok1, hL0, hL1⟩ := I9
  obtain ⟨kk, v, L0, L1, hr, hk0, hk1, hk4⟩ := T_together (S.1 0) (S.2.1 0) (S.1 1) (S.2.1 1) (xs (i + 1)) (xs (i + 2)) (xs (i + 3)) ok0 ok1
  refine lv_aload_n hx hb dL_law_2482 rfl (lv_at hl 4 rfl) ?_
  refine lv_aload_n hx hb dL_law_2483 rfl (lv_at hl 5 rfl) ?_
  refine lv_iload hx hb dL_law_2484 (lv_at hl 0 rfl) ?_
  refine lv_iconst (v := nI 1) hx hb dL_law_2486 (by decide) ?_
  refine lv_iadd hx hb dL_law_2487 ?_
  refine su_eqi (nI (i + 1)) (nI_ad _ _) ?_
  refine va_sld hx hb hX hbl hbA hS (vp_in_nI (by omega) (by omega)) dL_law_2488 ?_
  refine su_eqi (xs (i + 1)) (by rw [nI_clamp (by omega)]) ?_
  refine lv_aload_n hx hb dL_law_2489 rfl (lv_at hl 5 rfl) ?_
  refine lv_iload hx hb dL_law_2490 (lv_at hl 0 rfl) ?_
  refine lv_iconst (v := nI 2) hx hb dL_law_2492 (by decide) ?_
  refine lv_iadd hx hb dL_law_2493 ?_
  refine su_eqi (nI (i + 2)) (nI_ad _ _) ?_
  refine va_sld hx hb hX hbl hbA hS (vp_in_nI (by omega) (by omega)) dL_law_2494 ?_
  refine su_eqi (xs (i + 2)) (by rw [nI_clamp (by omega)]) ?_
  refine lv_aload_n hx hb dL_law_2495 rfl (lv_at hl 5 rfl) ?_
  refine lv_iload hx hb dL_law_2496 (lv_at hl 0 rfl) ?_
  refine lv_iconst (v := nI 3) hx hb dL_law_2498 (by decide) ?_
  refine lv_iadd hx hb dL_law_2499 ?_
  refine su_eqi (nI (i + 3)) (nI_ad _ _) ?_
  refine va_sld hx hb hX hbl hbA hS (vp_in_nI (by omega) (by omega)) dL_law_2500 ?_
  refine su_eqi (xs (i + 3)) (by rw [nI_clamp (by omega)]) ?_
  refine lv_aload_n hx hb dL_law_2501 rfl (lv_at hl 2 rfl) ?_
  refine law_wL (vx_runSW (As := [.ref (ad 0), .int (xs (i + 1)), .int (xs (i + 2)), .int (xs (i + 3)), .ref oo]) (rest := []) ⟨hx, hb, hml, hown, hts⟩ (L_together l hfl D cI cL cZ H.size ad S oo f ok0 ok1 (xs (i + 1)) (xs (i + 2)) (xs (i + 3)) kk v L0 L1 hr) (vx_cwSW 5 hts (lw_gH q_904 q_905 q_30 q_906) rfl rfl rfl (by decide +kernel) ⟨Nat.le_trans (Nat.le_of_ble_eq_true rfl) hR1, Nat.le_trans (Nat.le_of_ble_eq_true rfl) hR2⟩) (su_psx hE hS hA hN hK hP hD [0, 2, 3, 4, 5, 6, 7, 8, 9, 10, 11, 12, 13, 14, 15, 16, 17, 18, 19, 20, 21, 22, 23, 24, 25, 26, 27, 28, 29, 30, 31, 32, 33, 34, 35, 36, 37, 38, 39, 40, 41, 42, 43, 44, 45, 46, 47, 48, 49, 50, 51, 52, 53, 54, 55, 56, 57, 58, 59, 60, 61, 62, 63, 64, 65, 66, 67, 68, 69, 70] [0, 1, 2] rfl rfl rfl) rfl rfl hl.1 rfl (lv_room (Nat.le_of_ble_eq_true rfl)) dL_law_2502 ⟨Nat.le_trans (Nat.add_le_add_left (Nat.le_of_ble_eq_true rfl) _) hcc, Nat.le_trans (Nat.add_le_add_left (Nat.le_of_ble_eq_true rfl) _) hss⟩) hP hD hS hA (fun r u H locs hw hP hD hS => ?_)
  obtain ⟨S1, f1⟩ := u
  obtain rfl := hw.1
  refine lv_istore (lv' := [(6, .int (nI kk)), (5, .int (nI i)), (4, .ref od), (3, .ref oo), (2, .ref (ad2 0)), (1, .ref (ad 0)), (0, .ref b)]) hx hb dL_law_2505 hl (by decide) rfl (fun ls hl => ?_)
  refine lv_aload_n hx hb dL_law_2507 rfl (lv_at hl 4 rfl) ?_
  refine lv_aload_n hx hb dL_law_2508 rfl (lv_at hl 6 rfl) ?_
  refine lv_iload hx hb dL_law_2509 (lv_at hl 1 rfl) ?_
  refine lv_iconst (v := nI 1) hx hb dL_law_2511 (by decide) ?_
  refine lv_iadd hx hb dL_law_2512 ?_
  refine su_eqi (nI (i + 1)) (nI_ad _ _) ?_
  refine va_sld hx hb hX hbl hbA hS (vp_in_nI (by omega) (by omega)) dL_law_2513 ?_
  refine su_eqi (xs (i + 1)) (by rw [nI_clamp (by omega)]) ?_
  refine lv_aload_n hx hb dL_law_2514 rfl (lv_at hl 6 rfl) ?_
  refine lv_iload hx hb dL_law_2515 (lv_at hl 1 rfl) ?_
  refine lv_iconst (v := nI 2) hx hb dL_law_2517 (by decide) ?_
  refine lv_iadd hx hb dL_law_2518 ?_
  refine su_eqi (nI (i + 2)) (nI_ad _ _) ?_
  refine va_sld hx hb hX hbl hbA hS (vp_in_nI (by omega) (by omega)) dL_law_2519 ?_
  refine su_eqi (xs (i + 2)) (by rw [nI_clamp (by omega)]) ?_
  refine lv_aload_n hx hb dL_law_2520 rfl (lv_at hl 6 rfl) ?_
  refine lv_iload hx hb dL_law_2521 (lv_at hl 1 rfl) ?_
  refine lv_iconst (v := nI 3) hx hb dL_law_2523 (by decide) ?_
  refine lv_iadd hx hb dL_law_2524 ?_
  refine su_eqi (nI (i + 3)) (nI_ad _ _) ?_
  refine va_sld hx hb hX hbl hbA hS (vp_in_nI (by omega) (by omega)) dL_law_2525 ?_
  refine su_eqi (xs (i + 3)) (by rw [nI_clamp (by omega)]) ?_
  refine law_mi (va_runV (As := [.int (xs (i + 1)), .int (xs (i + 2)), .int (xs (i + 3))]) (rest := []) ⟨hx, hb, hml, hown, hts⟩ (M_together l D cI cL cZ cA cB H.size ad2 T (S.1 0) (S.1 1) (S.2.1 0) (S.2.1 1) hL0 hL1 ok0 ok1 (xs (i + 1)) (xs (i + 2)) (xs (i + 3)) kk v L0 L1 hr) (cwV 3 hts (lw_gV q_1207 q_1208 q_1209 q_42 q_1210) rfl rfl rfl (by decide +kernel) ⟨Nat.le_trans (Nat.le_of_ble_eq_true rfl) hR1, Nat.le_trans (Nat.le_of_ble_eq_true rfl) hR2⟩) (su_pv hN hK hP hD [71, 72, 73, 74, 75, 76, 77, 78, 79, 80] [0, 1, 2, 3, 4] rfl rfl rfl (ci := 10) (q0 := 0) rfl rfl rfl) rfl rfl hl.1 rfl (lv_room (Nat.le_of_ble_eq_true rfl)) dL_law_2526 ⟨Nat.le_trans (by omega) hcc, Nat.le_trans (by omega) hss⟩) hP hD hS hA (fun r2 T1 H locs hw2 hP hD hS => ?_)
  refine lv_istore (lv' := [(7, .int r2), (6, .int (nI kk)), (5, .int (nI i)), (4, .ref od), (3, .ref oo), (2, .ref (ad2 0)), (1, .ref (ad 0)), (0, .ref b)]) hx hb dL_law_2529 hl (by decide) rfl (fun ls hl => ?_)
  refine lv_aload_n hx hb dL_law_2531 rfl (lv_at hl 5 rfl) ?_
  refine law_mi (va_runV (As := []) (rest := []) ⟨hx, hb, hml, hown, hts⟩ (M_thrown l D cI cL cZ cA cB H.size ad2 T1) (cwV 0 hts (lw_gV q_1018 q_1019 q_1020 q_42 q_1021) rfl rfl rfl (by decide +kernel) ⟨Nat.le_trans (Nat.le_of_ble_eq_true rfl) hR1, Nat.le_trans (Nat.le_of_ble_eq_true rfl) hR2⟩) (su_pv hN hK hP hD [71, 72, 73, 74, 75, 76, 77, 78, 79, 80] [0, 1, 2, 3, 4] rfl rfl rfl (ci := 10) (q0 := 0) rfl rfl rfl) rfl rfl hl.1 rfl (lv_room (Nat.le_of_ble_eq_true rfl)) dL_law_2532 ⟨Nat.le_trans (by omega) hcc, Nat.le_trans (by omega) hss⟩) hP hD hS hA (fun r3 u H locs ht hP hD hS => ?_)
  obtain ⟨ht, hu⟩ := ht
  have hu := hu.symm
  subst hu
  obtain rfl : r3 = nI kk := ht.trans hw2.1
  have ht : nI kk = nI kk ∧ True := ⟨rfl, trivial⟩
  refine lv_iload hx hb dL_law_2535 (lv_at hl 1 rfl) ?_
  refine lv_icmp_eq (tgt := 2542) hx hb dL_law_2537 (by decide) (fun _ => ?_) (fun h9 => absurd (by first | exact ht.1 | rfl) h9)
  refine lv_iload hx hb dL_law_2542 (lv_at hl 1 rfl) ?_
  refine lv_if_ne (tgt := 2559) hx hb dL_law_2544 (by decide) (fun h9 => ?_) (fun h9 => ?_)
  · refine lv_goto (tgt := 2877) hx hb dL_law_2559 (by decide) ?_
    refine W.widen (k := cells + 2) (n := slots + 26) (by omega) (by omega) ?_
    exact kk9 S1 f1 fd T1 H locs ls (lawI_of hw.2.2.1 hw.2.2.2 hw2.2.2.1 hw2.2.2.2 hk0 hk1) hP hD hS (lv_sub hl [2, 3, 4, 5, 6, 7] rfl)
  · have hk := kk_0 hk4 h9
    have ho : f1 0 = v.toInt64 := hw.2.1 hk
    have hv2 := hw2.2.1 hk
    refine lv_aload_n hx hb dL_law_2547 rfl (lv_at hl 4 rfl) ?_
    refine lv_iconst (v := nI 0) hx hb dL_law_2548 (by decide) ?_
    refine su_lald hx hb hK hP 0 1 rfl rfl (i := 0) (by decide) (by decide) (f1 0) rfl dL_law_2549 ?_
    refine lv_iload hx hb dL_law_2550 (lv_at hl 0 rfl) ?_
    refine lv_i2l (v := r2.toInt64) hx hb dL_law_2552 rfl ?_
    refine W.lcmp hx hb dL_law_2553 ?_
    refine su_eqi 0 (by first | (rw [ho]; exact lg_self _) | (rw [ho, hv2]; exact lg_self _)) ?_
    refine lv_if_eq (tgt := 2559) hx hb dL_law_2554 (by decide) (fun _ => ?_) (fun h9 => absurd rfl h9)
    refine lv_goto (tgt := 2877) hx hb dL_law_2559 (by decide) ?_
    refine W.widen (k := cells + 2) (n := slots + 26) (by omega) (by omega) ?_
    exact kk9 S1 f1 fd T1 H locs ls (lawI_of hw.2.2.1 hw.2.2.2 hw2.2.2.1 hw2.2.2.2 hk0 hk1) hP hD hS (lv_sub hl [2, 3, 4, 5, 6, 7] rfl)
