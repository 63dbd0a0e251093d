set_option maxHeartbeats 4000000 in
set_option maxRecDepth 100000 in
theorem L_insert (l : Launch) (hfl : l.stackTraces = false) (D : va_G) (cI cL cZ : ClassId) (sz : Nat) (ad : Nat → Nat) (S : CS) (oo : Nat) (f : Nat → Int64) (ok0 : okL (su_lst (S.1 0) (S.2.1 0))) (ok1 : okL (su_lst (S.1 1) (S.2.1 1))) (x : Int32) (y : Int32) (z : Int32) (kk : Nat) (v : Int32) (L0 L1 : List Nat) (hr9 : su_h1 (fun g n => R_insert g n y z) (S.1 0) (S.2.1 0) (S.1 1) (S.2.1 1) x kk v L0 L1) :
    Met l yL_insert (wsH yL_insert cL_insert 6 (some .int) ([((0 : Nat), (12 : Nat), (15 : Nat), (13 : Nat)), ((0 : Nat), (12 : Nat), (19 : Nat), (15 : Nat)), ((0 : Nat), (12 : Nat), (23 : Nat), (17 : Nat))])) suRmW (su_prx D (su_T cI cL cZ) sz ((oo, .inl (cL, 1, .inr (.inl f))) :: clsW ad cI cL cZ S) [.ref (ad 0), .int x, .int y, .int z, .ref oo]) (su_qi D (va_A ((oo, .inl (cL, 1, .inr (.inl f))) :: clsW ad cI cL cZ S) sz) (fun (r : Int32) (u : CS × (Nat → Int64)) => r = nI kk ∧ (kk = 0 → u.2 0 = v.toInt64) ∧ su_lst (u.1.1 0) (u.1.2.1 0) = L0 ∧ su_lst (u.1.1 1) (u.1.2.1 1) = L1) (fun (u : CS × (Nat → Int64)) => (oo, .inl (cL, 1, .inr (.inl u.2))) :: clsW ad cI cL cZ u.1)) 1 6 (va_A ((oo, .inl (cL, 1, .inr (.inl f))) :: clsW ad cI cL cZ S) sz) := by
  refine su_metH (y := yL_insert) (av := [.ref (ad 0), .int x, .int y, .int z, .ref oo]) (Qf := fun A => su_qi D A (fun (r : Int32) (u : CS × (Nat → Int64)) => r = nI kk ∧ (kk = 0 → u.2 0 = v.toInt64) ∧ su_lst (u.1.1 0) (u.1.2.1 0) = L0 ∧ su_lst (u.1.1 1) (u.1.2.1 1) = L1) (fun (u : CS × (Nat → Int64)) => (oo, .inl (cL, 1, .inr (.inl u.2))) :: clsW ad cI cL cZ u.1)) (cc := cL_insert) (maxL := 6) (ret := (some .int)) (hh := ([((0 : Nat), (12 : Nat), (15 : Nat), (13 : Nat)), ((0 : Nat), (12 : Nat), (19 : Nat), (15 : Nat)), ((0 : Nat), (12 : Nat), (23 : Nat), (17 : Nat))])) (by decide) (Nat.le_of_ble_eq_true rfl) ?_
  intro p e s m args below meth c R Q A H locs ls hx hb hr hlocks hin hml hown hts hN hE htab hP hK hD hA hS hRm hQ hl
  have hown : s.vm.findClass RL = some m.cls := hown
  have hl : lv_has ls 6 [(0, .ref (ad 0)), (1, .int x), (2, .int y), (3, .int z), (4, .ref oo)] := hl
  have hR1 : 9 ≤ R.frames := by rw [hRm]; exact Nat.le_of_ble_eq_true rfl
  have hR2 : 320 ≤ R.locals := by rw [hRm]; exact Nat.le_of_ble_eq_true rfl
  have hR3 : 1 ≤ R.cells := by rw [hRm]; exact Nat.le_of_ble_eq_true rfl
  have hR4 : 6 ≤ R.slots := by rw [hRm]; exact Nat.le_of_ble_eq_true rfl
  refine lv_aload hx hb dL_insert_0 (lv_at hl 4 rfl) ?_
  refine lv_iconst (v := nI 0) hx hb dL_insert_2 (by decide) ?_
  refine lv_aload_n hx hb dL_insert_3 rfl (lv_at hl 0 rfl) ?_
  refine lv_iload_n hx hb dL_insert_4 rfl (lv_at hl 1 rfl) ?_
  refine lv_iload_n hx hb dL_insert_5 rfl (lv_at hl 2 rfl) ?_
  refine lv_iload_n hx hb dL_insert_6 rfl (lv_at hl 3 rfl) ?_
  refine su_cHi (wr := [(oo, .inl (cL, 1, .inr (.inl f)))]) (vx_runV (As := [.int x, .int y, .int z]) (rest := [.int (nI 0), .ref oo]) ⟨hx, hb, hml, hown, hts⟩ (K_insert l hfl D cI cL cZ H.size ad S ok0 ok1 x y z kk v L0 L1 hr9) (cwV 3 hts (lw_gV q_579 q_580 q_581 q_31 q_582) rfl rfl rfl (by decide +kernel) ⟨Nat.le_trans (Nat.le_of_ble_eq_true rfl) hR1, Nat.le_trans (Nat.le_of_ble_eq_true rfl) hR2⟩) (su_pvx hE hS hA hN hK hP hD [1, 2, 3, 4, 5, 6, 7, 8, 9, 10, 11, 12, 13, 14, 15, 16, 17, 18, 19, 20, 21, 22, 23, 24, 25, 26, 27, 28, 29, 30, 31, 32, 33, 34, 35, 36, 37, 38, 39, 40, 41, 42, 43, 44, 45, 46, 47, 48, 49, 50, 51, 52, 53, 54, 55, 56, 57, 58, 59, 60, 61, 62, 63, 64, 65, 66, 67, 68, 69] [0, 1, 2] rfl rfl rfl (ci := 9) (q0 := 0) rfl rfl rfl) rfl rfl hl.1 rfl (lv_room (Nat.le_of_ble_eq_true rfl)) dL_insert_7 ⟨Nat.le_trans (Nat.le_of_ble_eq_true rfl) hR3, Nat.le_trans (Nat.le_of_ble_eq_true rfl) hR4⟩) hP hD hS hA [1, 2, 3, 4, 5, 6, 7, 8, 9, 10, 11, 12, 13, 14, 15, 16, 17, 18, 19, 20, 21, 22, 23, 24, 25, 26, 27, 28, 29, 30, 31, 32, 33, 34, 35, 36, 37, 38, 39, 40, 41, 42, 43, 44, 45, 46, 47, 48, 49, 50, 51, 52, 53, 54, 55, 56, 57, 58, 59, 60, 61, 62, 63, 64, 65, 66, 67, 68, 69] [0] rfl rfl (by decide) (by decide) (fun E ce q9 u H locs hw hP hD hS hce hcv hcl => ?_) (fun r u H locs hw hP hD hS => ?_)
  · have hP : va_P D vwCl ((oo, .inl (cL, 1, .inr (.inl f))) :: clsW ad cI cL cZ u) H := hP
    have hD : va_D A ((oo, .inl (cL, 1, .inr (.inl f))) :: clsW ad cI cL cZ u) := hD
    rcases su_m3 hw.1 with ⟨rfl, rfl⟩ | ⟨rfl, rfl⟩ | ⟨rfl, rfl⟩
    · refine vx_catch (own := RL) (name := "java/lang/IndexOutOfBoundsException") hown [] ⟨0, 12, 15, 13⟩ [⟨0, 12, 19, 15⟩, ⟨0, 12, 23, 17⟩] (htab.trans rfl) (fun _ h => absurd h List.not_mem_nil) (by decide) (by decide) (hts _ q_446) (va_Nw.use (A := args) rfl (hN _ q_459)) hce hcv hcl ?_
      refine lv_astore (lv' := [(5, .ref q9), (0, .ref (ad 0)), (1, .int x), (2, .int y), (3, .int z), (4, .ref oo)]) hx hb dL_insert_15 hl (by decide) rfl (fun ls hl => ?_)
      refine lv_iconst (v := nI 1) hx hb dL_insert_17 (by decide) ?_
      rw [hQ]
      refine vx_ret ?_
      exact su_ei hx hb hr hlocks hS dL_insert_18 (u, f) (⟨rfl, fun q => absurd q (by decide), hw.2.1, hw.2.2⟩) hP hD
    · refine vx_catch (own := RL) (name := "java/lang/IllegalArgumentException") hown [⟨0, 12, 15, 13⟩] ⟨0, 12, 19, 15⟩ [⟨0, 12, 23, 17⟩] (htab.trans rfl) (List.forall_mem_cons.mpr ⟨Or.inr ⟨by decide, "java/lang/IndexOutOfBoundsException", hts _ q_446, hE.2.2.2 ("java/lang/IllegalArgumentException", "java/lang/IndexOutOfBoundsException") (by decide +kernel)⟩, fun _ h => absurd h List.not_mem_nil⟩) (by decide) (by decide) (hts _ q_447) (va_Nw.use (A := args) rfl (hN _ q_535)) hce hcv hcl ?_
      refine lv_astore (lv' := [(5, .ref q9), (0, .ref (ad 0)), (1, .int x), (2, .int y), (3, .int z), (4, .ref oo)]) hx hb dL_insert_19 hl (by decide) rfl (fun ls hl => ?_)
      refine lv_iconst (v := nI 2) hx hb dL_insert_21 (by decide) ?_
      rw [hQ]
      refine vx_ret ?_
      exact su_ei hx hb hr hlocks hS dL_insert_22 (u, f) (⟨rfl, fun q => absurd q (by decide), hw.2.1, hw.2.2⟩) hP hD
    · refine vx_catch (own := RL) (name := "java/lang/IllegalStateException") hown [⟨0, 12, 15, 13⟩, ⟨0, 12, 19, 15⟩] ⟨0, 12, 23, 17⟩ [] (htab.trans rfl) (List.forall_mem_cons.mpr ⟨Or.inr ⟨by decide, "java/lang/IndexOutOfBoundsException", hts _ q_446, hE.2.2.2 ("java/lang/IllegalStateException", "java/lang/IndexOutOfBoundsException") (by decide +kernel)⟩, List.forall_mem_cons.mpr ⟨Or.inr ⟨by decide, "java/lang/IllegalArgumentException", hts _ q_447, hE.2.2.2 ("java/lang/IllegalStateException", "java/lang/IllegalArgumentException") (by decide +kernel)⟩, fun _ h => absurd h List.not_mem_nil⟩⟩) (by decide) (by decide) (hts _ q_448) (va_Nw.use (A := args) rfl (hN _ q_555)) hce hcv hcl ?_
      refine lv_astore (lv' := [(5, .ref q9), (0, .ref (ad 0)), (1, .int x), (2, .int y), (3, .int z), (4, .ref oo)]) hx hb dL_insert_23 hl (by decide) rfl (fun ls hl => ?_)
      refine lv_iconst (v := nI 3) hx hb dL_insert_25 (by decide) ?_
      rw [hQ]
      refine vx_ret ?_
      exact su_ei hx hb hr hlocks hS dL_insert_26 (u, f) (⟨rfl, fun q => absurd q (by decide), hw.2.1, hw.2.2⟩) hP hD
  · have hP : va_P D vwCl ((oo, .inl (cL, 1, .inr (.inl f))) :: clsW ad cI cL cZ u) H := hP
    have hD : va_D A ((oo, .inl (cL, 1, .inr (.inl f))) :: clsW ad cI cL cZ u) := hD
    refine lv_i2l (v := r.toInt64) hx hb dL_insert_10 rfl ?_
    refine su_last hx hb hK hP hD hS 0 1 rfl rfl (i := 0) (by decide) (by decide) (fun _ => r.toInt64) (fun j hj => by first | rfl | (rw [show j = 0 by omega]; first | rfl | exact if_pos rfl)) dL_insert_11 (fun H locs hP hD hS => ?_)
    refine lv_goto (tgt := 27) hx hb dL_insert_12 (by decide) ?_
    refine lv_iconst (v := nI 0) hx hb dL_insert_27 (by decide) ?_
    rw [hQ]
    refine vx_ret ?_
    exact su_ei hx hb hr hlocks hS dL_insert_28 (u, fun _ => r.toInt64) (⟨by rw [hw.1.1], fun _ => by show _ = _; rw [← hw.1.2], hw.2.1, hw.2.2⟩) hP hD
set_option maxHeartbeats 4000000 in
set_option maxRecDepth 100000 in
theorem L_sort (l : Launch) (hfl : l.stackTraces = false) (D : va_G) (cI cL cZ : ClassId) (sz : Nat) (ad : Nat → Nat) (S : CS) (oo : Nat) (f : Nat → Int64) (ok0 : okL (su_lst (S.1 0) (S.2.1 0))) (ok1 : okL (su_lst (S.1 1) (S.2.1 1))) (x : Int32) (kk : Nat) (v : Int32) (L0 L1 : List Nat) (hr9 : su_h1 (fun g n => R_sort g n) (S.1 0) (S.2.1 0) (S.1 1) (S.2.1 1) x kk v L0 L1) :
    Met l yL_sort (wsH yL_sort cL_sort 4 (some .int) ([((0 : Nat), (9 : Nat), (12 : Nat), (13 : Nat))])) suRmW (su_prx D (su_T cI cL cZ) sz ((oo, .inl (cL, 1, .inr (.inl f))) :: clsW ad cI cL cZ S) [.ref (ad 0), .int x, .ref oo]) (su_qi D (va_A ((oo, .inl (cL, 1, .inr (.inl f))) :: clsW ad cI cL cZ S) sz) (fun (r : Int32) (u : CS × (Nat → Int64)) => r = nI kk ∧ (kk = 0 → u.2 0 = v.toInt64) ∧ su_lst (u.1.1 0) (u.1.2.1 0) = L0 ∧ su_lst (u.1.1 1) (u.1.2.1 1) = L1) (fun (u : CS × (Nat → Int64)) => (oo, .inl (cL, 1, .inr (.inl u.2))) :: clsW ad cI cL cZ u.1)) 1 6 (va_A ((oo, .inl (cL, 1, .inr (.inl f))) :: clsW ad cI cL cZ S) sz) := by
  refine su_metH (y := yL_sort) (av := [.ref (ad 0), .int x, .ref oo]) (Qf := fun A => su_qi D A (fun (r : Int32) (u : CS × (Nat → Int64)) => r = nI kk ∧ (kk = 0 → u.2 0 = v.toInt64) ∧ su_lst (u.1.1 0) (u.1.2.1 0) = L0 ∧ su_lst (u.1.1 1) (u.1.2.1 1) = L1) (fun (u : CS × (Nat → Int64)) => (oo, .inl (cL, 1, .inr (.inl u.2))) :: clsW ad cI cL cZ u.1)) (cc := cL_sort) (maxL := 4) (ret := (some .int)) (hh := ([((0 : Nat), (9 : Nat), (12 : Nat), (13 : Nat))])) (by decide) (Nat.le_of_ble_eq_true rfl) ?_
  intro p e s m args below meth c R Q A H locs ls hx hb hr hlocks hin hml hown hts hN hE htab hP hK hD hA hS hRm hQ hl
  have hown : s.vm.findClass RL = some m.cls := hown
  have hl : lv_has ls 4 [(0, .ref (ad 0)), (1, .int x), (2, .ref oo)] := hl
  have hR1 : 9 ≤ R.frames := by rw [hRm]; exact Nat.le_of_ble_eq_true rfl
  have hR2 : 320 ≤ R.locals := by rw [hRm]; exact Nat.le_of_ble_eq_true rfl
  have hR3 : 1 ≤ R.cells := by rw [hRm]; exact Nat.le_of_ble_eq_true rfl
  have hR4 : 6 ≤ R.slots := by rw [hRm]; exact Nat.le_of_ble_eq_true rfl
  refine lv_aload_n hx hb dL_sort_0 rfl (lv_at hl 2 rfl) ?_
  refine lv_iconst (v := nI 0) hx hb dL_sort_1 (by decide) ?_
  refine lv_aload_n hx hb dL_sort_2 rfl (lv_at hl 0 rfl) ?_
  refine lv_iload_n hx hb dL_sort_3 rfl (lv_at hl 1 rfl) ?_
  refine su_cHi (wr := [(oo, .inl (cL, 1, .inr (.inl f)))]) (vx_runV (As := [.int x]) (rest := [.int (nI 0), .ref oo]) ⟨hx, hb, hml, hown, hts⟩ (K_sort l hfl D cI cL cZ H.size ad S ok0 ok1 x kk v L0 L1 hr9) (cwV 1 hts (lw_gV q_621 q_622 q_623 q_31 q_624) rfl rfl rfl (by decide +kernel) ⟨Nat.le_trans (Nat.le_of_ble_eq_true rfl) hR1, Nat.le_trans (Nat.le_of_ble_eq_true rfl) hR2⟩) (su_pvx hE hS hA hN hK hP hD [1, 2, 3, 4, 5, 6, 7, 8, 9, 10, 11, 12, 13, 14, 15, 16, 17, 18, 19, 20, 21, 22, 23, 24, 25, 26, 27, 28, 29, 30, 31, 32, 33, 34, 35, 36, 37, 38, 39, 40, 41, 42, 43, 44, 45, 46, 47, 48, 49, 50, 51, 52, 53, 54, 55, 56, 57, 58, 59, 60, 61, 62, 63, 64, 65, 66, 67, 68, 69] [0, 1, 2] rfl rfl rfl (ci := 9) (q0 := 0) rfl rfl rfl) rfl rfl hl.1 rfl (lv_room (Nat.le_of_ble_eq_true rfl)) dL_sort_4 ⟨Nat.le_trans (Nat.le_of_ble_eq_true rfl) hR3, Nat.le_trans (Nat.le_of_ble_eq_true rfl) hR4⟩) hP hD hS hA [1, 2, 3, 4, 5, 6, 7, 8, 9, 10, 11, 12, 13, 14, 15, 16, 17, 18, 19, 20, 21, 22, 23, 24, 25, 26, 27, 28, 29, 30, 31, 32, 33, 34, 35, 36, 37, 38, 39, 40, 41, 42, 43, 44, 45, 46, 47, 48, 49, 50, 51, 52, 53, 54, 55, 56, 57, 58, 59, 60, 61, 62, 63, 64, 65, 66, 67, 68, 69] [0] rfl rfl (by decide) (by decide) (fun E ce q9 u H locs hw hP hD hS hce hcv hcl => ?_) (fun r u H locs hw hP hD hS => ?_)
  · have hP : va_P D vwCl ((oo, .inl (cL, 1, .inr (.inl f))) :: clsW ad cI cL cZ u) H := hP
    have hD : va_D A ((oo, .inl (cL, 1, .inr (.inl f))) :: clsW ad cI cL cZ u) := hD
    obtain ⟨rfl, rfl⟩ := su_m1 hw.1
    refine vx_catch (own := RL) (name := "java/lang/IndexOutOfBoundsException") hown [] ⟨0, 9, 12, 13⟩ [] (htab.trans rfl) (fun _ h => absurd h List.not_mem_nil) (by decide) (by decide) (hts _ q_446) (va_Nw.use (A := args) rfl (hN _ q_459)) hce hcv hcl ?_
    refine lv_astore_n (lv' := [(3, .ref q9), (0, .ref (ad 0)), (1, .int x), (2, .ref oo)]) hx hb dL_sort_12 rfl hl (by decide) rfl (fun ls hl => ?_)
    refine lv_iconst (v := nI 1) hx hb dL_sort_13 (by decide) ?_
    rw [hQ]
    refine vx_ret ?_
    exact su_ei hx hb hr hlocks hS dL_sort_14 (u, f) (⟨rfl, fun q => absurd q (by decide), hw.2.1, hw.2.2⟩) hP hD
  · have hP : va_P D vwCl ((oo, .inl (cL, 1, .inr (.inl f))) :: clsW ad cI cL cZ u) H := hP
    have hD : va_D A ((oo, .inl (cL, 1, .inr (.inl f))) :: clsW ad cI cL cZ u) := hD
    refine lv_i2l (v := r.toInt64) hx hb dL_sort_7 rfl ?_
    refine su_last hx hb hK hP hD hS 0 1 rfl rfl (i := 0) (by decide) (by decide) (fun _ => r.toInt64) (fun j hj => by first | rfl | (rw [show j = 0 by omega]; first | rfl | exact if_pos rfl)) dL_sort_8 (fun H locs hP hD hS => ?_)
    refine lv_goto (tgt := 15) hx hb dL_sort_9 (by decide) ?_
    refine lv_iconst (v := nI 0) hx hb dL_sort_15 (by decide) ?_
    rw [hQ]
    refine vx_ret ?_
    exact su_ei hx hb hr hlocks hS dL_sort_16 (u, fun _ => r.toInt64) (⟨by rw [hw.1.1], fun _ => by show _ = _; rw [← hw.1.2], hw.2.1, hw.2.2⟩) hP hD
set_option maxHeartbeats 4000000 in
set_option maxRecDepth 100000 in
theorem L_total (l : Launch) (hfl : l.stackTraces = false) (D : va_G) (cI cL cZ : ClassId) (sz : Nat) (ad : Nat → Nat) (S : CS) (oo : Nat) (f : Nat → Int64) (ok0 : okL (su_lst (S.1 0) (S.2.1 0))) (ok1 : okL (su_lst (S.1 1) (S.2.1 1))) (x : Int32) (kk : Nat) (v : Int32) (L0 L1 : List Nat) (hr9 : su_h1 (fun g n => R_total g n) (S.1 0) (S.2.1 0) (S.1 1) (S.2.1 1) x kk v L0 L1) :
    Met l yL_total (wsH yL_total cL_total 4 (some .int) ([((0 : Nat), (9 : Nat), (12 : Nat), (13 : Nat))])) suRmW (su_prx D (su_T cI cL cZ) sz ((oo, .inl (cL, 1, .inr (.inl f))) :: clsW ad cI cL cZ S) [.ref (ad 0), .int x, .ref oo]) (su_qi D (va_A ((oo, .inl (cL, 1, .inr (.inl f))) :: clsW ad cI cL cZ S) sz) (fun (r : Int32) (u : CS × (Nat → Int64)) => r = nI kk ∧ (kk = 0 → u.2 0 = v.toInt64) ∧ su_lst (u.1.1 0) (u.1.2.1 0) = L0 ∧ su_lst (u.1.1 1) (u.1.2.1 1) = L1) (fun (u : CS × (Nat → Int64)) => (oo, .inl (cL, 1, .inr (.inl u.2))) :: clsW ad cI cL cZ u.1)) 1 6 (va_A ((oo, .inl (cL, 1, .inr (.inl f))) :: clsW ad cI cL cZ S) sz) := by
  refine su_metH (y := yL_total) (av := [.ref (ad 0), .int x, .ref oo]) (Qf := fun A => su_qi D A (fun (r : Int32) (u : CS × (Nat → Int64)) => r = nI kk ∧ (kk = 0 → u.2 0 = v.toInt64) ∧ su_lst (u.1.1 0) (u.1.2.1 0) = L0 ∧ su_lst (u.1.1 1) (u.1.2.1 1) = L1) (fun (u : CS × (Nat → Int64)) => (oo, .inl (cL, 1, .inr (.inl u.2))) :: clsW ad cI cL cZ u.1)) (cc := cL_total) (maxL := 4) (ret := (some .int)) (hh := ([((0 : Nat), (9 : Nat), (12 : Nat), (13 : Nat))])) (by decide) (Nat.le_of_ble_eq_true rfl) ?_
  intro p e s m args below meth c R Q A H locs ls hx hb hr hlocks hin hml hown hts hN hE htab hP hK hD hA hS hRm hQ hl
  have hown : s.vm.findClass RL = some m.cls := hown
  have hl : lv_has ls 4 [(0, .ref (ad 0)), (1, .int x), (2, .ref oo)] := hl
  have hR1 : 9 ≤ R.frames := by rw [hRm]; exact Nat.le_of_ble_eq_true rfl
  have hR2 : 320 ≤ R.locals := by rw [hRm]; exact Nat.le_of_ble_eq_true rfl
  have hR3 : 1 ≤ R.cells := by rw [hRm]; exact Nat.le_of_ble_eq_true rfl
  have hR4 : 6 ≤ R.slots := by rw [hRm]; exact Nat.le_of_ble_eq_true rfl
  refine lv_aload_n hx hb dL_total_0 rfl (lv_at hl 2 rfl) ?_
  refine lv_iconst (v := nI 0) hx hb dL_total_1 (by decide) ?_
  refine lv_aload_n hx hb dL_total_2 rfl (lv_at hl 0 rfl) ?_
  refine lv_iload_n hx hb dL_total_3 rfl (lv_at hl 1 rfl) ?_
  refine su_cHi (wr := [(oo, .inl (cL, 1, .inr (.inl f)))]) (vx_runV (As := [.int x]) (rest := [.int (nI 0), .ref oo]) ⟨hx, hb, hml, hown, hts⟩ (K_total l hfl D cI cL cZ H.size ad S ok0 ok1 x kk v L0 L1 hr9) (cwV 1 hts (lw_gV q_674 q_675 q_676 q_31 q_677) rfl rfl rfl (by decide +kernel) ⟨Nat.le_trans (Nat.le_of_ble_eq_true rfl) hR1, Nat.le_trans (Nat.le_of_ble_eq_true rfl) hR2⟩) (su_pvx hE hS hA hN hK hP hD [1, 2, 3, 4, 5, 6, 7, 8, 9, 10, 11, 12, 13, 14, 15, 16, 17, 18, 19, 20, 21, 22, 23, 24, 25, 26, 27, 28, 29, 30, 31, 32, 33, 34, 35, 36, 37, 38, 39, 40, 41, 42, 43, 44, 45, 46, 47, 48, 49, 50, 51, 52, 53, 54, 55, 56, 57, 58, 59, 60, 61, 62, 63, 64, 65, 66, 67, 68, 69] [0, 1, 2] rfl rfl rfl (ci := 9) (q0 := 0) rfl rfl rfl) rfl rfl hl.1 rfl (lv_room (Nat.le_of_ble_eq_true rfl)) dL_total_4 ⟨Nat.le_trans (Nat.le_of_ble_eq_true rfl) hR3, Nat.le_trans (Nat.le_of_ble_eq_true rfl) hR4⟩) hP hD hS hA [1, 2, 3, 4, 5, 6, 7, 8, 9, 10, 11, 12, 13, 14, 15, 16, 17, 18, 19, 20, 21, 22, 23, 24, 25, 26, 27, 28, 29, 30, 31, 32, 33, 34, 35, 36, 37, 38, 39, 40, 41, 42, 43, 44, 45, 46, 47, 48, 49, 50, 51, 52, 53, 54, 55, 56, 57, 58, 59, 60, 61, 62, 63, 64, 65, 66, 67, 68, 69] [0] rfl rfl (by decide) (by decide) (fun E ce q9 u H locs hw hP hD hS hce hcv hcl => ?_) (fun r u H locs hw hP hD hS => ?_)
  · have hP : va_P D vwCl ((oo, .inl (cL, 1, .inr (.inl f))) :: clsW ad cI cL cZ u) H := hP
    have hD : va_D A ((oo, .inl (cL, 1, .inr (.inl f))) :: clsW ad cI cL cZ u) := hD
    obtain ⟨rfl, rfl⟩ := su_m1 hw.1
    refine vx_catch (own := RL) (name := "java/lang/IndexOutOfBoundsException") hown [] ⟨0, 9, 12, 13⟩ [] (htab.trans rfl) (fun _ h => absurd h List.not_mem_nil) (by decide) (by decide) (hts _ q_446) (va_Nw.use (A := args) rfl (hN _ q_459)) hce hcv hcl ?_
    refine lv_astore_n (lv' := [(3, .ref q9), (0, .ref (ad 0)), (1, .int x), (2, .ref oo)]) hx hb dL_total_12 rfl hl (by decide) rfl (fun ls hl => ?_)
    refine lv_iconst (v := nI 1) hx hb dL_total_13 (by decide) ?_
    rw [hQ]
    refine vx_ret ?_
    exact su_ei hx hb hr hlocks hS dL_total_14 (u, f) (⟨rfl, fun q => absurd q (by decide), hw.2.1, hw.2.2⟩) hP hD
  · have hP : va_P D vwCl ((oo, .inl (cL, 1, .inr (.inl f))) :: clsW ad cI cL cZ u) H := hP
    have hD : va_D A ((oo, .inl (cL, 1, .inr (.inl f))) :: clsW ad cI cL cZ u) := hD
    refine lv_i2l (v := r.toInt64) hx hb dL_total_7 rfl ?_
    refine su_last hx hb hK hP hD hS 0 1 rfl rfl (i := 0) (by decide) (by decide) (fun _ => r.toInt64) (fun j hj => by first | rfl | (rw [show j = 0 by omega]; first | rfl | exact if_pos rfl)) dL_total_8 (fun H locs hP hD hS => ?_)
    refine lv_goto (tgt := 15) hx hb dL_total_9 (by decide) ?_
    refine lv_iconst (v := nI 0) hx hb dL_total_15 (by decide) ?_
    rw [hQ]
    refine vx_ret ?_
    exact su_ei hx hb hr hlocks hS dL_total_16 (u, fun _ => r.toInt64) (⟨by rw [hw.1.1], fun _ => by show _ = _; rw [← hw.1.2], hw.2.1, hw.2.2⟩) hP hD
set_option maxHeartbeats 4000000 in
set_option maxRecDepth 100000 in
theorem L_previous (l : Launch) (hfl : l.stackTraces = false) (D : va_G) (cI cL cZ : ClassId) (sz : Nat) (ad : Nat → Nat) (S : CS) (oo : Nat) (f : Nat → Int64) (ok0 : okL (su_lst (S.1 0) (S.2.1 0))) (ok1 : okL (su_lst (S.1 1) (S.2.1 1))) (x : Int32) (y : Int32) (b : Bool) (kk : Nat) (v : Int32) (L0 L1 : List Nat) (hr9 : su_h1 (fun g n => R_previous g n y b) (S.1 0) (S.2.1 0) (S.1 1) (S.2.1 1) x kk v L0 L1) :
    Met l yL_previous (wsH yL_previous cL_previous 6 (some .int) ([((0 : Nat), (12 : Nat), (15 : Nat), (13 : Nat)), ((0 : Nat), (12 : Nat), (19 : Nat), (15 : Nat))])) suRmW (su_prx D (su_T cI cL cZ) sz ((oo, .inl (cL, 1, .inr (.inl f))) :: clsW ad cI cL cZ S) [.ref (ad 0), .int x, .int y, .int (bI b), .ref oo]) (su_qi D (va_A ((oo, .inl (cL, 1, .inr (.inl f))) :: clsW ad cI cL cZ S) sz) (fun (r : Int32) (u : CS × (Nat → Int64)) => r = nI kk ∧ (kk = 0 → u.2 0 = v.toInt64) ∧ su_lst (u.1.1 0) (u.1.2.1 0) = L0 ∧ su_lst (u.1.1 1) (u.1.2.1 1) = L1) (fun (u : CS × (Nat → Int64)) => (oo, .inl (cL, 1, .inr (.inl u.2))) :: clsW ad cI cL cZ u.1)) 1 6 (va_A ((oo, .inl (cL, 1, .inr (.inl f))) :: clsW ad cI cL cZ S) sz) := by
  refine su_metH (y := yL_previous) (av := [.ref (ad 0), .int x, .int y, .int (bI b), .ref oo]) (Qf := fun A => su_qi D A (fun (r : Int32) (u : CS × (Nat → Int64)) => r = nI kk ∧ (kk = 0 → u.2 0 = v.toInt64) ∧ su_lst (u.1.1 0) (u.1.2.1 0) = L0 ∧ su_lst (u.1.1 1) (u.1.2.1 1) = L1) (fun (u : CS × (Nat → Int64)) => (oo, .inl (cL, 1, .inr (.inl u.2))) :: clsW ad cI cL cZ u.1)) (cc := cL_previous) (maxL := 6) (ret := (some .int)) (hh := ([((0 : Nat), (12 : Nat), (15 : Nat), (13 : Nat)), ((0 : Nat), (12 : Nat), (19 : Nat), (15 : Nat))])) (by decide) (Nat.le_of_ble_eq_true rfl) ?_
  intro p e s m args below meth c R Q A H locs ls hx hb hr hlocks hin hml hown hts hN hE htab hP hK hD hA hS hRm hQ hl
  have hown : s.vm.findClass RL = some m.cls := hown
  have hl : lv_has ls 6 [(0, .ref (ad 0)), (1, .int x), (2, .int y), (3, .int (bI b)), (4, .ref oo)] := hl
  have hR1 : 9 ≤ R.frames := by rw [hRm]; exact Nat.le_of_ble_eq_true rfl
  have hR2 : 320 ≤ R.locals := by rw [hRm]; exact Nat.le_of_ble_eq_true rfl
  have hR3 : 1 ≤ R.cells := by rw [hRm]; exact Nat.le_of_ble_eq_true rfl
  have hR4 : 6 ≤ R.slots := by rw [hRm]; exact Nat.le_of_ble_eq_true rfl
  refine lv_aload hx hb dL_previous_0 (lv_at hl 4 rfl) ?_
  refine lv_iconst (v := nI 0) hx hb dL_previous_2 (by decide) ?_
  refine lv_aload_n hx hb dL_previous_3 rfl (lv_at hl 0 rfl) ?_
  refine lv_iload_n hx hb dL_previous_4 rfl (lv_at hl 1 rfl) ?_
  refine lv_iload_n hx hb dL_previous_5 rfl (lv_at hl 2 rfl) ?_
  refine lv_iload_n hx hb dL_previous_6 rfl (lv_at hl 3 rfl) ?_
  refine su_cHi (wr := [(oo, .inl (cL, 1, .inr (.inl f)))]) (vx_runV (As := [.int x, .int y, .int (bI b)]) (rest := [.int (nI 0), .ref oo]) ⟨hx, hb, hml, hown, hts⟩ (K_previous l hfl D cI cL cZ H.size ad S ok0 ok1 x y b kk v L0 L1 hr9) (cwV 3 hts (lw_gV q_739 q_740 q_741 q_31 q_742) rfl rfl rfl (by decide +kernel) ⟨Nat.le_trans (Nat.le_of_ble_eq_true rfl) hR1, Nat.le_trans (Nat.le_of_ble_eq_true rfl) hR2⟩) (su_pvx hE hS hA hN hK hP hD [1, 2, 3, 4, 5, 6, 7, 8, 9, 10, 11, 12, 13, 14, 15, 16, 17, 18, 19, 20, 21, 22, 23, 24, 25, 26, 27, 28, 29, 30, 31, 32, 33, 34, 35, 36, 37, 38, 39, 40, 41, 42, 43, 44, 45, 46, 47, 48, 49, 50, 51, 52, 53, 54, 55, 56, 57, 58, 59, 60, 61, 62, 63, 64, 65, 66, 67, 68, 69] [0, 1, 2] rfl rfl rfl (ci := 9) (q0 := 0) rfl rfl rfl) rfl rfl hl.1 rfl (lv_room (Nat.le_of_ble_eq_true rfl)) dL_previous_7 ⟨Nat.le_trans (Nat.le_of_ble_eq_true rfl) hR3, Nat.le_trans (Nat.le_of_ble_eq_true rfl) hR4⟩) hP hD hS hA [1, 2, 3, 4, 5, 6, 7, 8, 9, 10, 11, 12, 13, 14, 15, 16, 17, 18, 19, 20, 21, 22, 23, 24, 25, 26, 27, 28, 29, 30, 31, 32, 33, 34, 35, 36, 37, 38, 39, 40, 41, 42, 43, 44, 45, 46, 47, 48, 49, 50, 51, 52, 53, 54, 55, 56, 57, 58, 59, 60, 61, 62, 63, 64, 65, 66, 67, 68, 69] [0] rfl rfl (by decide) (by decide) (fun E ce q9 u H locs hw hP hD hS hce hcv hcl => ?_) (fun r u H locs hw hP hD hS => ?_)
  · have hP : va_P D vwCl ((oo, .inl (cL, 1, .inr (.inl f))) :: clsW ad cI cL cZ u) H := hP
    have hD : va_D A ((oo, .inl (cL, 1, .inr (.inl f))) :: clsW ad cI cL cZ u) := hD
    rcases su_m2 hw.1 with ⟨rfl, rfl⟩ | ⟨rfl, rfl⟩
    · refine vx_catch (own := RL) (name := "java/lang/IndexOutOfBoundsException") hown [] ⟨0, 12, 15, 13⟩ [⟨0, 12, 19, 15⟩] (htab.trans rfl) (fun _ h => absurd h List.not_mem_nil) (by decide) (by decide) (hts _ q_446) (va_Nw.use (A := args) rfl (hN _ q_459)) hce hcv hcl ?_
      refine lv_astore (lv' := [(5, .ref q9), (0, .ref (ad 0)), (1, .int x), (2, .int y), (3, .int (bI b)), (4, .ref oo)]) hx hb dL_previous_15 hl (by decide) rfl (fun ls hl => ?_)
      refine lv_iconst (v := nI 1) hx hb dL_previous_17 (by decide) ?_
      rw [hQ]
      refine vx_ret ?_
      exact su_ei hx hb hr hlocks hS dL_previous_18 (u, f) (⟨rfl, fun q => absurd q (by decide), hw.2.1, hw.2.2⟩) hP hD
    · refine vx_catch (own := RL) (name := "java/lang/IllegalArgumentException") hown [⟨0, 12, 15, 13⟩] ⟨0, 12, 19, 15⟩ [] (htab.trans rfl) (List.forall_mem_cons.mpr ⟨Or.inr ⟨by decide, "java/lang/IndexOutOfBoundsException", hts _ q_446, hE.2.2.2 ("java/lang/IllegalArgumentException", "java/lang/IndexOutOfBoundsException") (by decide +kernel)⟩, fun _ h => absurd h List.not_mem_nil⟩) (by decide) (by decide) (hts _ q_447) (va_Nw.use (A := args) rfl (hN _ q_535)) hce hcv hcl ?_
      refine lv_astore (lv' := [(5, .ref q9), (0, .ref (ad 0)), (1, .int x), (2, .int y), (3, .int (bI b)), (4, .ref oo)]) hx hb dL_previous_19 hl (by decide) rfl (fun ls hl => ?_)
      refine lv_iconst (v := nI 2) hx hb dL_previous_21 (by decide) ?_
      rw [hQ]
      refine vx_ret ?_
      exact su_ei hx hb hr hlocks hS dL_previous_22 (u, f) (⟨rfl, fun q => absurd q (by decide), hw.2.1, hw.2.2⟩) hP hD
  · have hP : va_P D vwCl ((oo, .inl (cL, 1, .inr (.inl f))) :: clsW ad cI cL cZ u) H := hP
    have hD : va_D A ((oo, .inl (cL, 1, .inr (.inl f))) :: clsW ad cI cL cZ u) := hD
    refine lv_i2l (v := r.toInt64) hx hb dL_previous_10 rfl ?_
    refine su_last hx hb hK hP hD hS 0 1 rfl rfl (i := 0) (by decide) (by decide) (fun _ => r.toInt64) (fun j hj => by first | rfl | (rw [show j = 0 by omega]; first | rfl | exact if_pos rfl)) dL_previous_11 (fun H locs hP hD hS => ?_)
    refine lv_goto (tgt := 23) hx hb dL_previous_12 (by decide) ?_
    refine lv_iconst (v := nI 0) hx hb dL_previous_23 (by decide) ?_
    rw [hQ]
    refine vx_ret ?_
    exact su_ei hx hb hr hlocks hS dL_previous_24 (u, fun _ => r.toInt64) (⟨by rw [hw.1.1], fun _ => by show _ = _; rw [← hw.1.2], hw.2.1, hw.2.2⟩) hP hD
set_option maxHeartbeats 4000000 in
set_option maxRecDepth 100000 in
theorem L_most (l : Launch) (hfl : l.stackTraces = false) (D : va_G) (cI cL cZ : ClassId) (sz : Nat) (ad : Nat → Nat) (S : CS) (oo : Nat) (f : Nat → Int64) (ok0 : okL (su_lst (S.1 0) (S.2.1 0))) (ok1 : okL (su_lst (S.1 1) (S.2.1 1))) (x : Int32) (kk : Nat) (v : Int32) (L0 L1 : List Nat) (hr9 : su_h1 (fun g n => R_most g n) (S.1 0) (S.2.1 0) (S.1 1) (S.2.1 1) x kk v L0 L1) :
    Met l yL_most (wsH yL_most cL_most 4 (some .int) ([((0 : Nat), (9 : Nat), (12 : Nat), (13 : Nat))])) suRmW (su_prx D (su_T cI cL cZ) sz ((oo, .inl (cL, 1, .inr (.inl f))) :: clsW ad cI cL cZ S) [.ref (ad 0), .int x, .ref oo]) (su_qi D (va_A ((oo, .inl (cL, 1, .inr (.inl f))) :: clsW ad cI cL cZ S) sz) (fun (r : Int32) (u : CS × (Nat → Int64)) => r = nI kk ∧ (kk = 0 → u.2 0 = v.toInt64) ∧ su_lst (u.1.1 0) (u.1.2.1 0) = L0 ∧ su_lst (u.1.1 1) (u.1.2.1 1) = L1) (fun (u : CS × (Nat → Int64)) => (oo, .inl (cL, 1, .inr (.inl u.2))) :: clsW ad cI cL cZ u.1)) 1 6 (va_A ((oo, .inl (cL, 1, .inr (.inl f))) :: clsW ad cI cL cZ S) sz) := by
  refine su_metH (y := yL_most) (av := [.ref (ad 0), .int x, .ref oo]) (Qf := fun A => su_qi D A (fun (r : Int32) (u : CS × (Nat → Int64)) => r = nI kk ∧ (kk = 0 → u.2 0 = v.toInt64) ∧ su_lst (u.1.1 0) (u.1.2.1 0) = L0 ∧ su_lst (u.1.1 1) (u.1.2.1 1) = L1) (fun (u : CS × (Nat → Int64)) => (oo, .inl (cL, 1, .inr (.inl u.2))) :: clsW ad cI cL cZ u.1)) (cc := cL_most) (maxL := 4) (ret := (some .int)) (hh := ([((0 : Nat), (9 : Nat), (12 : Nat), (13 : Nat))])) (by decide) (Nat.le_of_ble_eq_true rfl) ?_
  intro p e s m args below meth c R Q A H locs ls hx hb hr hlocks hin hml hown hts hN hE htab hP hK hD hA hS hRm hQ hl
  have hown : s.vm.findClass RL = some m.cls := hown
  have hl : lv_has ls 4 [(0, .ref (ad 0)), (1, .int x), (2, .ref oo)] := hl
  have hR1 : 9 ≤ R.frames := by rw [hRm]; exact Nat.le_of_ble_eq_true rfl
  have hR2 : 320 ≤ R.locals := by rw [hRm]; exact Nat.le_of_ble_eq_true rfl
  have hR3 : 1 ≤ R.cells := by rw [hRm]; exact Nat.le_of_ble_eq_true rfl
  have hR4 : 6 ≤ R.slots := by rw [hRm]; exact Nat.le_of_ble_eq_true rfl
  refine lv_aload_n hx hb dL_most_0 rfl (lv_at hl 2 rfl) ?_
  refine lv_iconst (v := nI 0) hx hb dL_most_1 (by decide) ?_
  refine lv_aload_n hx hb dL_most_2 rfl (lv_at hl 0 rfl) ?_
  refine lv_iload_n hx hb dL_most_3 rfl (lv_at hl 1 rfl) ?_
  refine su_cHi (wr := [(oo, .inl (cL, 1, .inr (.inl f)))]) (vx_runV (As := [.int x]) (rest := [.int (nI 0), .ref oo]) ⟨hx, hb, hml, hown, hts⟩ (K_most l hfl D cI cL cZ H.size ad S ok0 ok1 x kk v L0 L1 hr9) (cwV 1 hts (lw_gV q_768 q_769 q_770 q_31 q_771) rfl rfl rfl (by decide +kernel) ⟨Nat.le_trans (Nat.le_of_ble_eq_true rfl) hR1, Nat.le_trans (Nat.le_of_ble_eq_true rfl) hR2⟩) (su_pvx hE hS hA hN hK hP hD [1, 2, 3, 4, 5, 6, 7, 8, 9, 10, 11, 12, 13, 14, 15, 16, 17, 18, 19, 20, 21, 22, 23, 24, 25, 26, 27, 28, 29, 30, 31, 32, 33, 34, 35, 36, 37, 38, 39, 40, 41, 42, 43, 44, 45, 46, 47, 48, 49, 50, 51, 52, 53, 54, 55, 56, 57, 58, 59, 60, 61, 62, 63, 64, 65, 66, 67, 68, 69] [0, 1, 2] rfl rfl rfl (ci := 9) (q0 := 0) rfl rfl rfl) rfl rfl hl.1 rfl (lv_room (Nat.le_of_ble_eq_true rfl)) dL_most_4 ⟨Nat.le_trans (Nat.le_of_ble_eq_true rfl) hR3, Nat.le_trans (Nat.le_of_ble_eq_true rfl) hR4⟩) hP hD hS hA [1, 2, 3, 4, 5, 6, 7, 8, 9, 10, 11, 12, 13, 14, 15, 16, 17, 18, 19, 20, 21, 22, 23, 24, 25, 26, 27, 28, 29, 30, 31, 32, 33, 34, 35, 36, 37, 38, 39, 40, 41, 42, 43, 44, 45, 46, 47, 48, 49, 50, 51, 52, 53, 54, 55, 56, 57, 58, 59, 60, 61, 62, 63, 64, 65, 66, 67, 68, 69] [0] rfl rfl (by decide) (by decide) (fun E ce q9 u H locs hw hP hD hS hce hcv hcl => ?_) (fun r u H locs hw hP hD hS => ?_)
  · have hP : va_P D vwCl ((oo, .inl (cL, 1, .inr (.inl f))) :: clsW ad cI cL cZ u) H := hP
    have hD : va_D A ((oo, .inl (cL, 1, .inr (.inl f))) :: clsW ad cI cL cZ u) := hD
    obtain ⟨rfl, rfl⟩ := su_m1 hw.1
    refine vx_catch (own := RL) (name := "java/lang/IndexOutOfBoundsException") hown [] ⟨0, 9, 12, 13⟩ [] (htab.trans rfl) (fun _ h => absurd h List.not_mem_nil) (by decide) (by decide) (hts _ q_446) (va_Nw.use (A := args) rfl (hN _ q_459)) hce hcv hcl ?_
    refine lv_astore_n (lv' := [(3, .ref q9), (0, .ref (ad 0)), (1, .int x), (2, .ref oo)]) hx hb dL_most_12 rfl hl (by decide) rfl (fun ls hl => ?_)
    refine lv_iconst (v := nI 1) hx hb dL_most_13 (by decide) ?_
    rw [hQ]
    refine vx_ret ?_
    exact su_ei hx hb hr hlocks hS dL_most_14 (u, f) (⟨rfl, fun q => absurd q (by decide), hw.2.1, hw.2.2⟩) hP hD
  · have hP : va_P D vwCl ((oo, .inl (cL, 1, .inr (.inl f))) :: clsW ad cI cL cZ u) H := hP
    have hD : va_D A ((oo, .inl (cL, 1, .inr (.inl f))) :: clsW ad cI cL cZ u) := hD
    refine lv_i2l (v := r.toInt64) hx hb dL_most_7 rfl ?_
    refine su_last hx hb hK hP hD hS 0 1 rfl rfl (i := 0) (by decide) (by decide) (fun _ => r.toInt64) (fun j hj => by first | rfl | (rw [show j = 0 by omega]; first | rfl | exact if_pos rfl)) dL_most_8 (fun H locs hP hD hS => ?_)
    refine lv_goto (tgt := 15) hx hb dL_most_9 (by decide) ?_
    refine lv_iconst (v := nI 0) hx hb dL_most_15 (by decide) ?_
    rw [hQ]
    refine vx_ret ?_
    exact su_ei hx hb hr hlocks hS dL_most_16 (u, fun _ => r.toInt64) (⟨by rw [hw.1.1], fun _ => by show _ = _; rw [← hw.1.2], hw.2.1, hw.2.2⟩) hP hD
set_option maxHeartbeats 4000000 in
set_option maxRecDepth 100000 in
theorem L_share (l : Launch) (hfl : l.stackTraces = false) (D : va_G) (cI cL cZ : ClassId) (cO : ClassId) (sz : Nat) (ad : Nat → Nat) (S : CS) (oo : Nat) (f : Nat → UInt64) (ok0 : okL (su_lst (S.1 0) (S.2.1 0))) (ok1 : okL (su_lst (S.1 1) (S.2.1 1))) (x : Int32) (kk : Nat) (v : UInt32) (L0 L1 : List Nat) (hr9 : su_h1 (fun g n => R_share g n) (S.1 0) (S.2.1 0) (S.1 1) (S.2.1 1) x kk v L0 L1) :
    Met l yL_share (wsH yL_share cL_share 4 (some .int) ([((0 : Nat), (9 : Nat), (12 : Nat), (13 : Nat))])) suRmW (su_prx D ((cO, .double) :: su_T cI cL cZ) sz ((oo, .inl (cO, 1, .inr (.inr (.inr (.inl f))))) :: clsW ad cI cL cZ S) [.ref (ad 0), .int x, .ref oo]) (su_qi D (va_A ((oo, .inl (cO, 1, .inr (.inr (.inr (.inl f))))) :: clsW ad cI cL cZ S) sz) (fun (r : Int32) (u : CS × (Nat → UInt64)) => r = nI kk ∧ (kk = 0 → u.2 0 = FP.f2d v) ∧ su_lst (u.1.1 0) (u.1.2.1 0) = L0 ∧ su_lst (u.1.1 1) (u.1.2.1 1) = L1) (fun (u : CS × (Nat → UInt64)) => (oo, .inl (cO, 1, .inr (.inr (.inr (.inl u.2))))) :: clsW ad cI cL cZ u.1)) 1 6 (va_A ((oo, .inl (cO, 1, .inr (.inr (.inr (.inl f))))) :: clsW ad cI cL cZ S) sz) := by
  refine su_metH (y := yL_share) (av := [.ref (ad 0), .int x, .ref oo]) (Qf := fun A => su_qi D A (fun (r : Int32) (u : CS × (Nat → UInt64)) => r = nI kk ∧ (kk = 0 → u.2 0 = FP.f2d v) ∧ su_lst (u.1.1 0) (u.1.2.1 0) = L0 ∧ su_lst (u.1.1 1) (u.1.2.1 1) = L1) (fun (u : CS × (Nat → UInt64)) => (oo, .inl (cO, 1, .inr (.inr (.inr (.inl u.2))))) :: clsW ad cI cL cZ u.1)) (cc := cL_share) (maxL := 4) (ret := (some .int)) (hh := ([((0 : Nat), (9 : Nat), (12 : Nat), (13 : Nat))])) (by decide) (Nat.le_of_ble_eq_true rfl) ?_
  intro p e s m args below meth c R Q A H locs ls hx hb hr hlocks hin hml hown hts hN hE htab hP hK hD hA hS hRm hQ hl
  have hown : s.vm.findClass RL = some m.cls := hown
  have hl : lv_has ls 4 [(0, .ref (ad 0)), (1, .int x), (2, .ref oo)] := hl
  have hR1 : 9 ≤ R.frames := by rw [hRm]; exact Nat.le_of_ble_eq_true rfl
  have hR2 : 320 ≤ R.locals := by rw [hRm]; exact Nat.le_of_ble_eq_true rfl
  have hR3 : 1 ≤ R.cells := by rw [hRm]; exact Nat.le_of_ble_eq_true rfl
  have hR4 : 6 ≤ R.slots := by rw [hRm]; exact Nat.le_of_ble_eq_true rfl
  refine lv_aload_n hx hb dL_share_0 rfl (lv_at hl 2 rfl) ?_
  refine lv_iconst (v := nI 0) hx hb dL_share_1 (by decide) ?_
  refine lv_aload_n hx hb dL_share_2 rfl (lv_at hl 0 rfl) ?_
  refine lv_iload_n hx hb dL_share_3 rfl (lv_at hl 1 rfl) ?_
  refine su_cHf (wr := [(oo, .inl (cO, 1, .inr (.inr (.inr (.inl f)))))]) (vx_runV (As := [.int x]) (rest := [.int (nI 0), .ref oo]) ⟨hx, hb, hml, hown, hts⟩ (K_share l hfl D cI cL cZ H.size ad S ok0 ok1 x kk v L0 L1 hr9) (cwV 1 hts (lw_gV q_821 q_822 q_823 q_31 q_824) rfl rfl rfl (by decide +kernel) ⟨Nat.le_trans (Nat.le_of_ble_eq_true rfl) hR1, Nat.le_trans (Nat.le_of_ble_eq_true rfl) hR2⟩) (su_pvx hE hS hA hN hK hP hD [1, 2, 3, 4, 5, 6, 7, 8, 9, 10, 11, 12, 13, 14, 15, 16, 17, 18, 19, 20, 21, 22, 23, 24, 25, 26, 27, 28, 29, 30, 31, 32, 33, 34, 35, 36, 37, 38, 39, 40, 41, 42, 43, 44, 45, 46, 47, 48, 49, 50, 51, 52, 53, 54, 55, 56, 57, 58, 59, 60, 61, 62, 63, 64, 65, 66, 67, 68, 69] [1, 2, 3] rfl rfl rfl (ci := 9) (q0 := 0) rfl rfl rfl) rfl rfl hl.1 rfl (lv_room (Nat.le_of_ble_eq_true rfl)) dL_share_4 ⟨Nat.le_trans (Nat.le_of_ble_eq_true rfl) hR3, Nat.le_trans (Nat.le_of_ble_eq_true rfl) hR4⟩) hP hD hS hA [1, 2, 3, 4, 5, 6, 7, 8, 9, 10, 11, 12, 13, 14, 15, 16, 17, 18, 19, 20, 21, 22, 23, 24, 25, 26, 27, 28, 29, 30, 31, 32, 33, 34, 35, 36, 37, 38, 39, 40, 41, 42, 43, 44, 45, 46, 47, 48, 49, 50, 51, 52, 53, 54, 55, 56, 57, 58, 59, 60, 61, 62, 63, 64, 65, 66, 67, 68, 69] [0] rfl rfl (by decide) (by decide) (fun E ce q9 u H locs hw hP hD hS hce hcv hcl => ?_) (fun r u H locs hw hP hD hS => ?_)
  · have hP : va_P D vwCl ((oo, .inl (cO, 1, .inr (.inr (.inr (.inl f))))) :: clsW ad cI cL cZ u) H := hP
    have hD : va_D A ((oo, .inl (cO, 1, .inr (.inr (.inr (.inl f))))) :: clsW ad cI cL cZ u) := hD
    obtain ⟨rfl, rfl⟩ := su_m1 hw.1
    refine vx_catch (own := RL) (name := "java/lang/IndexOutOfBoundsException") hown [] ⟨0, 9, 12, 13⟩ [] (htab.trans rfl) (fun _ h => absurd h List.not_mem_nil) (by decide) (by decide) (hts _ q_446) (va_Nw.use (A := args) rfl (hN _ q_459)) hce hcv hcl ?_
    refine lv_astore_n (lv' := [(3, .ref q9), (0, .ref (ad 0)), (1, .int x), (2, .ref oo)]) hx hb dL_share_12 rfl hl (by decide) rfl (fun ls hl => ?_)
    refine lv_iconst (v := nI 1) hx hb dL_share_13 (by decide) ?_
    rw [hQ]
    refine vx_ret ?_
    exact su_ei hx hb hr hlocks hS dL_share_14 (u, f) (⟨rfl, fun q => absurd q (by decide), hw.2.1, hw.2.2⟩) hP hD
  · have hP : va_P D vwCl ((oo, .inl (cO, 1, .inr (.inr (.inr (.inl f))))) :: clsW ad cI cL cZ u) H := hP
    have hD : va_D A ((oo, .inl (cO, 1, .inr (.inr (.inr (.inl f))))) :: clsW ad cI cL cZ u) := hD
    refine lv_f2d hx hb dL_share_7 (su_f2dn (by rw [hw.1.2]; exact share_nn ok0 ok1 hr9 hw.1.1)) ?_
    refine va_dast hx hb hK hP hD hS 0 0 rfl rfl (vp_in_nI (by decide) (by decide)) dL_share_8 (fun H locs hP hD hS => ?_)
    refine lv_goto (tgt := 15) hx hb dL_share_9 (by decide) ?_
    refine lv_iconst (v := nI 0) hx hb dL_share_15 (by decide) ?_
    rw [hQ]
    refine vx_ret ?_
    exact su_ei hx hb hr hlocks hS dL_share_16 (u, vf_upd f (nI 0).toNatClampNeg (FP.f2d r)) (⟨by rw [hw.1.1], fun _ => by rw [← hw.1.2]; rfl, hw.2.1, hw.2.2⟩) hP hD
set_option maxHeartbeats 4000000 in
set_option maxRecDepth 100000 in
theorem L_sumOf (l : Launch) (hfl : l.stackTraces = false) (D : va_G) (cI cL cZ : ClassId) (sz : Nat) (ad : Nat → Nat) (S : CS) (oo : Nat) (f : Nat → Int64) (ok0 : okL (su_lst (S.1 0) (S.2.1 0))) (ok1 : okL (su_lst (S.1 1) (S.2.1 1))) (x : Int32) (y : Int32) (kk : Nat) (v : Int32) (L0 L1 : List Nat) (hr9 : su_h1 (fun g n => R_sumOf g n y) (S.1 0) (S.2.1 0) (S.1 1) (S.2.1 1) x kk v L0 L1) :
    Met l yL_sumOf (wsH yL_sumOf cL_sumOf 5 (some .int) ([((0 : Nat), (10 : Nat), (13 : Nat), (13 : Nat)), ((0 : Nat), (10 : Nat), (17 : Nat), (15 : Nat))])) suRmW (su_prx D (su_T cI cL cZ) sz ((oo, .inl (cL, 1, .inr (.inl f))) :: clsW ad cI cL cZ S) [.ref (ad 0), .int x, .int y, .ref oo]) (su_qi D (va_A ((oo, .inl (cL, 1, .inr (.inl f))) :: clsW ad cI cL cZ S) sz) (fun (r : Int32) (u : CS × (Nat → Int64)) => r = nI kk ∧ (kk = 0 → u.2 0 = v.toInt64) ∧ su_lst (u.1.1 0) (u.1.2.1 0) = L0 ∧ su_lst (u.1.1 1) (u.1.2.1 1) = L1) (fun (u : CS × (Nat → Int64)) => (oo, .inl (cL, 1, .inr (.inl u.2))) :: clsW ad cI cL cZ u.1)) 1 6 (va_A ((oo, .inl (cL, 1, .inr (.inl f))) :: clsW ad cI cL cZ S) sz) := by
  refine su_metH (y := yL_sumOf) (av := [.ref (ad 0), .int x, .int y, .ref oo]) (Qf := fun A => su_qi D A (fun (r : Int32) (u : CS × (Nat → Int64)) => r = nI kk ∧ (kk = 0 → u.2 0 = v.toInt64) ∧ su_lst (u.1.1 0) (u.1.2.1 0) = L0 ∧ su_lst (u.1.1 1) (u.1.2.1 1) = L1) (fun (u : CS × (Nat → Int64)) => (oo, .inl (cL, 1, .inr (.inl u.2))) :: clsW ad cI cL cZ u.1)) (cc := cL_sumOf) (maxL := 5) (ret := (some .int)) (hh := ([((0 : Nat), (10 : Nat), (13 : Nat), (13 : Nat)), ((0 : Nat), (10 : Nat), (17 : Nat), (15 : Nat))])) (by decide) (Nat.le_of_ble_eq_true rfl) ?_
  intro p e s m args below meth c R Q A H locs ls hx hb hr hlocks hin hml hown hts hN hE htab hP hK hD hA hS hRm hQ hl
  have hown : s.vm.findClass RL = some m.cls := hown
  have hl : lv_has ls 5 [(0, .ref (ad 0)), (1, .int x), (2, .int y), (3, .ref oo)] := hl
  have hR1 : 9 ≤ R.frames := by rw [hRm]; exact Nat.le_of_ble_eq_true rfl
  have hR2 : 320 ≤ R.locals := by rw [hRm]; exact Nat.le_of_ble_eq_true rfl
  have hR3 : 1 ≤ R.cells := by rw [hRm]; exact Nat.le_of_ble_eq_true rfl
  have hR4 : 6 ≤ R.slots := by rw [hRm]; exact Nat.le_of_ble_eq_true rfl
  refine lv_aload_n hx hb dL_sumOf_0 rfl (lv_at hl 3 rfl) ?_
  refine lv_iconst (v := nI 0) hx hb dL_sumOf_1 (by decide) ?_
  refine lv_aload_n hx hb dL_sumOf_2 rfl (lv_at hl 0 rfl) ?_
  refine lv_iload_n hx hb dL_sumOf_3 rfl (lv_at hl 1 rfl) ?_
  refine lv_iload_n hx hb dL_sumOf_4 rfl (lv_at hl 2 rfl) ?_
  refine su_cHi (wr := [(oo, .inl (cL, 1, .inr (.inl f)))]) (vx_runV (As := [.int x, .int y]) (rest := [.int (nI 0), .ref oo]) ⟨hx, hb, hml, hown, hts⟩ (K_sumOf l hfl D cI cL cZ H.size ad S ok0 ok1 x y kk v L0 L1 hr9) (cwV 2 hts (lw_gV q_859 q_860 q_861 q_31 q_862) rfl rfl rfl (by decide +kernel) ⟨Nat.le_trans (Nat.le_of_ble_eq_true rfl) hR1, Nat.le_trans (Nat.le_of_ble_eq_true rfl) hR2⟩) (su_pvx hE hS hA hN hK hP hD [1, 2, 3, 4, 5, 6, 7, 8, 9, 10, 11, 12, 13, 14, 15, 16, 17, 18, 19, 20, 21, 22, 23, 24, 25, 26, 27, 28, 29, 30, 31, 32, 33, 34, 35, 36, 37, 38, 39, 40, 41, 42, 43, 44, 45, 46, 47, 48, 49, 50, 51, 52, 53, 54, 55, 56, 57, 58, 59, 60, 61, 62, 63, 64, 65, 66, 67, 68, 69] [0, 1, 2] rfl rfl rfl (ci := 9) (q0 := 0) rfl rfl rfl) rfl rfl hl.1 rfl (lv_room (Nat.le_of_ble_eq_true rfl)) dL_sumOf_5 ⟨Nat.le_trans (Nat.le_of_ble_eq_true rfl) hR3, Nat.le_trans (Nat.le_of_ble_eq_true rfl) hR4⟩) hP hD hS hA [1, 2, 3, 4, 5, 6, 7, 8, 9, 10, 11, 12, 13, 14, 15, 16, 17, 18, 19, 20, 21, 22, 23, 24, 25, 26, 27, 28, 29, 30, 31, 32, 33, 34, 35, 36, 37, 38, 39, 40, 41, 42, 43, 44, 45, 46, 47, 48, 49, 50, 51, 52, 53, 54, 55, 56, 57, 58, 59, 60, 61, 62, 63, 64, 65, 66, 67, 68, 69] [0] rfl rfl (by decide) (by decide) (fun E ce q9 u H locs hw hP hD hS hce hcv hcl => ?_) (fun r u H locs hw hP hD hS => ?_)
  · have hP : va_P D vwCl ((oo, .inl (cL, 1, .inr (.inl f))) :: clsW ad cI cL cZ u) H := hP
    have hD : va_D A ((oo, .inl (cL, 1, .inr (.inl f))) :: clsW ad cI cL cZ u) := hD
    rcases su_m2 hw.1 with ⟨rfl, rfl⟩ | ⟨rfl, rfl⟩
    · refine vx_catch (own := RL) (name := "java/lang/IndexOutOfBoundsException") hown [] ⟨0, 10, 13, 13⟩ [⟨0, 10, 17, 15⟩] (htab.trans rfl) (fun _ h => absurd h List.not_mem_nil) (by decide) (by decide) (hts _ q_446) (va_Nw.use (A := args) rfl (hN _ q_459)) hce hcv hcl ?_
      refine lv_astore (lv' := [(4, .ref q9), (0, .ref (ad 0)), (1, .int x), (2, .int y), (3, .ref oo)]) hx hb dL_sumOf_13 hl (by decide) rfl (fun ls hl => ?_)
      refine lv_iconst (v := nI 1) hx hb dL_sumOf_15 (by decide) ?_
      rw [hQ]
      refine vx_ret ?_
      exact su_ei hx hb hr hlocks hS dL_sumOf_16 (u, f) (⟨rfl, fun q => absurd q (by decide), hw.2.1, hw.2.2⟩) hP hD
    · refine vx_catch (own := RL) (name := "java/lang/IllegalArgumentException") hown [⟨0, 10, 13, 13⟩] ⟨0, 10, 17, 15⟩ [] (htab.trans rfl) (List.forall_mem_cons.mpr ⟨Or.inr ⟨by decide, "java/lang/IndexOutOfBoundsException", hts _ q_446, hE.2.2.2 ("java/lang/IllegalArgumentException", "java/lang/IndexOutOfBoundsException") (by decide +kernel)⟩, fun _ h => absurd h List.not_mem_nil⟩) (by decide) (by decide) (hts _ q_447) (va_Nw.use (A := args) rfl (hN _ q_535)) hce hcv hcl ?_
      refine lv_astore (lv' := [(4, .ref q9), (0, .ref (ad 0)), (1, .int x), (2, .int y), (3, .ref oo)]) hx hb dL_sumOf_17 hl (by decide) rfl (fun ls hl => ?_)
      refine lv_iconst (v := nI 2) hx hb dL_sumOf_19 (by decide) ?_
      rw [hQ]
      refine vx_ret ?_
      exact su_ei hx hb hr hlocks hS dL_sumOf_20 (u, f) (⟨rfl, fun q => absurd q (by decide), hw.2.1, hw.2.2⟩) hP hD
  · have hP : va_P D vwCl ((oo, .inl (cL, 1, .inr (.inl f))) :: clsW ad cI cL cZ u) H := hP
    have hD : va_D A ((oo, .inl (cL, 1, .inr (.inl f))) :: clsW ad cI cL cZ u) := hD
    refine lv_i2l (v := r.toInt64) hx hb dL_sumOf_8 rfl ?_
    refine su_last hx hb hK hP hD hS 0 1 rfl rfl (i := 0) (by decide) (by decide) (fun _ => r.toInt64) (fun j hj => by first | rfl | (rw [show j = 0 by omega]; first | rfl | exact if_pos rfl)) dL_sumOf_9 (fun H locs hP hD hS => ?_)
    refine lv_goto (tgt := 21) hx hb dL_sumOf_10 (by decide) ?_
    refine lv_iconst (v := nI 0) hx hb dL_sumOf_21 (by decide) ?_
    rw [hQ]
    refine vx_ret ?_
    exact su_ei hx hb hr hlocks hS dL_sumOf_22 (u, fun _ => r.toInt64) (⟨by rw [hw.1.1], fun _ => by show _ = _; rw [← hw.1.2], hw.2.1, hw.2.2⟩) hP hD
set_option maxHeartbeats 4000000 in
set_option maxRecDepth 100000 in
theorem L_isLeft (l : Launch) (hfl : l.stackTraces = false) (D : va_G) (cI cL cZ : ClassId) (sz : Nat) (ad : Nat → Nat) (S : CS) (oo : Nat) (f : Nat → Int64) (ok0 : okL (su_lst (S.1 0) (S.2.1 0))) (ok1 : okL (su_lst (S.1 1) (S.2.1 1))) (x : Int32) (y : Int32) (kk : Nat) (v : Int32) (L0 L1 : List Nat) (hr9 : su_h1 (fun g n => R_isLeft g n y) (S.1 0) (S.2.1 0) (S.1 1) (S.2.1 1) x kk v L0 L1) :
    Met l yL_isLeft (wsH yL_isLeft cL_isLeft 5 (some .int) ([((0 : Nat), (17 : Nat), (20 : Nat), (13 : Nat))])) suRmW (su_prx D (su_T cI cL cZ) sz ((oo, .inl (cL, 1, .inr (.inl f))) :: clsW ad cI cL cZ S) [.ref (ad 0), .int x, .int y, .ref oo]) (su_qi D (va_A ((oo, .inl (cL, 1, .inr (.inl f))) :: clsW ad cI cL cZ S) sz) (fun (r : Int32) (u : CS × (Nat → Int64)) => r = nI kk ∧ (kk = 0 → u.2 0 = su_z01 v) ∧ su_lst (u.1.1 0) (u.1.2.1 0) = L0 ∧ su_lst (u.1.1 1) (u.1.2.1 1) = L1) (fun (u : CS × (Nat → Int64)) => (oo, .inl (cL, 1, .inr (.inl u.2))) :: clsW ad cI cL cZ u.1)) 1 6 (va_A ((oo, .inl (cL, 1, .inr (.inl f))) :: clsW ad cI cL cZ S) sz) := by
  refine su_metH (y := yL_isLeft) (av := [.ref (ad 0), .int x, .int y, .ref oo]) (Qf := fun A => su_qi D A (fun (r : Int32) (u : CS × (Nat → Int64)) => r = nI kk ∧ (kk = 0 → u.2 0 = su_z01 v) ∧ su_lst (u.1.1 0) (u.1.2.1 0) = L0 ∧ su_lst (u.1.1 1) (u.1.2.1 1) = L1) (fun (u : CS × (Nat → Int64)) => (oo, .inl (cL, 1, .inr (.inl u.2))) :: clsW ad cI cL cZ u.1)) (cc := cL_isLeft) (maxL := 5) (ret := (some .int)) (hh := ([((0 : Nat), (17 : Nat), (20 : Nat), (13 : Nat))])) (by decide) (Nat.le_of_ble_eq_true rfl) ?_
  intro p e s m args below meth c R Q A H locs ls hx hb hr hlocks hin hml hown hts hN hE htab hP hK hD hA hS hRm hQ hl
  have hown : s.vm.findClass RL = some m.cls := hown
  have hl : lv_has ls 5 [(0, .ref (ad 0)), (1, .int x), (2, .int y), (3, .ref oo)] := hl
  have hR1 : 9 ≤ R.frames := by rw [hRm]; exact Nat.le_of_ble_eq_true rfl
  have hR2 : 320 ≤ R.locals := by rw [hRm]; exact Nat.le_of_ble_eq_true rfl
  have hR3 : 1 ≤ R.cells := by rw [hRm]; exact Nat.le_of_ble_eq_true rfl
  have hR4 : 6 ≤ R.slots := by rw [hRm]; exact Nat.le_of_ble_eq_true rfl
  refine lv_aload_n hx hb dL_isLeft_0 rfl (lv_at hl 3 rfl) ?_
  refine lv_iconst (v := nI 0) hx hb dL_isLeft_1 (by decide) ?_
  refine lv_aload_n hx hb dL_isLeft_2 rfl (lv_at hl 0 rfl) ?_
  refine lv_iload_n hx hb dL_isLeft_3 rfl (lv_at hl 1 rfl) ?_
  refine lv_iload_n hx hb dL_isLeft_4 rfl (lv_at hl 2 rfl) ?_
  refine su_cHi (wr := [(oo, .inl (cL, 1, .inr (.inl f)))]) (vx_runV (As := [.int x, .int y]) (rest := [.int (nI 0), .ref oo]) ⟨hx, hb, hml, hown, hts⟩ (K_isLeft l hfl D cI cL cZ H.size ad S ok0 ok1 x y kk v L0 L1 hr9) (cwV 2 hts (lw_gV q_964 q_965 q_966 q_31 q_967) rfl rfl rfl (by decide +kernel) ⟨Nat.le_trans (Nat.le_of_ble_eq_true rfl) hR1, Nat.le_trans (Nat.le_of_ble_eq_true rfl) hR2⟩) (su_pvx hE hS hA hN hK hP hD [1, 2, 3, 4, 5, 6, 7, 8, 9, 10, 11, 12, 13, 14, 15, 16, 17, 18, 19, 20, 21, 22, 23, 24, 25, 26, 27, 28, 29, 30, 31, 32, 33, 34, 35, 36, 37, 38, 39, 40, 41, 42, 43, 44, 45, 46, 47, 48, 49, 50, 51, 52, 53, 54, 55, 56, 57, 58, 59, 60, 61, 62, 63, 64, 65, 66, 67, 68, 69] [0, 1, 2] rfl rfl rfl (ci := 9) (q0 := 0) rfl rfl rfl) rfl rfl hl.1 rfl (lv_room (Nat.le_of_ble_eq_true rfl)) dL_isLeft_5 ⟨Nat.le_trans (Nat.le_of_ble_eq_true rfl) hR3, Nat.le_trans (Nat.le_of_ble_eq_true rfl) hR4⟩) hP hD hS hA [1, 2, 3, 4, 5, 6, 7, 8, 9, 10, 11, 12, 13, 14, 15, 16, 17, 18, 19, 20, 21, 22, 23, 24, 25, 26, 27, 28, 29, 30, 31, 32, 33, 34, 35, 36, 37, 38, 39, 40, 41, 42, 43, 44, 45, 46, 47, 48, 49, 50, 51, 52, 53, 54, 55, 56, 57, 58, 59, 60, 61, 62, 63, 64, 65, 66, 67, 68, 69] [0] rfl rfl (by decide) (by decide) (fun E ce q9 u H locs hw hP hD hS hce hcv hcl => ?_) (fun r u H locs hw hP hD hS => ?_)
  · have hP : va_P D vwCl ((oo, .inl (cL, 1, .inr (.inl f))) :: clsW ad cI cL cZ u) H := hP
    have hD : va_D A ((oo, .inl (cL, 1, .inr (.inl f))) :: clsW ad cI cL cZ u) := hD
    obtain ⟨rfl, rfl⟩ := su_m1 hw.1
    refine vx_catch (own := RL) (name := "java/lang/IndexOutOfBoundsException") hown [] ⟨0, 17, 20, 13⟩ [] (htab.trans rfl) (fun _ h => absurd h List.not_mem_nil) (by decide) (by decide) (hts _ q_446) (va_Nw.use (A := args) rfl (hN _ q_459)) hce hcv hcl ?_
    refine lv_astore (lv' := [(4, .ref q9), (0, .ref (ad 0)), (1, .int x), (2, .int y), (3, .ref oo)]) hx hb dL_isLeft_20 hl (by decide) rfl (fun ls hl => ?_)
    refine lv_iconst (v := nI 1) hx hb dL_isLeft_22 (by decide) ?_
    rw [hQ]
    refine vx_ret ?_
    exact su_ei hx hb hr hlocks hS dL_isLeft_23 (u, f) (⟨rfl, fun q => absurd q (by decide), hw.2.1, hw.2.2⟩) hP hD
  · have hP : va_P D vwCl ((oo, .inl (cL, 1, .inr (.inl f))) :: clsW ad cI cL cZ u) H := hP
    have hD : va_D A ((oo, .inl (cL, 1, .inr (.inl f))) :: clsW ad cI cL cZ u) := hD
    refine lv_if_eq (tgt := 15) hx hb dL_isLeft_8 (by decide) (fun cz => ?_) (fun cz => ?_)
    · refine lv_lconst (v := 0) hx hb dL_isLeft_15 (by decide) ?_
      refine su_last hx hb hK hP hD hS 0 1 rfl rfl (i := 0) (by decide) (by decide) (fun _ => 0) (fun j hj => by first | rfl | (rw [show j = 0 by omega]; first | rfl | exact if_pos rfl)) dL_isLeft_16 (fun H locs hP hD hS => ?_)
      refine lv_goto (tgt := 24) hx hb dL_isLeft_17 (by decide) ?_
      refine lv_iconst (v := nI 0) hx hb dL_isLeft_24 (by decide) ?_
      rw [hQ]
      refine vx_ret ?_
      exact su_ei hx hb hr hlocks hS dL_isLeft_25 (u, fun _ => 0) (⟨by rw [hw.1.1], fun _ => by rw [← hw.1.2]; first | exact (if_pos cz).symm | exact (if_neg cz).symm, hw.2.1, hw.2.2⟩) hP hD
    · refine lv_lconst (v := 1) hx hb dL_isLeft_11 (by decide) ?_
      refine lv_goto (tgt := 16) hx hb dL_isLeft_12 (by decide) ?_
      refine su_last hx hb hK hP hD hS 0 1 rfl rfl (i := 0) (by decide) (by decide) (fun _ => 1) (fun j hj => by first | rfl | (rw [show j = 0 by omega]; first | rfl | exact if_pos rfl)) dL_isLeft_16 (fun H locs hP hD hS => ?_)
      refine lv_goto (tgt := 24) hx hb dL_isLeft_17 (by decide) ?_
      refine lv_iconst (v := nI 0) hx hb dL_isLeft_24 (by decide) ?_
      rw [hQ]
      refine vx_ret ?_
      exact su_ei hx hb hr hlocks hS dL_isLeft_25 (u, fun _ => 1) (⟨by rw [hw.1.1], fun _ => by rw [← hw.1.2]; first | exact (if_pos cz).symm | exact (if_neg cz).symm, hw.2.1, hw.2.2⟩) hP hD
set_option maxHeartbeats 4000000 in
set_option maxRecDepth 100000 in
theorem L_together (l : Launch) (hfl : l.stackTraces = false) (D : va_G) (cI cL cZ : ClassId) (sz : Nat) (ad : Nat → Nat) (S : CS) (oo : Nat) (f : Nat → Int64) (ok0 : okL (su_lst (S.1 0) (S.2.1 0))) (ok1 : okL (su_lst (S.1 1) (S.2.1 1))) (x : Int32) (y : Int32) (z : Int32) (kk : Nat) (v : Int32) (L0 L1 : List Nat) (hr9 : R_together (S.1 0) (S.2.1 0) (S.1 1) (S.2.1 1) x y z kk v L0 L1) :
    Met l yL_together (wsH yL_together cL_together 6 (some .int) ([((0 : Nat), (12 : Nat), (15 : Nat), (13 : Nat)), ((0 : Nat), (12 : Nat), (19 : Nat), (15 : Nat))])) suRmW (su_prx D (su_T cI cL cZ) sz ((oo, .inl (cL, 1, .inr (.inl f))) :: clsW ad cI cL cZ S) [.ref (ad 0), .int x, .int y, .int z, .ref oo]) (su_qi D (va_A ((oo, .inl (cL, 1, .inr (.inl f))) :: clsW ad cI cL cZ S) sz) (fun (r : Int32) (u : CS × (Nat → Int64)) => r = nI kk ∧ (kk = 0 → u.2 0 = v.toInt64) ∧ su_lst (u.1.1 0) (u.1.2.1 0) = L0 ∧ su_lst (u.1.1 1) (u.1.2.1 1) = L1) (fun (u : CS × (Nat → Int64)) => (oo, .inl (cL, 1, .inr (.inl u.2))) :: clsW ad cI cL cZ u.1)) 1 6 (va_A ((oo, .inl (cL, 1, .inr (.inl f))) :: clsW ad cI cL cZ S) sz) := by
  refine su_metH (y := yL_together) (av := [.ref (ad 0), .int x, .int y, .int z, .ref oo]) (Qf := fun A => su_qi D A (fun (r : Int32) (u : CS × (Nat → Int64)) => r = nI kk ∧ (kk = 0 → u.2 0 = v.toInt64) ∧ su_lst (u.1.1 0) (u.1.2.1 0) = L0 ∧ su_lst (u.1.1 1) (u.1.2.1 1) = L1) (fun (u : CS × (Nat → Int64)) => (oo, .inl (cL, 1, .inr (.inl u.2))) :: clsW ad cI cL cZ u.1)) (cc := cL_together) (maxL := 6) (ret := (some .int)) (hh := ([((0 : Nat), (12 : Nat), (15 : Nat), (13 : Nat)), ((0 : Nat), (12 : Nat), (19 : Nat), (15 : Nat))])) (by decide) (Nat.le_of_ble_eq_true rfl) ?_
  intro p e s m args below meth c R Q A H locs ls hx hb hr hlocks hin hml hown hts hN hE htab hP hK hD hA hS hRm hQ hl
  have hown : s.vm.findClass RL = some m.cls := hown
  have hl : lv_has ls 6 [(0, .ref (ad 0)), (1, .int x), (2, .int y), (3, .int z), (4, .ref oo)] := hl
  have hR1 : 9 ≤ R.frames := by rw [hRm]; exact Nat.le_of_ble_eq_true rfl
  have hR2 : 320 ≤ R.locals := by rw [hRm]; exact Nat.le_of_ble_eq_true rfl
  have hR3 : 1 ≤ R.cells := by rw [hRm]; exact Nat.le_of_ble_eq_true rfl
  have hR4 : 6 ≤ R.slots := by rw [hRm]; exact Nat.le_of_ble_eq_true rfl
  refine lv_aload hx hb dL_together_0 (lv_at hl 4 rfl) ?_
  refine lv_iconst (v := nI 0) hx hb dL_together_2 (by decide) ?_
  refine lv_aload_n hx hb dL_together_3 rfl (lv_at hl 0 rfl) ?_
  refine lv_iload_n hx hb dL_together_4 rfl (lv_at hl 1 rfl) ?_
  refine lv_iload_n hx hb dL_together_5 rfl (lv_at hl 2 rfl) ?_
  refine lv_iload_n hx hb dL_together_6 rfl (lv_at hl 3 rfl) ?_
  refine su_cHi (wr := [(oo, .inl (cL, 1, .inr (.inl f)))]) (vx_runV (As := [.int x, .int y, .int z]) (rest := [.int (nI 0), .ref oo]) ⟨hx, hb, hml, hown, hts⟩ (K_together l hfl D cI cL cZ H.size ad S ok0 ok1 x y z kk v L0 L1 hr9) (cwV 3 hts (lw_gV q_907 q_908 q_909 q_31 q_910) rfl rfl rfl (by decide +kernel) ⟨Nat.le_trans (Nat.le_of_ble_eq_true rfl) hR1, Nat.le_trans (Nat.le_of_ble_eq_true rfl) hR2⟩) (su_pvx hE hS hA hN hK hP hD [1, 2, 3, 4, 5, 6, 7, 8, 9, 10, 11, 12, 13, 14, 15, 16, 17, 18, 19, 20, 21, 22, 23, 24, 25, 26, 27, 28, 29, 30, 31, 32, 33, 34, 35, 36, 37, 38, 39, 40, 41, 42, 43, 44, 45, 46, 47, 48, 49, 50, 51, 52, 53, 54, 55, 56, 57, 58, 59, 60, 61, 62, 63, 64, 65, 66, 67, 68, 69] [0, 1, 2] rfl rfl rfl (ci := 9) (q0 := 0) rfl rfl rfl) rfl rfl hl.1 rfl (lv_room (Nat.le_of_ble_eq_true rfl)) dL_together_7 ⟨Nat.le_trans (Nat.le_of_ble_eq_true rfl) hR3, Nat.le_trans (Nat.le_of_ble_eq_true rfl) hR4⟩) hP hD hS hA [1, 2, 3, 4, 5, 6, 7, 8, 9, 10, 11, 12, 13, 14, 15, 16, 17, 18, 19, 20, 21, 22, 23, 24, 25, 26, 27, 28, 29, 30, 31, 32, 33, 34, 35, 36, 37, 38, 39, 40, 41, 42, 43, 44, 45, 46, 47, 48, 49, 50, 51, 52, 53, 54, 55, 56, 57, 58, 59, 60, 61, 62, 63, 64, 65, 66, 67, 68, 69] [0] rfl rfl (by decide) (by decide) (fun E ce q9 u H locs hw hP hD hS hce hcv hcl => ?_) (fun r u H locs hw hP hD hS => ?_)
  · have hP : va_P D vwCl ((oo, .inl (cL, 1, .inr (.inl f))) :: clsW ad cI cL cZ u) H := hP
    have hD : va_D A ((oo, .inl (cL, 1, .inr (.inl f))) :: clsW ad cI cL cZ u) := hD
    rcases su_m2 hw.1 with ⟨rfl, rfl⟩ | ⟨rfl, rfl⟩
    · refine vx_catch (own := RL) (name := "java/lang/IndexOutOfBoundsException") hown [] ⟨0, 12, 15, 13⟩ [⟨0, 12, 19, 15⟩] (htab.trans rfl) (fun _ h => absurd h List.not_mem_nil) (by decide) (by decide) (hts _ q_446) (va_Nw.use (A := args) rfl (hN _ q_459)) hce hcv hcl ?_
      refine lv_astore (lv' := [(5, .ref q9), (0, .ref (ad 0)), (1, .int x), (2, .int y), (3, .int z), (4, .ref oo)]) hx hb dL_together_15 hl (by decide) rfl (fun ls hl => ?_)
      refine lv_iconst (v := nI 1) hx hb dL_together_17 (by decide) ?_
      rw [hQ]
      refine vx_ret ?_
      exact su_ei hx hb hr hlocks hS dL_together_18 (u, f) (⟨rfl, fun q => absurd q (by decide), hw.2.1, hw.2.2⟩) hP hD
    · refine vx_catch (own := RL) (name := "java/lang/IllegalArgumentException") hown [⟨0, 12, 15, 13⟩] ⟨0, 12, 19, 15⟩ [] (htab.trans rfl) (List.forall_mem_cons.mpr ⟨Or.inr ⟨by decide, "java/lang/IndexOutOfBoundsException", hts _ q_446, hE.2.2.2 ("java/lang/IllegalArgumentException", "java/lang/IndexOutOfBoundsException") (by decide +kernel)⟩, fun _ h => absurd h List.not_mem_nil⟩) (by decide) (by decide) (hts _ q_447) (va_Nw.use (A := args) rfl (hN _ q_535)) hce hcv hcl ?_
      refine lv_astore (lv' := [(5, .ref q9), (0, .ref (ad 0)), (1, .int x), (2, .int y), (3, .int z), (4, .ref oo)]) hx hb dL_together_19 hl (by decide) rfl (fun ls hl => ?_)
      refine lv_iconst (v := nI 2) hx hb dL_together_21 (by decide) ?_
      rw [hQ]
      refine vx_ret ?_
      exact su_ei hx hb hr hlocks hS dL_together_22 (u, f) (⟨rfl, fun q => absurd q (by decide), hw.2.1, hw.2.2⟩) hP hD
  · have hP : va_P D vwCl ((oo, .inl (cL, 1, .inr (.inl f))) :: clsW ad cI cL cZ u) H := hP
    have hD : va_D A ((oo, .inl (cL, 1, .inr (.inl f))) :: clsW ad cI cL cZ u) := hD
    refine lv_i2l (v := r.toInt64) hx hb dL_together_10 rfl ?_
    refine su_last hx hb hK hP hD hS 0 1 rfl rfl (i := 0) (by decide) (by decide) (fun _ => r.toInt64) (fun j hj => by first | rfl | (rw [show j = 0 by omega]; first | rfl | exact if_pos rfl)) dL_together_11 (fun H locs hP hD hS => ?_)
    refine lv_goto (tgt := 23) hx hb dL_together_12 (by decide) ?_
    refine lv_iconst (v := nI 0) hx hb dL_together_23 (by decide) ?_
    rw [hQ]
    refine vx_ret ?_
    exact su_ei hx hb hr hlocks hS dL_together_24 (u, fun _ => r.toInt64) (⟨by rw [hw.1.1], fun _ => by show _ = _; rw [← hw.1.2], hw.2.1, hw.2.2⟩) hP hD
