set_option maxHeartbeats 4000000 in
set_option maxRecDepth 100000 in
theorem L_add (l : Launch) (hfl : l.stackTraces = false) (D : va_G) (cI cL cZ : ClassId) (sz : Nat) (ad : Nat → Nat) (S : CS) (oo : Nat) (f : Nat → Int64) (ok0 : okL (su_lst (S.1 0) (S.2.1 0))) (ok1 : okL (su_lst (S.1 1) (S.2.1 1))) (x : Int32) (y : Int32) (kk : Nat) (v : Int32) (L0 L1 : List Nat) (hr9 : su_h1 (fun g n => R_add g n y) (S.1 0) (S.2.1 0) (S.1 1) (S.2.1 1) x kk v L0 L1) :
    Met l yL_add (wsH yL_add cL_add 5 (some .int) ([((0 : Nat), (10 : Nat), (13 : Nat), (13 : Nat)), ((0 : Nat), (10 : Nat), (17 : Nat), (15 : Nat)), ((0 : Nat), (10 : Nat), (21 : Nat), (17 : Nat))])) suRmW (su_prx D (su_T cI cL cZ) sz ((oo, .inl (cL, 1, .inr (.inl f))) :: clsW ad cI cL cZ S) [.ref (ad 0), .int x, .int y, .ref oo]) (su_qi D (va_A ((oo, .inl (cL, 1, .inr (.inl f))) :: clsW ad cI cL cZ S) sz) (fun (r : Int32) (u : CS × (Nat → Int64)) => r = nI kk ∧ (kk = 0 → u.2 0 = v.toInt64) ∧ su_lst (u.1.1 0) (u.1.2.1 0) = L0 ∧ su_lst (u.1.1 1) (u.1.2.1 1) = L1) (fun (u : CS × (Nat → Int64)) => (oo, .inl (cL, 1, .inr (.inl u.2))) :: clsW ad cI cL cZ u.1)) 1 6 (va_A ((oo, .inl (cL, 1, .inr (.inl f))) :: clsW ad cI cL cZ S) sz) := by
  refine su_metH (y := yL_add) (av := [.ref (ad 0), .int x, .int y, .ref oo]) (Qf := fun A => su_qi D A (fun (r : Int32) (u : CS × (Nat → Int64)) => r = nI kk ∧ (kk = 0 → u.2 0 = v.toInt64) ∧ su_lst (u.1.1 0) (u.1.2.1 0) = L0 ∧ su_lst (u.1.1 1) (u.1.2.1 1) = L1) (fun (u : CS × (Nat → Int64)) => (oo, .inl (cL, 1, .inr (.inl u.2))) :: clsW ad cI cL cZ u.1)) (cc := cL_add) (maxL := 5) (ret := (some .int)) (hh := ([((0 : Nat), (10 : Nat), (13 : Nat), (13 : Nat)), ((0 : Nat), (10 : Nat), (17 : Nat), (15 : Nat)), ((0 : Nat), (10 : Nat), (21 : Nat), (17 : Nat))])) (by decide) (Nat.le_of_ble_eq_true rfl) ?_
  intro p e s m args below meth c R Q A H locs ls hx hb hr hlocks hin hml hown hts hN hE htab hP hK hD hA hS hRm hQ hl
  have hown : s.vm.findClass RL = some m.cls := hown
  have hl : lv_has ls 5 [(0, .ref (ad 0)), (1, .int x), (2, .int y), (3, .ref oo)] := hl
  have hR1 : 9 ≤ R.frames := by rw [hRm]; exact Nat.le_of_ble_eq_true rfl
  have hR2 : 320 ≤ R.locals := by rw [hRm]; exact Nat.le_of_ble_eq_true rfl
  have hR3 : 1 ≤ R.cells := by rw [hRm]; exact Nat.le_of_ble_eq_true rfl
  have hR4 : 6 ≤ R.slots := by rw [hRm]; exact Nat.le_of_ble_eq_true rfl
  refine lv_aload_n hx hb dL_add_0 rfl (lv_at hl 3 rfl) ?_
  refine lv_iconst (v := nI 0) hx hb dL_add_1 (by decide) ?_
  refine lv_aload_n hx hb dL_add_2 rfl (lv_at hl 0 rfl) ?_
  refine lv_iload_n hx hb dL_add_3 rfl (lv_at hl 1 rfl) ?_
  refine lv_iload_n hx hb dL_add_4 rfl (lv_at hl 2 rfl) ?_
  refine su_cHi (wr := [(oo, .inl (cL, 1, .inr (.inl f)))]) (vx_runV (As := [.int x, .int y]) (rest := [.int (nI 0), .ref oo]) ⟨hx, hb, hml, hown, hts⟩ (K_add l hfl D cI cL cZ H.size ad S ok0 ok1 x y kk v L0 L1 hr9) (cwV 2 hts (lw_gV q_449 q_450 q_451 q_31 q_452) rfl rfl rfl (by decide +kernel) ⟨Nat.le_trans (Nat.le_of_ble_eq_true rfl) hR1, Nat.le_trans (Nat.le_of_ble_eq_true rfl) hR2⟩) (su_pvx hE hS hA hN hK hP hD [1, 2, 3, 4, 5, 6, 7, 8, 9, 10, 11, 12, 13, 14, 15, 16, 17, 18, 19, 20, 21, 22, 23, 24, 25, 26, 27, 28, 29, 30, 31, 32, 33, 34, 35, 36, 37, 38, 39, 40, 41, 42, 43, 44, 45, 46, 47, 48, 49, 50, 51, 52, 53, 54, 55, 56, 57, 58, 59, 60, 61, 62, 63, 64, 65, 66, 67, 68, 69] [0, 1, 2] rfl rfl rfl (ci := 9) (q0 := 0) rfl rfl rfl) rfl rfl hl.1 rfl (lv_room (Nat.le_of_ble_eq_true rfl)) dL_add_5 ⟨Nat.le_trans (Nat.le_of_ble_eq_true rfl) hR3, Nat.le_trans (Nat.le_of_ble_eq_true rfl) hR4⟩) hP hD hS hA [1, 2, 3, 4, 5, 6, 7, 8, 9, 10, 11, 12, 13, 14, 15, 16, 17, 18, 19, 20, 21, 22, 23, 24, 25, 26, 27, 28, 29, 30, 31, 32, 33, 34, 35, 36, 37, 38, 39, 40, 41, 42, 43, 44, 45, 46, 47, 48, 49, 50, 51, 52, 53, 54, 55, 56, 57, 58, 59, 60, 61, 62, 63, 64, 65, 66, 67, 68, 69] [0] rfl rfl (by decide) (by decide) (fun E ce q9 u H locs hw hP hD hS hce hcv hcl => ?_) (fun r u H locs hw hP hD hS => ?_)
  · have hP : va_P D vwCl ((oo, .inl (cL, 1, .inr (.inl f))) :: clsW ad cI cL cZ u) H := hP
    have hD : va_D A ((oo, .inl (cL, 1, .inr (.inl f))) :: clsW ad cI cL cZ u) := hD
    rcases su_m3 hw.1 with ⟨rfl, rfl⟩ | ⟨rfl, rfl⟩ | ⟨rfl, rfl⟩
    · refine vx_catch (own := RL) (name := "java/lang/IndexOutOfBoundsException") hown [] ⟨0, 10, 13, 13⟩ [⟨0, 10, 17, 15⟩, ⟨0, 10, 21, 17⟩] (htab.trans rfl) (fun _ h => absurd h List.not_mem_nil) (by decide) (by decide) (hts _ q_446) (va_Nw.use (A := args) rfl (hN _ q_459)) hce hcv hcl ?_
      refine lv_astore (lv' := [(4, .ref q9), (0, .ref (ad 0)), (1, .int x), (2, .int y), (3, .ref oo)]) hx hb dL_add_13 hl (by decide) rfl (fun ls hl => ?_)
      refine lv_iconst (v := nI 1) hx hb dL_add_15 (by decide) ?_
      rw [hQ]
      refine vx_ret ?_
      exact su_ei hx hb hr hlocks hS dL_add_16 (u, f) (⟨rfl, fun q => absurd q (by decide), hw.2.1, hw.2.2⟩) hP hD
    · refine vx_catch (own := RL) (name := "java/lang/IllegalArgumentException") hown [⟨0, 10, 13, 13⟩] ⟨0, 10, 17, 15⟩ [⟨0, 10, 21, 17⟩] (htab.trans rfl) (List.forall_mem_cons.mpr ⟨Or.inr ⟨by decide, "java/lang/IndexOutOfBoundsException", hts _ q_446, hE.2.2.2 ("java/lang/IllegalArgumentException", "java/lang/IndexOutOfBoundsException") (by decide +kernel)⟩, fun _ h => absurd h List.not_mem_nil⟩) (by decide) (by decide) (hts _ q_447) (va_Nw.use (A := args) rfl (hN _ q_535)) hce hcv hcl ?_
      refine lv_astore (lv' := [(4, .ref q9), (0, .ref (ad 0)), (1, .int x), (2, .int y), (3, .ref oo)]) hx hb dL_add_17 hl (by decide) rfl (fun ls hl => ?_)
      refine lv_iconst (v := nI 2) hx hb dL_add_19 (by decide) ?_
      rw [hQ]
      refine vx_ret ?_
      exact su_ei hx hb hr hlocks hS dL_add_20 (u, f) (⟨rfl, fun q => absurd q (by decide), hw.2.1, hw.2.2⟩) hP hD
    · refine vx_catch (own := RL) (name := "java/lang/IllegalStateException") hown [⟨0, 10, 13, 13⟩, ⟨0, 10, 17, 15⟩] ⟨0, 10, 21, 17⟩ [] (htab.trans rfl) (List.forall_mem_cons.mpr ⟨Or.inr ⟨by decide, "java/lang/IndexOutOfBoundsException", hts _ q_446, hE.2.2.2 ("java/lang/IllegalStateException", "java/lang/IndexOutOfBoundsException") (by decide +kernel)⟩, List.forall_mem_cons.mpr ⟨Or.inr ⟨by decide, "java/lang/IllegalArgumentException", hts _ q_447, hE.2.2.2 ("java/lang/IllegalStateException", "java/lang/IllegalArgumentException") (by decide +kernel)⟩, fun _ h => absurd h List.not_mem_nil⟩⟩) (by decide) (by decide) (hts _ q_448) (va_Nw.use (A := args) rfl (hN _ q_555)) hce hcv hcl ?_
      refine lv_astore (lv' := [(4, .ref q9), (0, .ref (ad 0)), (1, .int x), (2, .int y), (3, .ref oo)]) hx hb dL_add_21 hl (by decide) rfl (fun ls hl => ?_)
      refine lv_iconst (v := nI 3) hx hb dL_add_23 (by decide) ?_
      rw [hQ]
      refine vx_ret ?_
      exact su_ei hx hb hr hlocks hS dL_add_24 (u, f) (⟨rfl, fun q => absurd q (by decide), hw.2.1, hw.2.2⟩) hP hD
  · have hP : va_P D vwCl ((oo, .inl (cL, 1, .inr (.inl f))) :: clsW ad cI cL cZ u) H := hP
    have hD : va_D A ((oo, .inl (cL, 1, .inr (.inl f))) :: clsW ad cI cL cZ u) := hD
    refine lv_i2l (v := r.toInt64) hx hb dL_add_8 rfl ?_
    refine su_last hx hb hK hP hD hS 0 1 rfl rfl (i := 0) (by decide) (by decide) (fun _ => r.toInt64) (fun j hj => by first | rfl | (rw [show j = 0 by omega]; first | rfl | exact if_pos rfl)) dL_add_9 (fun H locs hP hD hS => ?_)
    refine lv_goto (tgt := 25) hx hb dL_add_10 (by decide) ?_
    refine lv_iconst (v := nI 0) hx hb dL_add_25 (by decide) ?_
    rw [hQ]
    refine vx_ret ?_
    exact su_ei hx hb hr hlocks hS dL_add_26 (u, fun _ => r.toInt64) (⟨by rw [hw.1.1], fun _ => by show _ = _; rw [← hw.1.2], hw.2.1, hw.2.2⟩) hP hD
set_option maxHeartbeats 4000000 in
set_option maxRecDepth 100000 in
theorem L_move (l : Launch) (hfl : l.stackTraces = false) (D : va_G) (cI cL cZ : ClassId) (sz : Nat) (ad : Nat → Nat) (S : CS) (oo : Nat) (f : Nat → Int64) (ok0 : okL (su_lst (S.1 0) (S.2.1 0))) (ok1 : okL (su_lst (S.1 1) (S.2.1 1))) (x : Int32) (y : Int32) (z : Int32) (kk : Nat) (v : Int32) (L0 L1 : List Nat) (hr9 : su_h1 (fun g n => R_move g n y z) (S.1 0) (S.2.1 0) (S.1 1) (S.2.1 1) x kk v L0 L1) :
    Met l yL_move (wsH yL_move cL_move 6 (some .int) ([((0 : Nat), (12 : Nat), (15 : Nat), (13 : Nat))])) suRmW (su_prx D (su_T cI cL cZ) sz ((oo, .inl (cL, 1, .inr (.inl f))) :: clsW ad cI cL cZ S) [.ref (ad 0), .int x, .int y, .int z, .ref oo]) (su_qi D (va_A ((oo, .inl (cL, 1, .inr (.inl f))) :: clsW ad cI cL cZ S) sz) (fun (r : Int32) (u : CS × (Nat → Int64)) => r = nI kk ∧ (kk = 0 → u.2 0 = v.toInt64) ∧ su_lst (u.1.1 0) (u.1.2.1 0) = L0 ∧ su_lst (u.1.1 1) (u.1.2.1 1) = L1) (fun (u : CS × (Nat → Int64)) => (oo, .inl (cL, 1, .inr (.inl u.2))) :: clsW ad cI cL cZ u.1)) 1 6 (va_A ((oo, .inl (cL, 1, .inr (.inl f))) :: clsW ad cI cL cZ S) sz) := by
  refine su_metH (y := yL_move) (av := [.ref (ad 0), .int x, .int y, .int z, .ref oo]) (Qf := fun A => su_qi D A (fun (r : Int32) (u : CS × (Nat → Int64)) => r = nI kk ∧ (kk = 0 → u.2 0 = v.toInt64) ∧ su_lst (u.1.1 0) (u.1.2.1 0) = L0 ∧ su_lst (u.1.1 1) (u.1.2.1 1) = L1) (fun (u : CS × (Nat → Int64)) => (oo, .inl (cL, 1, .inr (.inl u.2))) :: clsW ad cI cL cZ u.1)) (cc := cL_move) (maxL := 6) (ret := (some .int)) (hh := ([((0 : Nat), (12 : Nat), (15 : Nat), (13 : Nat))])) (by decide) (Nat.le_of_ble_eq_true rfl) ?_
  intro p e s m args below meth c R Q A H locs ls hx hb hr hlocks hin hml hown hts hN hE htab hP hK hD hA hS hRm hQ hl
  have hown : s.vm.findClass RL = some m.cls := hown
  have hl : lv_has ls 6 [(0, .ref (ad 0)), (1, .int x), (2, .int y), (3, .int z), (4, .ref oo)] := hl
  have hR1 : 9 ≤ R.frames := by rw [hRm]; exact Nat.le_of_ble_eq_true rfl
  have hR2 : 320 ≤ R.locals := by rw [hRm]; exact Nat.le_of_ble_eq_true rfl
  have hR3 : 1 ≤ R.cells := by rw [hRm]; exact Nat.le_of_ble_eq_true rfl
  have hR4 : 6 ≤ R.slots := by rw [hRm]; exact Nat.le_of_ble_eq_true rfl
  refine lv_aload hx hb dL_move_0 (lv_at hl 4 rfl) ?_
  refine lv_iconst (v := nI 0) hx hb dL_move_2 (by decide) ?_
  refine lv_aload_n hx hb dL_move_3 rfl (lv_at hl 0 rfl) ?_
  refine lv_iload_n hx hb dL_move_4 rfl (lv_at hl 1 rfl) ?_
  refine lv_iload_n hx hb dL_move_5 rfl (lv_at hl 2 rfl) ?_
  refine lv_iload_n hx hb dL_move_6 rfl (lv_at hl 3 rfl) ?_
  refine su_cHi (wr := [(oo, .inl (cL, 1, .inr (.inl f)))]) (vx_runV (As := [.int x, .int y, .int z]) (rest := [.int (nI 0), .ref oo]) ⟨hx, hb, hml, hown, hts⟩ (K_move l hfl D cI cL cZ H.size ad S ok0 ok1 x y z kk v L0 L1 hr9) (cwV 3 hts (lw_gV q_614 q_615 q_616 q_31 q_617) rfl rfl rfl (by decide +kernel) ⟨Nat.le_trans (Nat.le_of_ble_eq_true rfl) hR1, Nat.le_trans (Nat.le_of_ble_eq_true rfl) hR2⟩) (su_pvx hE hS hA hN hK hP hD [1, 2, 3, 4, 5, 6, 7, 8, 9, 10, 11, 12, 13, 14, 15, 16, 17, 18, 19, 20, 21, 22, 23, 24, 25, 26, 27, 28, 29, 30, 31, 32, 33, 34, 35, 36, 37, 38, 39, 40, 41, 42, 43, 44, 45, 46, 47, 48, 49, 50, 51, 52, 53, 54, 55, 56, 57, 58, 59, 60, 61, 62, 63, 64, 65, 66, 67, 68, 69] [0, 1, 2] rfl rfl rfl (ci := 9) (q0 := 0) rfl rfl rfl) rfl rfl hl.1 rfl (lv_room (Nat.le_of_ble_eq_true rfl)) dL_move_7 ⟨Nat.le_trans (Nat.le_of_ble_eq_true rfl) hR3, Nat.le_trans (Nat.le_of_ble_eq_true rfl) hR4⟩) hP hD hS hA [1, 2, 3, 4, 5, 6, 7, 8, 9, 10, 11, 12, 13, 14, 15, 16, 17, 18, 19, 20, 21, 22, 23, 24, 25, 26, 27, 28, 29, 30, 31, 32, 33, 34, 35, 36, 37, 38, 39, 40, 41, 42, 43, 44, 45, 46, 47, 48, 49, 50, 51, 52, 53, 54, 55, 56, 57, 58, 59, 60, 61, 62, 63, 64, 65, 66, 67, 68, 69] [0] rfl rfl (by decide) (by decide) (fun E ce q9 u H locs hw hP hD hS hce hcv hcl => ?_) (fun r u H locs hw hP hD hS => ?_)
  · have hP : va_P D vwCl ((oo, .inl (cL, 1, .inr (.inl f))) :: clsW ad cI cL cZ u) H := hP
    have hD : va_D A ((oo, .inl (cL, 1, .inr (.inl f))) :: clsW ad cI cL cZ u) := hD
    obtain ⟨rfl, rfl⟩ := su_m1 hw.1
    refine vx_catch (own := RL) (name := "java/lang/IndexOutOfBoundsException") hown [] ⟨0, 12, 15, 13⟩ [] (htab.trans rfl) (fun _ h => absurd h List.not_mem_nil) (by decide) (by decide) (hts _ q_446) (va_Nw.use (A := args) rfl (hN _ q_459)) hce hcv hcl ?_
    refine lv_astore (lv' := [(5, .ref q9), (0, .ref (ad 0)), (1, .int x), (2, .int y), (3, .int z), (4, .ref oo)]) hx hb dL_move_15 hl (by decide) rfl (fun ls hl => ?_)
    refine lv_iconst (v := nI 1) hx hb dL_move_17 (by decide) ?_
    rw [hQ]
    refine vx_ret ?_
    exact su_ei hx hb hr hlocks hS dL_move_18 (u, f) (⟨rfl, fun q => absurd q (by decide), hw.2.1, hw.2.2⟩) hP hD
  · have hP : va_P D vwCl ((oo, .inl (cL, 1, .inr (.inl f))) :: clsW ad cI cL cZ u) H := hP
    have hD : va_D A ((oo, .inl (cL, 1, .inr (.inl f))) :: clsW ad cI cL cZ u) := hD
    refine lv_i2l (v := r.toInt64) hx hb dL_move_10 rfl ?_
    refine su_last hx hb hK hP hD hS 0 1 rfl rfl (i := 0) (by decide) (by decide) (fun _ => r.toInt64) (fun j hj => by first | rfl | (rw [show j = 0 by omega]; first | rfl | exact if_pos rfl)) dL_move_11 (fun H locs hP hD hS => ?_)
    refine lv_goto (tgt := 19) hx hb dL_move_12 (by decide) ?_
    refine lv_iconst (v := nI 0) hx hb dL_move_19 (by decide) ?_
    rw [hQ]
    refine vx_ret ?_
    exact su_ei hx hb hr hlocks hS dL_move_20 (u, fun _ => r.toInt64) (⟨by rw [hw.1.1], fun _ => by show _ = _; rw [← hw.1.2], hw.2.1, hw.2.2⟩) hP hD
set_option maxHeartbeats 4000000 in
set_option maxRecDepth 100000 in
theorem L_number (l : Launch) (hfl : l.stackTraces = false) (D : va_G) (cI cL cZ : ClassId) (sz : Nat) (ad : Nat → Nat) (S : CS) (oo : Nat) (f : Nat → Int64) (ok0 : okL (su_lst (S.1 0) (S.2.1 0))) (ok1 : okL (su_lst (S.1 1) (S.2.1 1))) (x : Int32) (y : Int32) (kk : Nat) (v : Int32) (L0 L1 : List Nat) (hr9 : su_h1 (fun g n => R_number g n y) (S.1 0) (S.2.1 0) (S.1 1) (S.2.1 1) x kk v L0 L1) :
    Met l yL_number (wsH yL_number cL_number 5 (some .int) ([((0 : Nat), (10 : Nat), (13 : Nat), (13 : Nat))])) suRmW (su_prx D (su_T cI cL cZ) sz ((oo, .inl (cL, 1, .inr (.inl f))) :: clsW ad cI cL cZ S) [.ref (ad 0), .int x, .int y, .ref oo]) (su_qi D (va_A ((oo, .inl (cL, 1, .inr (.inl f))) :: clsW ad cI cL cZ S) sz) (fun (r : Int32) (u : CS × (Nat → Int64)) => r = nI kk ∧ (kk = 0 → u.2 0 = v.toInt64) ∧ su_lst (u.1.1 0) (u.1.2.1 0) = L0 ∧ su_lst (u.1.1 1) (u.1.2.1 1) = L1) (fun (u : CS × (Nat → Int64)) => (oo, .inl (cL, 1, .inr (.inl u.2))) :: clsW ad cI cL cZ u.1)) 1 6 (va_A ((oo, .inl (cL, 1, .inr (.inl f))) :: clsW ad cI cL cZ S) sz) := by
  refine su_metH (y := yL_number) (av := [.ref (ad 0), .int x, .int y, .ref oo]) (Qf := fun A => su_qi D A (fun (r : Int32) (u : CS × (Nat → Int64)) => r = nI kk ∧ (kk = 0 → u.2 0 = v.toInt64) ∧ su_lst (u.1.1 0) (u.1.2.1 0) = L0 ∧ su_lst (u.1.1 1) (u.1.2.1 1) = L1) (fun (u : CS × (Nat → Int64)) => (oo, .inl (cL, 1, .inr (.inl u.2))) :: clsW ad cI cL cZ u.1)) (cc := cL_number) (maxL := 5) (ret := (some .int)) (hh := ([((0 : Nat), (10 : Nat), (13 : Nat), (13 : Nat))])) (by decide) (Nat.le_of_ble_eq_true rfl) ?_
  intro p e s m args below meth c R Q A H locs ls hx hb hr hlocks hin hml hown hts hN hE htab hP hK hD hA hS hRm hQ hl
  have hown : s.vm.findClass RL = some m.cls := hown
  have hl : lv_has ls 5 [(0, .ref (ad 0)), (1, .int x), (2, .int y), (3, .ref oo)] := hl
  have hR1 : 9 ≤ R.frames := by rw [hRm]; exact Nat.le_of_ble_eq_true rfl
  have hR2 : 320 ≤ R.locals := by rw [hRm]; exact Nat.le_of_ble_eq_true rfl
  have hR3 : 1 ≤ R.cells := by rw [hRm]; exact Nat.le_of_ble_eq_true rfl
  have hR4 : 6 ≤ R.slots := by rw [hRm]; exact Nat.le_of_ble_eq_true rfl
  refine lv_aload_n hx hb dL_number_0 rfl (lv_at hl 3 rfl) ?_
  refine lv_iconst (v := nI 0) hx hb dL_number_1 (by decide) ?_
  refine lv_aload_n hx hb dL_number_2 rfl (lv_at hl 0 rfl) ?_
  refine lv_iload_n hx hb dL_number_3 rfl (lv_at hl 1 rfl) ?_
  refine lv_iload_n hx hb dL_number_4 rfl (lv_at hl 2 rfl) ?_
  refine su_cHi (wr := [(oo, .inl (cL, 1, .inr (.inl f)))]) (vx_runV (As := [.int x, .int y]) (rest := [.int (nI 0), .ref oo]) ⟨hx, hb, hml, hown, hts⟩ (K_number l hfl D cI cL cZ H.size ad S ok0 ok1 x y kk v L0 L1 hr9) (cwV 2 hts (lw_gV q_667 q_668 q_669 q_31 q_670) rfl rfl rfl (by decide +kernel) ⟨Nat.le_trans (Nat.le_of_ble_eq_true rfl) hR1, Nat.le_trans (Nat.le_of_ble_eq_true rfl) hR2⟩) (su_pvx hE hS hA hN hK hP hD [1, 2, 3, 4, 5, 6, 7, 8, 9, 10, 11, 12, 13, 14, 15, 16, 17, 18, 19, 20, 21, 22, 23, 24, 25, 26, 27, 28, 29, 30, 31, 32, 33, 34, 35, 36, 37, 38, 39, 40, 41, 42, 43, 44, 45, 46, 47, 48, 49, 50, 51, 52, 53, 54, 55, 56, 57, 58, 59, 60, 61, 62, 63, 64, 65, 66, 67, 68, 69] [0, 1, 2] rfl rfl rfl (ci := 9) (q0 := 0) rfl rfl rfl) rfl rfl hl.1 rfl (lv_room (Nat.le_of_ble_eq_true rfl)) dL_number_5 ⟨Nat.le_trans (Nat.le_of_ble_eq_true rfl) hR3, Nat.le_trans (Nat.le_of_ble_eq_true rfl) hR4⟩) hP hD hS hA [1, 2, 3, 4, 5, 6, 7, 8, 9, 10, 11, 12, 13, 14, 15, 16, 17, 18, 19, 20, 21, 22, 23, 24, 25, 26, 27, 28, 29, 30, 31, 32, 33, 34, 35, 36, 37, 38, 39, 40, 41, 42, 43, 44, 45, 46, 47, 48, 49, 50, 51, 52, 53, 54, 55, 56, 57, 58, 59, 60, 61, 62, 63, 64, 65, 66, 67, 68, 69] [0] rfl rfl (by decide) (by decide) (fun E ce q9 u H locs hw hP hD hS hce hcv hcl => ?_) (fun r u H locs hw hP hD hS => ?_)
  · have hP : va_P D vwCl ((oo, .inl (cL, 1, .inr (.inl f))) :: clsW ad cI cL cZ u) H := hP
    have hD : va_D A ((oo, .inl (cL, 1, .inr (.inl f))) :: clsW ad cI cL cZ u) := hD
    obtain ⟨rfl, rfl⟩ := su_m1 hw.1
    refine vx_catch (own := RL) (name := "java/lang/IndexOutOfBoundsException") hown [] ⟨0, 10, 13, 13⟩ [] (htab.trans rfl) (fun _ h => absurd h List.not_mem_nil) (by decide) (by decide) (hts _ q_446) (va_Nw.use (A := args) rfl (hN _ q_459)) hce hcv hcl ?_
    refine lv_astore (lv' := [(4, .ref q9), (0, .ref (ad 0)), (1, .int x), (2, .int y), (3, .ref oo)]) hx hb dL_number_13 hl (by decide) rfl (fun ls hl => ?_)
    refine lv_iconst (v := nI 1) hx hb dL_number_15 (by decide) ?_
    rw [hQ]
    refine vx_ret ?_
    exact su_ei hx hb hr hlocks hS dL_number_16 (u, f) (⟨rfl, fun q => absurd q (by decide), hw.2.1, hw.2.2⟩) hP hD
  · have hP : va_P D vwCl ((oo, .inl (cL, 1, .inr (.inl f))) :: clsW ad cI cL cZ u) H := hP
    have hD : va_D A ((oo, .inl (cL, 1, .inr (.inl f))) :: clsW ad cI cL cZ u) := hD
    refine lv_i2l (v := r.toInt64) hx hb dL_number_8 rfl ?_
    refine su_last hx hb hK hP hD hS 0 1 rfl rfl (i := 0) (by decide) (by decide) (fun _ => r.toInt64) (fun j hj => by first | rfl | (rw [show j = 0 by omega]; first | rfl | exact if_pos rfl)) dL_number_9 (fun H locs hP hD hS => ?_)
    refine lv_goto (tgt := 17) hx hb dL_number_10 (by decide) ?_
    refine lv_iconst (v := nI 0) hx hb dL_number_17 (by decide) ?_
    rw [hQ]
    refine vx_ret ?_
    exact su_ei hx hb hr hlocks hS dL_number_18 (u, fun _ => r.toInt64) (⟨by rw [hw.1.1], fun _ => by show _ = _; rw [← hw.1.2], hw.2.1, hw.2.2⟩) hP hD
set_option maxHeartbeats 4000000 in
set_option maxRecDepth 100000 in
theorem L_next (l : Launch) (hfl : l.stackTraces = false) (D : va_G) (cI cL cZ : ClassId) (sz : Nat) (ad : Nat → Nat) (S : CS) (oo : Nat) (f : Nat → Int64) (ok0 : okL (su_lst (S.1 0) (S.2.1 0))) (ok1 : okL (su_lst (S.1 1) (S.2.1 1))) (x : Int32) (y : Int32) (b : Bool) (kk : Nat) (v : Int32) (L0 L1 : List Nat) (hr9 : su_h1 (fun g n => R_next g n y b) (S.1 0) (S.2.1 0) (S.1 1) (S.2.1 1) x kk v L0 L1) :
    Met l yL_next (wsH yL_next cL_next 6 (some .int) ([((0 : Nat), (12 : Nat), (15 : Nat), (13 : Nat)), ((0 : Nat), (12 : Nat), (19 : Nat), (15 : Nat)), ((0 : Nat), (12 : Nat), (23 : Nat), (63 : Nat))])) suRmW (su_prx D (su_T cI cL cZ) sz ((oo, .inl (cL, 1, .inr (.inl f))) :: clsW ad cI cL cZ S) [.ref (ad 0), .int x, .int y, .int (bI b), .ref oo]) (su_qi D (va_A ((oo, .inl (cL, 1, .inr (.inl f))) :: clsW ad cI cL cZ S) sz) (fun (r : Int32) (u : CS × (Nat → Int64)) => r = nI kk ∧ (kk = 0 → u.2 0 = v.toInt64) ∧ su_lst (u.1.1 0) (u.1.2.1 0) = L0 ∧ su_lst (u.1.1 1) (u.1.2.1 1) = L1) (fun (u : CS × (Nat → Int64)) => (oo, .inl (cL, 1, .inr (.inl u.2))) :: clsW ad cI cL cZ u.1)) 1 6 (va_A ((oo, .inl (cL, 1, .inr (.inl f))) :: clsW ad cI cL cZ S) sz) := by
  refine su_metH (y := yL_next) (av := [.ref (ad 0), .int x, .int y, .int (bI b), .ref oo]) (Qf := fun A => su_qi D A (fun (r : Int32) (u : CS × (Nat → Int64)) => r = nI kk ∧ (kk = 0 → u.2 0 = v.toInt64) ∧ su_lst (u.1.1 0) (u.1.2.1 0) = L0 ∧ su_lst (u.1.1 1) (u.1.2.1 1) = L1) (fun (u : CS × (Nat → Int64)) => (oo, .inl (cL, 1, .inr (.inl u.2))) :: clsW ad cI cL cZ u.1)) (cc := cL_next) (maxL := 6) (ret := (some .int)) (hh := ([((0 : Nat), (12 : Nat), (15 : Nat), (13 : Nat)), ((0 : Nat), (12 : Nat), (19 : Nat), (15 : Nat)), ((0 : Nat), (12 : Nat), (23 : Nat), (63 : Nat))])) (by decide) (Nat.le_of_ble_eq_true rfl) ?_
  intro p e s m args below meth c R Q A H locs ls hx hb hr hlocks hin hml hown hts hN hE htab hP hK hD hA hS hRm hQ hl
  have hown : s.vm.findClass RL = some m.cls := hown
  have hl : lv_has ls 6 [(0, .ref (ad 0)), (1, .int x), (2, .int y), (3, .int (bI b)), (4, .ref oo)] := hl
  have hR1 : 9 ≤ R.frames := by rw [hRm]; exact Nat.le_of_ble_eq_true rfl
  have hR2 : 320 ≤ R.locals := by rw [hRm]; exact Nat.le_of_ble_eq_true rfl
  have hR3 : 1 ≤ R.cells := by rw [hRm]; exact Nat.le_of_ble_eq_true rfl
  have hR4 : 6 ≤ R.slots := by rw [hRm]; exact Nat.le_of_ble_eq_true rfl
  refine lv_aload hx hb dL_next_0 (lv_at hl 4 rfl) ?_
  refine lv_iconst (v := nI 0) hx hb dL_next_2 (by decide) ?_
  refine lv_aload_n hx hb dL_next_3 rfl (lv_at hl 0 rfl) ?_
  refine lv_iload_n hx hb dL_next_4 rfl (lv_at hl 1 rfl) ?_
  refine lv_iload_n hx hb dL_next_5 rfl (lv_at hl 2 rfl) ?_
  refine lv_iload_n hx hb dL_next_6 rfl (lv_at hl 3 rfl) ?_
  refine su_cHi (wr := [(oo, .inl (cL, 1, .inr (.inl f)))]) (vx_runV (As := [.int x, .int y, .int (bI b)]) (rest := [.int (nI 0), .ref oo]) ⟨hx, hb, hml, hown, hts⟩ (K_next l hfl D cI cL cZ H.size ad S ok0 ok1 x y b kk v L0 L1 hr9) (cwV 3 hts (lw_gV q_713 q_714 q_715 q_31 q_716) rfl rfl rfl (by decide +kernel) ⟨Nat.le_trans (Nat.le_of_ble_eq_true rfl) hR1, Nat.le_trans (Nat.le_of_ble_eq_true rfl) hR2⟩) (su_pvx hE hS hA hN hK hP hD [1, 2, 3, 4, 5, 6, 7, 8, 9, 10, 11, 12, 13, 14, 15, 16, 17, 18, 19, 20, 21, 22, 23, 24, 25, 26, 27, 28, 29, 30, 31, 32, 33, 34, 35, 36, 37, 38, 39, 40, 41, 42, 43, 44, 45, 46, 47, 48, 49, 50, 51, 52, 53, 54, 55, 56, 57, 58, 59, 60, 61, 62, 63, 64, 65, 66, 67, 68, 69] [0, 1, 2] rfl rfl rfl (ci := 9) (q0 := 0) rfl rfl rfl) rfl rfl hl.1 rfl (lv_room (Nat.le_of_ble_eq_true rfl)) dL_next_7 ⟨Nat.le_trans (Nat.le_of_ble_eq_true rfl) hR3, Nat.le_trans (Nat.le_of_ble_eq_true rfl) hR4⟩) hP hD hS hA [1, 2, 3, 4, 5, 6, 7, 8, 9, 10, 11, 12, 13, 14, 15, 16, 17, 18, 19, 20, 21, 22, 23, 24, 25, 26, 27, 28, 29, 30, 31, 32, 33, 34, 35, 36, 37, 38, 39, 40, 41, 42, 43, 44, 45, 46, 47, 48, 49, 50, 51, 52, 53, 54, 55, 56, 57, 58, 59, 60, 61, 62, 63, 64, 65, 66, 67, 68, 69] [0] rfl rfl (by decide) (by decide) (fun E ce q9 u H locs hw hP hD hS hce hcv hcl => ?_) (fun r u H locs hw hP hD hS => ?_)
  · have hP : va_P D vwCl ((oo, .inl (cL, 1, .inr (.inl f))) :: clsW ad cI cL cZ u) H := hP
    have hD : va_D A ((oo, .inl (cL, 1, .inr (.inl f))) :: clsW ad cI cL cZ u) := hD
    rcases su_m3 hw.1 with ⟨rfl, rfl⟩ | ⟨rfl, rfl⟩ | ⟨rfl, rfl⟩
    · refine vx_catch (own := RL) (name := "java/lang/IndexOutOfBoundsException") hown [] ⟨0, 12, 15, 13⟩ [⟨0, 12, 19, 15⟩, ⟨0, 12, 23, 63⟩] (htab.trans rfl) (fun _ h => absurd h List.not_mem_nil) (by decide) (by decide) (hts _ q_446) (va_Nw.use (A := args) rfl (hN _ q_459)) hce hcv hcl ?_
      refine lv_astore (lv' := [(5, .ref q9), (0, .ref (ad 0)), (1, .int x), (2, .int y), (3, .int (bI b)), (4, .ref oo)]) hx hb dL_next_15 hl (by decide) rfl (fun ls hl => ?_)
      refine lv_iconst (v := nI 1) hx hb dL_next_17 (by decide) ?_
      rw [hQ]
      refine vx_ret ?_
      exact su_ei hx hb hr hlocks hS dL_next_18 (u, f) (⟨rfl, fun q => absurd q (by decide), hw.2.1, hw.2.2⟩) hP hD
    · refine vx_catch (own := RL) (name := "java/lang/IllegalArgumentException") hown [⟨0, 12, 15, 13⟩] ⟨0, 12, 19, 15⟩ [⟨0, 12, 23, 63⟩] (htab.trans rfl) (List.forall_mem_cons.mpr ⟨Or.inr ⟨by decide, "java/lang/IndexOutOfBoundsException", hts _ q_446, hE.2.2.2 ("java/lang/IllegalArgumentException", "java/lang/IndexOutOfBoundsException") (by decide +kernel)⟩, fun _ h => absurd h List.not_mem_nil⟩) (by decide) (by decide) (hts _ q_447) (va_Nw.use (A := args) rfl (hN _ q_535)) hce hcv hcl ?_
      refine lv_astore (lv' := [(5, .ref q9), (0, .ref (ad 0)), (1, .int x), (2, .int y), (3, .int (bI b)), (4, .ref oo)]) hx hb dL_next_19 hl (by decide) rfl (fun ls hl => ?_)
      refine lv_iconst (v := nI 2) hx hb dL_next_21 (by decide) ?_
      rw [hQ]
      refine vx_ret ?_
      exact su_ei hx hb hr hlocks hS dL_next_22 (u, f) (⟨rfl, fun q => absurd q (by decide), hw.2.1, hw.2.2⟩) hP hD
    · refine vx_catch (own := RL) (name := "java/util/NoSuchElementException") hown [⟨0, 12, 15, 13⟩, ⟨0, 12, 19, 15⟩] ⟨0, 12, 23, 63⟩ [] (htab.trans rfl) (List.forall_mem_cons.mpr ⟨Or.inr ⟨by decide, "java/lang/IndexOutOfBoundsException", hts _ q_446, hE.2.2.2 ("java/util/NoSuchElementException", "java/lang/IndexOutOfBoundsException") (by decide +kernel)⟩, List.forall_mem_cons.mpr ⟨Or.inr ⟨by decide, "java/lang/IllegalArgumentException", hts _ q_447, hE.2.2.2 ("java/util/NoSuchElementException", "java/lang/IllegalArgumentException") (by decide +kernel)⟩, fun _ h => absurd h List.not_mem_nil⟩⟩) (by decide) (by decide) (hts _ q_712) (va_Nw.use (A := args) rfl (hN _ q_722)) hce hcv hcl ?_
      refine lv_astore (lv' := [(5, .ref q9), (0, .ref (ad 0)), (1, .int x), (2, .int y), (3, .int (bI b)), (4, .ref oo)]) hx hb dL_next_23 hl (by decide) rfl (fun ls hl => ?_)
      refine lv_iconst (v := nI 3) hx hb dL_next_25 (by decide) ?_
      rw [hQ]
      refine vx_ret ?_
      exact su_ei hx hb hr hlocks hS dL_next_26 (u, f) (⟨rfl, fun q => absurd q (by decide), hw.2.1, hw.2.2⟩) hP hD
  · have hP : va_P D vwCl ((oo, .inl (cL, 1, .inr (.inl f))) :: clsW ad cI cL cZ u) H := hP
    have hD : va_D A ((oo, .inl (cL, 1, .inr (.inl f))) :: clsW ad cI cL cZ u) := hD
    refine lv_i2l (v := r.toInt64) hx hb dL_next_10 rfl ?_
    refine su_last hx hb hK hP hD hS 0 1 rfl rfl (i := 0) (by decide) (by decide) (fun _ => r.toInt64) (fun j hj => by first | rfl | (rw [show j = 0 by omega]; first | rfl | exact if_pos rfl)) dL_next_11 (fun H locs hP hD hS => ?_)
    refine lv_goto (tgt := 27) hx hb dL_next_12 (by decide) ?_
    refine lv_iconst (v := nI 0) hx hb dL_next_27 (by decide) ?_
    rw [hQ]
    refine vx_ret ?_
    exact su_ei hx hb hr hlocks hS dL_next_28 (u, fun _ => r.toInt64) (⟨by rw [hw.1.1], fun _ => by show _ = _; rw [← hw.1.2], hw.2.1, hw.2.2⟩) hP hD
set_option maxHeartbeats 4000000 in
set_option maxRecDepth 100000 in
theorem L_ways (l : Launch) (hfl : l.stackTraces = false) (D : va_G) (cI cL cZ : ClassId) (sz : Nat) (ad : Nat → Nat) (S : CS) (oo : Nat) (f : Nat → Int64) (ok0 : okL (su_lst (S.1 0) (S.2.1 0))) (ok1 : okL (su_lst (S.1 1) (S.2.1 1))) (x : Int32) (y : Int32) (b : Bool) (kk : Nat) (v : Int64) (L0 L1 : List Nat) (hr9 : su_h1 (fun g n => R_ways g n y b) (S.1 0) (S.2.1 0) (S.1 1) (S.2.1 1) x kk v L0 L1) :
    Met l yL_ways (wsH yL_ways cL_ways 6 (some .int) ([((0 : Nat), (11 : Nat), (14 : Nat), (13 : Nat)), ((0 : Nat), (11 : Nat), (18 : Nat), (15 : Nat))])) suRmW (su_prx D (su_T cI cL cZ) sz ((oo, .inl (cL, 1, .inr (.inl f))) :: clsW ad cI cL cZ S) [.ref (ad 0), .int x, .int y, .int (bI b), .ref oo]) (su_qi D (va_A ((oo, .inl (cL, 1, .inr (.inl f))) :: clsW ad cI cL cZ S) sz) (fun (r : Int32) (u : CS × (Nat → Int64)) => r = nI kk ∧ (kk = 0 → u.2 0 = v) ∧ su_lst (u.1.1 0) (u.1.2.1 0) = L0 ∧ su_lst (u.1.1 1) (u.1.2.1 1) = L1) (fun (u : CS × (Nat → Int64)) => (oo, .inl (cL, 1, .inr (.inl u.2))) :: clsW ad cI cL cZ u.1)) 1 6 (va_A ((oo, .inl (cL, 1, .inr (.inl f))) :: clsW ad cI cL cZ S) sz) := by
  refine su_metH (y := yL_ways) (av := [.ref (ad 0), .int x, .int y, .int (bI b), .ref oo]) (Qf := fun A => su_qi D A (fun (r : Int32) (u : CS × (Nat → Int64)) => r = nI kk ∧ (kk = 0 → u.2 0 = v) ∧ su_lst (u.1.1 0) (u.1.2.1 0) = L0 ∧ su_lst (u.1.1 1) (u.1.2.1 1) = L1) (fun (u : CS × (Nat → Int64)) => (oo, .inl (cL, 1, .inr (.inl u.2))) :: clsW ad cI cL cZ u.1)) (cc := cL_ways) (maxL := 6) (ret := (some .int)) (hh := ([((0 : Nat), (11 : Nat), (14 : Nat), (13 : Nat)), ((0 : Nat), (11 : Nat), (18 : Nat), (15 : Nat))])) (by decide) (Nat.le_of_ble_eq_true rfl) ?_
  intro p e s m args below meth c R Q A H locs ls hx hb hr hlocks hin hml hown hts hN hE htab hP hK hD hA hS hRm hQ hl
  have hown : s.vm.findClass RL = some m.cls := hown
  have hl : lv_has ls 6 [(0, .ref (ad 0)), (1, .int x), (2, .int y), (3, .int (bI b)), (4, .ref oo)] := hl
  have hR1 : 9 ≤ R.frames := by rw [hRm]; exact Nat.le_of_ble_eq_true rfl
  have hR2 : 320 ≤ R.locals := by rw [hRm]; exact Nat.le_of_ble_eq_true rfl
  have hR3 : 1 ≤ R.cells := by rw [hRm]; exact Nat.le_of_ble_eq_true rfl
  have hR4 : 6 ≤ R.slots := by rw [hRm]; exact Nat.le_of_ble_eq_true rfl
  refine lv_aload hx hb dL_ways_0 (lv_at hl 4 rfl) ?_
  refine lv_iconst (v := nI 0) hx hb dL_ways_2 (by decide) ?_
  refine lv_aload_n hx hb dL_ways_3 rfl (lv_at hl 0 rfl) ?_
  refine lv_iload_n hx hb dL_ways_4 rfl (lv_at hl 1 rfl) ?_
  refine lv_iload_n hx hb dL_ways_5 rfl (lv_at hl 2 rfl) ?_
  refine lv_iload_n hx hb dL_ways_6 rfl (lv_at hl 3 rfl) ?_
  refine su_cHl (wr := [(oo, .inl (cL, 1, .inr (.inl f)))]) (vx_runV (As := [.int x, .int y, .int (bI b)]) (rest := [.int (nI 0), .ref oo]) ⟨hx, hb, hml, hown, hts⟩ (K_ways l hfl D cI cL cZ H.size ad S ok0 ok1 x y b kk v L0 L1 hr9) (cwV 3 hts (lw_gV q_761 q_762 q_763 q_31 q_764) rfl rfl rfl (by decide +kernel) ⟨Nat.le_trans (Nat.le_of_ble_eq_true rfl) hR1, Nat.le_trans (Nat.le_of_ble_eq_true rfl) hR2⟩) (su_pvx hE hS hA hN hK hP hD [1, 2, 3, 4, 5, 6, 7, 8, 9, 10, 11, 12, 13, 14, 15, 16, 17, 18, 19, 20, 21, 22, 23, 24, 25, 26, 27, 28, 29, 30, 31, 32, 33, 34, 35, 36, 37, 38, 39, 40, 41, 42, 43, 44, 45, 46, 47, 48, 49, 50, 51, 52, 53, 54, 55, 56, 57, 58, 59, 60, 61, 62, 63, 64, 65, 66, 67, 68, 69] [0, 1, 2] rfl rfl rfl (ci := 9) (q0 := 0) rfl rfl rfl) rfl rfl hl.1 rfl (lv_room (Nat.le_of_ble_eq_true rfl)) dL_ways_7 ⟨Nat.le_trans (Nat.le_of_ble_eq_true rfl) hR3, Nat.le_trans (Nat.le_of_ble_eq_true rfl) hR4⟩) hP hD hS hA [1, 2, 3, 4, 5, 6, 7, 8, 9, 10, 11, 12, 13, 14, 15, 16, 17, 18, 19, 20, 21, 22, 23, 24, 25, 26, 27, 28, 29, 30, 31, 32, 33, 34, 35, 36, 37, 38, 39, 40, 41, 42, 43, 44, 45, 46, 47, 48, 49, 50, 51, 52, 53, 54, 55, 56, 57, 58, 59, 60, 61, 62, 63, 64, 65, 66, 67, 68, 69] [0] rfl rfl (by decide) (by decide) (fun E ce q9 u H locs hw hP hD hS hce hcv hcl => ?_) (fun r u H locs hw hP hD hS => ?_)
  · have hP : va_P D vwCl ((oo, .inl (cL, 1, .inr (.inl f))) :: clsW ad cI cL cZ u) H := hP
    have hD : va_D A ((oo, .inl (cL, 1, .inr (.inl f))) :: clsW ad cI cL cZ u) := hD
    rcases su_m2 hw.1 with ⟨rfl, rfl⟩ | ⟨rfl, rfl⟩
    · refine vx_catch (own := RL) (name := "java/lang/IndexOutOfBoundsException") hown [] ⟨0, 11, 14, 13⟩ [⟨0, 11, 18, 15⟩] (htab.trans rfl) (fun _ h => absurd h List.not_mem_nil) (by decide) (by decide) (hts _ q_446) (va_Nw.use (A := args) rfl (hN _ q_459)) hce hcv hcl ?_
      refine lv_astore (lv' := [(5, .ref q9), (0, .ref (ad 0)), (1, .int x), (2, .int y), (3, .int (bI b)), (4, .ref oo)]) hx hb dL_ways_14 hl (by decide) rfl (fun ls hl => ?_)
      refine lv_iconst (v := nI 1) hx hb dL_ways_16 (by decide) ?_
      rw [hQ]
      refine vx_ret ?_
      exact su_ei hx hb hr hlocks hS dL_ways_17 (u, f) (⟨rfl, fun q => absurd q (by decide), hw.2.1, hw.2.2⟩) hP hD
    · refine vx_catch (own := RL) (name := "java/lang/IllegalArgumentException") hown [⟨0, 11, 14, 13⟩] ⟨0, 11, 18, 15⟩ [] (htab.trans rfl) (List.forall_mem_cons.mpr ⟨Or.inr ⟨by decide, "java/lang/IndexOutOfBoundsException", hts _ q_446, hE.2.2.2 ("java/lang/IllegalArgumentException", "java/lang/IndexOutOfBoundsException") (by decide +kernel)⟩, fun _ h => absurd h List.not_mem_nil⟩) (by decide) (by decide) (hts _ q_447) (va_Nw.use (A := args) rfl (hN _ q_535)) hce hcv hcl ?_
      refine lv_astore (lv' := [(5, .ref q9), (0, .ref (ad 0)), (1, .int x), (2, .int y), (3, .int (bI b)), (4, .ref oo)]) hx hb dL_ways_18 hl (by decide) rfl (fun ls hl => ?_)
      refine lv_iconst (v := nI 2) hx hb dL_ways_20 (by decide) ?_
      rw [hQ]
      refine vx_ret ?_
      exact su_ei hx hb hr hlocks hS dL_ways_21 (u, f) (⟨rfl, fun q => absurd q (by decide), hw.2.1, hw.2.2⟩) hP hD
  · have hP : va_P D vwCl ((oo, .inl (cL, 1, .inr (.inl f))) :: clsW ad cI cL cZ u) H := hP
    have hD : va_D A ((oo, .inl (cL, 1, .inr (.inl f))) :: clsW ad cI cL cZ u) := hD
    refine su_last hx hb hK hP hD hS 0 1 rfl rfl (i := 0) (by decide) (by decide) (fun _ => r) (fun j hj => by first | rfl | (rw [show j = 0 by omega]; first | rfl | exact if_pos rfl)) dL_ways_10 (fun H locs hP hD hS => ?_)
    refine lv_goto (tgt := 22) hx hb dL_ways_11 (by decide) ?_
    refine lv_iconst (v := nI 0) hx hb dL_ways_22 (by decide) ?_
    rw [hQ]
    refine vx_ret ?_
    exact su_ei hx hb hr hlocks hS dL_ways_23 (u, fun _ => r) (⟨by rw [hw.1.1], fun _ => by show _ = _; rw [← hw.1.2], hw.2.1, hw.2.2⟩) hP hD
set_option maxHeartbeats 4000000 in
set_option maxRecDepth 100000 in
theorem L_fair (l : Launch) (hfl : l.stackTraces = false) (D : va_G) (cI cL cZ : ClassId) (sz : Nat) (ad : Nat → Nat) (S : CS) (oo : Nat) (f : Nat → Int64) (ok0 : okL (su_lst (S.1 0) (S.2.1 0))) (ok1 : okL (su_lst (S.1 1) (S.2.1 1))) (x : Int32) (kk : Nat) (v : Int32) (L0 L1 : List Nat) (hr9 : su_h1 (fun g n => R_fair g n) (S.1 0) (S.2.1 0) (S.1 1) (S.2.1 1) x kk v L0 L1) :
    Met l yL_fair (wsH yL_fair cL_fair 4 (some .int) ([((0 : Nat), (9 : Nat), (12 : Nat), (13 : Nat))])) suRmW (su_prx D (su_T cI cL cZ) sz ((oo, .inl (cL, 1, .inr (.inl f))) :: clsW ad cI cL cZ S) [.ref (ad 0), .int x, .ref oo]) (su_qi D (va_A ((oo, .inl (cL, 1, .inr (.inl f))) :: clsW ad cI cL cZ S) sz) (fun (r : Int32) (u : CS × (Nat → Int64)) => r = nI kk ∧ (kk = 0 → u.2 0 = v.toInt64) ∧ su_lst (u.1.1 0) (u.1.2.1 0) = L0 ∧ su_lst (u.1.1 1) (u.1.2.1 1) = L1) (fun (u : CS × (Nat → Int64)) => (oo, .inl (cL, 1, .inr (.inl u.2))) :: clsW ad cI cL cZ u.1)) 1 6 (va_A ((oo, .inl (cL, 1, .inr (.inl f))) :: clsW ad cI cL cZ S) sz) := by
  refine su_metH (y := yL_fair) (av := [.ref (ad 0), .int x, .ref oo]) (Qf := fun A => su_qi D A (fun (r : Int32) (u : CS × (Nat → Int64)) => r = nI kk ∧ (kk = 0 → u.2 0 = v.toInt64) ∧ su_lst (u.1.1 0) (u.1.2.1 0) = L0 ∧ su_lst (u.1.1 1) (u.1.2.1 1) = L1) (fun (u : CS × (Nat → Int64)) => (oo, .inl (cL, 1, .inr (.inl u.2))) :: clsW ad cI cL cZ u.1)) (cc := cL_fair) (maxL := 4) (ret := (some .int)) (hh := ([((0 : Nat), (9 : Nat), (12 : Nat), (13 : Nat))])) (by decide) (Nat.le_of_ble_eq_true rfl) ?_
  intro p e s m args below meth c R Q A H locs ls hx hb hr hlocks hin hml hown hts hN hE htab hP hK hD hA hS hRm hQ hl
  have hown : s.vm.findClass RL = some m.cls := hown
  have hl : lv_has ls 4 [(0, .ref (ad 0)), (1, .int x), (2, .ref oo)] := hl
  have hR1 : 9 ≤ R.frames := by rw [hRm]; exact Nat.le_of_ble_eq_true rfl
  have hR2 : 320 ≤ R.locals := by rw [hRm]; exact Nat.le_of_ble_eq_true rfl
  have hR3 : 1 ≤ R.cells := by rw [hRm]; exact Nat.le_of_ble_eq_true rfl
  have hR4 : 6 ≤ R.slots := by rw [hRm]; exact Nat.le_of_ble_eq_true rfl
  refine lv_aload_n hx hb dL_fair_0 rfl (lv_at hl 2 rfl) ?_
  refine lv_iconst (v := nI 0) hx hb dL_fair_1 (by decide) ?_
  refine lv_aload_n hx hb dL_fair_2 rfl (lv_at hl 0 rfl) ?_
  refine lv_iload_n hx hb dL_fair_3 rfl (lv_at hl 1 rfl) ?_
  refine su_cHi (wr := [(oo, .inl (cL, 1, .inr (.inl f)))]) (vx_runV (As := [.int x]) (rest := [.int (nI 0), .ref oo]) ⟨hx, hb, hml, hown, hts⟩ (K_fair l hfl D cI cL cZ H.size ad S ok0 ok1 x kk v L0 L1 hr9) (cwV 1 hts (lw_gV q_810 q_811 q_812 q_31 q_813) rfl rfl rfl (by decide +kernel) ⟨Nat.le_trans (Nat.le_of_ble_eq_true rfl) hR1, Nat.le_trans (Nat.le_of_ble_eq_true rfl) hR2⟩) (su_pvx hE hS hA hN hK hP hD [1, 2, 3, 4, 5, 6, 7, 8, 9, 10, 11, 12, 13, 14, 15, 16, 17, 18, 19, 20, 21, 22, 23, 24, 25, 26, 27, 28, 29, 30, 31, 32, 33, 34, 35, 36, 37, 38, 39, 40, 41, 42, 43, 44, 45, 46, 47, 48, 49, 50, 51, 52, 53, 54, 55, 56, 57, 58, 59, 60, 61, 62, 63, 64, 65, 66, 67, 68, 69] [0, 1, 2] rfl rfl rfl (ci := 9) (q0 := 0) rfl rfl rfl) rfl rfl hl.1 rfl (lv_room (Nat.le_of_ble_eq_true rfl)) dL_fair_4 ⟨Nat.le_trans (Nat.le_of_ble_eq_true rfl) hR3, Nat.le_trans (Nat.le_of_ble_eq_true rfl) hR4⟩) hP hD hS hA [1, 2, 3, 4, 5, 6, 7, 8, 9, 10, 11, 12, 13, 14, 15, 16, 17, 18, 19, 20, 21, 22, 23, 24, 25, 26, 27, 28, 29, 30, 31, 32, 33, 34, 35, 36, 37, 38, 39, 40, 41, 42, 43, 44, 45, 46, 47, 48, 49, 50, 51, 52, 53, 54, 55, 56, 57, 58, 59, 60, 61, 62, 63, 64, 65, 66, 67, 68, 69] [0] rfl rfl (by decide) (by decide) (fun E ce q9 u H locs hw hP hD hS hce hcv hcl => ?_) (fun r u H locs hw hP hD hS => ?_)
  · have hP : va_P D vwCl ((oo, .inl (cL, 1, .inr (.inl f))) :: clsW ad cI cL cZ u) H := hP
    have hD : va_D A ((oo, .inl (cL, 1, .inr (.inl f))) :: clsW ad cI cL cZ u) := hD
    obtain ⟨rfl, rfl⟩ := su_m1 hw.1
    refine vx_catch (own := RL) (name := "java/lang/IndexOutOfBoundsException") hown [] ⟨0, 9, 12, 13⟩ [] (htab.trans rfl) (fun _ h => absurd h List.not_mem_nil) (by decide) (by decide) (hts _ q_446) (va_Nw.use (A := args) rfl (hN _ q_459)) hce hcv hcl ?_
    refine lv_astore_n (lv' := [(3, .ref q9), (0, .ref (ad 0)), (1, .int x), (2, .ref oo)]) hx hb dL_fair_12 rfl hl (by decide) rfl (fun ls hl => ?_)
    refine lv_iconst (v := nI 1) hx hb dL_fair_13 (by decide) ?_
    rw [hQ]
    refine vx_ret ?_
    exact su_ei hx hb hr hlocks hS dL_fair_14 (u, f) (⟨rfl, fun q => absurd q (by decide), hw.2.1, hw.2.2⟩) hP hD
  · have hP : va_P D vwCl ((oo, .inl (cL, 1, .inr (.inl f))) :: clsW ad cI cL cZ u) H := hP
    have hD : va_D A ((oo, .inl (cL, 1, .inr (.inl f))) :: clsW ad cI cL cZ u) := hD
    refine lv_i2l (v := r.toInt64) hx hb dL_fair_7 rfl ?_
    refine su_last hx hb hK hP hD hS 0 1 rfl rfl (i := 0) (by decide) (by decide) (fun _ => r.toInt64) (fun j hj => by first | rfl | (rw [show j = 0 by omega]; first | rfl | exact if_pos rfl)) dL_fair_8 (fun H locs hP hD hS => ?_)
    refine lv_goto (tgt := 15) hx hb dL_fair_9 (by decide) ?_
    refine lv_iconst (v := nI 0) hx hb dL_fair_15 (by decide) ?_
    rw [hQ]
    refine vx_ret ?_
    exact su_ei hx hb hr hlocks hS dL_fair_16 (u, fun _ => r.toInt64) (⟨by rw [hw.1.1], fun _ => by show _ = _; rw [← hw.1.2], hw.2.1, hw.2.2⟩) hP hD
set_option maxHeartbeats 4000000 in
set_option maxRecDepth 100000 in
theorem L_rank (l : Launch) (hfl : l.stackTraces = false) (D : va_G) (cI cL cZ : ClassId) (sz : Nat) (ad : Nat → Nat) (S : CS) (oo : Nat) (f : Nat → Int64) (ok0 : okL (su_lst (S.1 0) (S.2.1 0))) (ok1 : okL (su_lst (S.1 1) (S.2.1 1))) (x : Int32) (y : Int32) (kk : Nat) (v : Int32) (L0 L1 : List Nat) (hr9 : su_h1 (fun g n => R_rank g n y) (S.1 0) (S.2.1 0) (S.1 1) (S.2.1 1) x kk v L0 L1) :
    Met l yL_rank (wsH yL_rank cL_rank 5 (some .int) ([((0 : Nat), (10 : Nat), (13 : Nat), (13 : Nat)), ((0 : Nat), (10 : Nat), (17 : Nat), (15 : Nat))])) suRmW (su_prx D (su_T cI cL cZ) sz ((oo, .inl (cL, 1, .inr (.inl f))) :: clsW ad cI cL cZ S) [.ref (ad 0), .int x, .int y, .ref oo]) (su_qi D (va_A ((oo, .inl (cL, 1, .inr (.inl f))) :: clsW ad cI cL cZ S) sz) (fun (r : Int32) (u : CS × (Nat → Int64)) => r = nI kk ∧ (kk = 0 → u.2 0 = v.toInt64) ∧ su_lst (u.1.1 0) (u.1.2.1 0) = L0 ∧ su_lst (u.1.1 1) (u.1.2.1 1) = L1) (fun (u : CS × (Nat → Int64)) => (oo, .inl (cL, 1, .inr (.inl u.2))) :: clsW ad cI cL cZ u.1)) 1 6 (va_A ((oo, .inl (cL, 1, .inr (.inl f))) :: clsW ad cI cL cZ S) sz) := by
  refine su_metH (y := yL_rank) (av := [.ref (ad 0), .int x, .int y, .ref oo]) (Qf := fun A => su_qi D A (fun (r : Int32) (u : CS × (Nat → Int64)) => r = nI kk ∧ (kk = 0 → u.2 0 = v.toInt64) ∧ su_lst (u.1.1 0) (u.1.2.1 0) = L0 ∧ su_lst (u.1.1 1) (u.1.2.1 1) = L1) (fun (u : CS × (Nat → Int64)) => (oo, .inl (cL, 1, .inr (.inl u.2))) :: clsW ad cI cL cZ u.1)) (cc := cL_rank) (maxL := 5) (ret := (some .int)) (hh := ([((0 : Nat), (10 : Nat), (13 : Nat), (13 : Nat)), ((0 : Nat), (10 : Nat), (17 : Nat), (15 : Nat))])) (by decide) (Nat.le_of_ble_eq_true rfl) ?_
  intro p e s m args below meth c R Q A H locs ls hx hb hr hlocks hin hml hown hts hN hE htab hP hK hD hA hS hRm hQ hl
  have hown : s.vm.findClass RL = some m.cls := hown
  have hl : lv_has ls 5 [(0, .ref (ad 0)), (1, .int x), (2, .int y), (3, .ref oo)] := hl
  have hR1 : 9 ≤ R.frames := by rw [hRm]; exact Nat.le_of_ble_eq_true rfl
  have hR2 : 320 ≤ R.locals := by rw [hRm]; exact Nat.le_of_ble_eq_true rfl
  have hR3 : 1 ≤ R.cells := by rw [hRm]; exact Nat.le_of_ble_eq_true rfl
  have hR4 : 6 ≤ R.slots := by rw [hRm]; exact Nat.le_of_ble_eq_true rfl
  refine lv_aload_n hx hb dL_rank_0 rfl (lv_at hl 3 rfl) ?_
  refine lv_iconst (v := nI 0) hx hb dL_rank_1 (by decide) ?_
  refine lv_aload_n hx hb dL_rank_2 rfl (lv_at hl 0 rfl) ?_
  refine lv_iload_n hx hb dL_rank_3 rfl (lv_at hl 1 rfl) ?_
  refine lv_iload_n hx hb dL_rank_4 rfl (lv_at hl 2 rfl) ?_
  refine su_cHi (wr := [(oo, .inl (cL, 1, .inr (.inl f)))]) (vx_runV (As := [.int x, .int y]) (rest := [.int (nI 0), .ref oo]) ⟨hx, hb, hml, hown, hts⟩ (K_rank l hfl D cI cL cZ H.size ad S ok0 ok1 x y kk v L0 L1 hr9) (cwV 2 hts (lw_gV q_847 q_848 q_849 q_31 q_850) rfl rfl rfl (by decide +kernel) ⟨Nat.le_trans (Nat.le_of_ble_eq_true rfl) hR1, Nat.le_trans (Nat.le_of_ble_eq_true rfl) hR2⟩) (su_pvx hE hS hA hN hK hP hD [1, 2, 3, 4, 5, 6, 7, 8, 9, 10, 11, 12, 13, 14, 15, 16, 17, 18, 19, 20, 21, 22, 23, 24, 25, 26, 27, 28, 29, 30, 31, 32, 33, 34, 35, 36, 37, 38, 39, 40, 41, 42, 43, 44, 45, 46, 47, 48, 49, 50, 51, 52, 53, 54, 55, 56, 57, 58, 59, 60, 61, 62, 63, 64, 65, 66, 67, 68, 69] [0, 1, 2] rfl rfl rfl (ci := 9) (q0 := 0) rfl rfl rfl) rfl rfl hl.1 rfl (lv_room (Nat.le_of_ble_eq_true rfl)) dL_rank_5 ⟨Nat.le_trans (Nat.le_of_ble_eq_true rfl) hR3, Nat.le_trans (Nat.le_of_ble_eq_true rfl) hR4⟩) hP hD hS hA [1, 2, 3, 4, 5, 6, 7, 8, 9, 10, 11, 12, 13, 14, 15, 16, 17, 18, 19, 20, 21, 22, 23, 24, 25, 26, 27, 28, 29, 30, 31, 32, 33, 34, 35, 36, 37, 38, 39, 40, 41, 42, 43, 44, 45, 46, 47, 48, 49, 50, 51, 52, 53, 54, 55, 56, 57, 58, 59, 60, 61, 62, 63, 64, 65, 66, 67, 68, 69] [0] rfl rfl (by decide) (by decide) (fun E ce q9 u H locs hw hP hD hS hce hcv hcl => ?_) (fun r u H locs hw hP hD hS => ?_)
  · have hP : va_P D vwCl ((oo, .inl (cL, 1, .inr (.inl f))) :: clsW ad cI cL cZ u) H := hP
    have hD : va_D A ((oo, .inl (cL, 1, .inr (.inl f))) :: clsW ad cI cL cZ u) := hD
    rcases su_m2 hw.1 with ⟨rfl, rfl⟩ | ⟨rfl, rfl⟩
    · refine vx_catch (own := RL) (name := "java/lang/IndexOutOfBoundsException") hown [] ⟨0, 10, 13, 13⟩ [⟨0, 10, 17, 15⟩] (htab.trans rfl) (fun _ h => absurd h List.not_mem_nil) (by decide) (by decide) (hts _ q_446) (va_Nw.use (A := args) rfl (hN _ q_459)) hce hcv hcl ?_
      refine lv_astore (lv' := [(4, .ref q9), (0, .ref (ad 0)), (1, .int x), (2, .int y), (3, .ref oo)]) hx hb dL_rank_13 hl (by decide) rfl (fun ls hl => ?_)
      refine lv_iconst (v := nI 1) hx hb dL_rank_15 (by decide) ?_
      rw [hQ]
      refine vx_ret ?_
      exact su_ei hx hb hr hlocks hS dL_rank_16 (u, f) (⟨rfl, fun q => absurd q (by decide), hw.2.1, hw.2.2⟩) hP hD
    · refine vx_catch (own := RL) (name := "java/lang/IllegalArgumentException") hown [⟨0, 10, 13, 13⟩] ⟨0, 10, 17, 15⟩ [] (htab.trans rfl) (List.forall_mem_cons.mpr ⟨Or.inr ⟨by decide, "java/lang/IndexOutOfBoundsException", hts _ q_446, hE.2.2.2 ("java/lang/IllegalArgumentException", "java/lang/IndexOutOfBoundsException") (by decide +kernel)⟩, fun _ h => absurd h List.not_mem_nil⟩) (by decide) (by decide) (hts _ q_447) (va_Nw.use (A := args) rfl (hN _ q_535)) hce hcv hcl ?_
      refine lv_astore (lv' := [(4, .ref q9), (0, .ref (ad 0)), (1, .int x), (2, .int y), (3, .ref oo)]) hx hb dL_rank_17 hl (by decide) rfl (fun ls hl => ?_)
      refine lv_iconst (v := nI 2) hx hb dL_rank_19 (by decide) ?_
      rw [hQ]
      refine vx_ret ?_
      exact su_ei hx hb hr hlocks hS dL_rank_20 (u, f) (⟨rfl, fun q => absurd q (by decide), hw.2.1, hw.2.2⟩) hP hD
  · have hP : va_P D vwCl ((oo, .inl (cL, 1, .inr (.inl f))) :: clsW ad cI cL cZ u) H := hP
    have hD : va_D A ((oo, .inl (cL, 1, .inr (.inl f))) :: clsW ad cI cL cZ u) := hD
    refine lv_i2l (v := r.toInt64) hx hb dL_rank_8 rfl ?_
    refine su_last hx hb hK hP hD hS 0 1 rfl rfl (i := 0) (by decide) (by decide) (fun _ => r.toInt64) (fun j hj => by first | rfl | (rw [show j = 0 by omega]; first | rfl | exact if_pos rfl)) dL_rank_9 (fun H locs hP hD hS => ?_)
    refine lv_goto (tgt := 21) hx hb dL_rank_10 (by decide) ?_
    refine lv_iconst (v := nI 0) hx hb dL_rank_21 (by decide) ?_
    rw [hQ]
    refine vx_ret ?_
    exact su_ei hx hb hr hlocks hS dL_rank_22 (u, fun _ => r.toInt64) (⟨by rw [hw.1.1], fun _ => by show _ = _; rw [← hw.1.2], hw.2.1, hw.2.2⟩) hP hD
set_option maxHeartbeats 4000000 in
set_option maxRecDepth 100000 in
theorem L_isAll (l : Launch) (hfl : l.stackTraces = false) (D : va_G) (cI cL cZ : ClassId) (sz : Nat) (ad : Nat → Nat) (S : CS) (oo : Nat) (f : Nat → Int64) (ok0 : okL (su_lst (S.1 0) (S.2.1 0))) (ok1 : okL (su_lst (S.1 1) (S.2.1 1))) (x : Int32) (y : Int32) (kk : Nat) (v : Int32) (L0 L1 : List Nat) (hr9 : su_h1 (fun g n => R_isAll g n y) (S.1 0) (S.2.1 0) (S.1 1) (S.2.1 1) x kk v L0 L1) :
    Met l yL_isAll (wsH yL_isAll cL_isAll 5 (some .int) ([((0 : Nat), (17 : Nat), (20 : Nat), (13 : Nat)), ((0 : Nat), (17 : Nat), (24 : Nat), (15 : Nat)), ((0 : Nat), (17 : Nat), (28 : Nat), (17 : Nat))])) suRmW (su_prx D (su_T cI cL cZ) sz ((oo, .inl (cL, 1, .inr (.inl f))) :: clsW ad cI cL cZ S) [.ref (ad 0), .int x, .int y, .ref oo]) (su_qi D (va_A ((oo, .inl (cL, 1, .inr (.inl f))) :: clsW ad cI cL cZ S) sz) (fun (r : Int32) (u : CS × (Nat → Int64)) => r = nI kk ∧ (kk = 0 → u.2 0 = su_z01 v) ∧ su_lst (u.1.1 0) (u.1.2.1 0) = L0 ∧ su_lst (u.1.1 1) (u.1.2.1 1) = L1) (fun (u : CS × (Nat → Int64)) => (oo, .inl (cL, 1, .inr (.inl u.2))) :: clsW ad cI cL cZ u.1)) 1 6 (va_A ((oo, .inl (cL, 1, .inr (.inl f))) :: clsW ad cI cL cZ S) sz) := by
  refine su_metH (y := yL_isAll) (av := [.ref (ad 0), .int x, .int y, .ref oo]) (Qf := fun A => su_qi D A (fun (r : Int32) (u : CS × (Nat → Int64)) => r = nI kk ∧ (kk = 0 → u.2 0 = su_z01 v) ∧ su_lst (u.1.1 0) (u.1.2.1 0) = L0 ∧ su_lst (u.1.1 1) (u.1.2.1 1) = L1) (fun (u : CS × (Nat → Int64)) => (oo, .inl (cL, 1, .inr (.inl u.2))) :: clsW ad cI cL cZ u.1)) (cc := cL_isAll) (maxL := 5) (ret := (some .int)) (hh := ([((0 : Nat), (17 : Nat), (20 : Nat), (13 : Nat)), ((0 : Nat), (17 : Nat), (24 : Nat), (15 : Nat)), ((0 : Nat), (17 : Nat), (28 : Nat), (17 : Nat))])) (by decide) (Nat.le_of_ble_eq_true rfl) ?_
  intro p e s m args below meth c R Q A H locs ls hx hb hr hlocks hin hml hown hts hN hE htab hP hK hD hA hS hRm hQ hl
  have hown : s.vm.findClass RL = some m.cls := hown
  have hl : lv_has ls 5 [(0, .ref (ad 0)), (1, .int x), (2, .int y), (3, .ref oo)] := hl
  have hR1 : 9 ≤ R.frames := by rw [hRm]; exact Nat.le_of_ble_eq_true rfl
  have hR2 : 320 ≤ R.locals := by rw [hRm]; exact Nat.le_of_ble_eq_true rfl
  have hR3 : 1 ≤ R.cells := by rw [hRm]; exact Nat.le_of_ble_eq_true rfl
  have hR4 : 6 ≤ R.slots := by rw [hRm]; exact Nat.le_of_ble_eq_true rfl
  refine lv_aload_n hx hb dL_isAll_0 rfl (lv_at hl 3 rfl) ?_
  refine lv_iconst (v := nI 0) hx hb dL_isAll_1 (by decide) ?_
  refine lv_aload_n hx hb dL_isAll_2 rfl (lv_at hl 0 rfl) ?_
  refine lv_iload_n hx hb dL_isAll_3 rfl (lv_at hl 1 rfl) ?_
  refine lv_iload_n hx hb dL_isAll_4 rfl (lv_at hl 2 rfl) ?_
  refine su_cHi (wr := [(oo, .inl (cL, 1, .inr (.inl f)))]) (vx_runV (As := [.int x, .int y]) (rest := [.int (nI 0), .ref oo]) ⟨hx, hb, hml, hown, hts⟩ (K_isAll l hfl D cI cL cZ H.size ad S ok0 ok1 x y kk v L0 L1 hr9) (cwV 2 hts (lw_gV q_945 q_946 q_947 q_31 q_948) rfl rfl rfl (by decide +kernel) ⟨Nat.le_trans (Nat.le_of_ble_eq_true rfl) hR1, Nat.le_trans (Nat.le_of_ble_eq_true rfl) hR2⟩) (su_pvx hE hS hA hN hK hP hD [1, 2, 3, 4, 5, 6, 7, 8, 9, 10, 11, 12, 13, 14, 15, 16, 17, 18, 19, 20, 21, 22, 23, 24, 25, 26, 27, 28, 29, 30, 31, 32, 33, 34, 35, 36, 37, 38, 39, 40, 41, 42, 43, 44, 45, 46, 47, 48, 49, 50, 51, 52, 53, 54, 55, 56, 57, 58, 59, 60, 61, 62, 63, 64, 65, 66, 67, 68, 69] [0, 1, 2] rfl rfl rfl (ci := 9) (q0 := 0) rfl rfl rfl) rfl rfl hl.1 rfl (lv_room (Nat.le_of_ble_eq_true rfl)) dL_isAll_5 ⟨Nat.le_trans (Nat.le_of_ble_eq_true rfl) hR3, Nat.le_trans (Nat.le_of_ble_eq_true rfl) hR4⟩) hP hD hS hA [1, 2, 3, 4, 5, 6, 7, 8, 9, 10, 11, 12, 13, 14, 15, 16, 17, 18, 19, 20, 21, 22, 23, 24, 25, 26, 27, 28, 29, 30, 31, 32, 33, 34, 35, 36, 37, 38, 39, 40, 41, 42, 43, 44, 45, 46, 47, 48, 49, 50, 51, 52, 53, 54, 55, 56, 57, 58, 59, 60, 61, 62, 63, 64, 65, 66, 67, 68, 69] [0] rfl rfl (by decide) (by decide) (fun E ce q9 u H locs hw hP hD hS hce hcv hcl => ?_) (fun r u H locs hw hP hD hS => ?_)
  · have hP : va_P D vwCl ((oo, .inl (cL, 1, .inr (.inl f))) :: clsW ad cI cL cZ u) H := hP
    have hD : va_D A ((oo, .inl (cL, 1, .inr (.inl f))) :: clsW ad cI cL cZ u) := hD
    rcases su_m3 hw.1 with ⟨rfl, rfl⟩ | ⟨rfl, rfl⟩ | ⟨rfl, rfl⟩
    · refine vx_catch (own := RL) (name := "java/lang/IndexOutOfBoundsException") hown [] ⟨0, 17, 20, 13⟩ [⟨0, 17, 24, 15⟩, ⟨0, 17, 28, 17⟩] (htab.trans rfl) (fun _ h => absurd h List.not_mem_nil) (by decide) (by decide) (hts _ q_446) (va_Nw.use (A := args) rfl (hN _ q_459)) hce hcv hcl ?_
      refine lv_astore (lv' := [(4, .ref q9), (0, .ref (ad 0)), (1, .int x), (2, .int y), (3, .ref oo)]) hx hb dL_isAll_20 hl (by decide) rfl (fun ls hl => ?_)
      refine lv_iconst (v := nI 1) hx hb dL_isAll_22 (by decide) ?_
      rw [hQ]
      refine vx_ret ?_
      exact su_ei hx hb hr hlocks hS dL_isAll_23 (u, f) (⟨rfl, fun q => absurd q (by decide), hw.2.1, hw.2.2⟩) hP hD
    · refine vx_catch (own := RL) (name := "java/lang/IllegalArgumentException") hown [⟨0, 17, 20, 13⟩] ⟨0, 17, 24, 15⟩ [⟨0, 17, 28, 17⟩] (htab.trans rfl) (List.forall_mem_cons.mpr ⟨Or.inr ⟨by decide, "java/lang/IndexOutOfBoundsException", hts _ q_446, hE.2.2.2 ("java/lang/IllegalArgumentException", "java/lang/IndexOutOfBoundsException") (by decide +kernel)⟩, fun _ h => absurd h List.not_mem_nil⟩) (by decide) (by decide) (hts _ q_447) (va_Nw.use (A := args) rfl (hN _ q_535)) hce hcv hcl ?_
      refine lv_astore (lv' := [(4, .ref q9), (0, .ref (ad 0)), (1, .int x), (2, .int y), (3, .ref oo)]) hx hb dL_isAll_24 hl (by decide) rfl (fun ls hl => ?_)
      refine lv_iconst (v := nI 2) hx hb dL_isAll_26 (by decide) ?_
      rw [hQ]
      refine vx_ret ?_
      exact su_ei hx hb hr hlocks hS dL_isAll_27 (u, f) (⟨rfl, fun q => absurd q (by decide), hw.2.1, hw.2.2⟩) hP hD
    · refine vx_catch (own := RL) (name := "java/lang/IllegalStateException") hown [⟨0, 17, 20, 13⟩, ⟨0, 17, 24, 15⟩] ⟨0, 17, 28, 17⟩ [] (htab.trans rfl) (List.forall_mem_cons.mpr ⟨Or.inr ⟨by decide, "java/lang/IndexOutOfBoundsException", hts _ q_446, hE.2.2.2 ("java/lang/IllegalStateException", "java/lang/IndexOutOfBoundsException") (by decide +kernel)⟩, List.forall_mem_cons.mpr ⟨Or.inr ⟨by decide, "java/lang/IllegalArgumentException", hts _ q_447, hE.2.2.2 ("java/lang/IllegalStateException", "java/lang/IllegalArgumentException") (by decide +kernel)⟩, fun _ h => absurd h List.not_mem_nil⟩⟩) (by decide) (by decide) (hts _ q_448) (va_Nw.use (A := args) rfl (hN _ q_555)) hce hcv hcl ?_
      refine lv_astore (lv' := [(4, .ref q9), (0, .ref (ad 0)), (1, .int x), (2, .int y), (3, .ref oo)]) hx hb dL_isAll_28 hl (by decide) rfl (fun ls hl => ?_)
      refine lv_iconst (v := nI 3) hx hb dL_isAll_30 (by decide) ?_
      rw [hQ]
      refine vx_ret ?_
      exact su_ei hx hb hr hlocks hS dL_isAll_31 (u, f) (⟨rfl, fun q => absurd q (by decide), hw.2.1, hw.2.2⟩) hP hD
  · have hP : va_P D vwCl ((oo, .inl (cL, 1, .inr (.inl f))) :: clsW ad cI cL cZ u) H := hP
    have hD : va_D A ((oo, .inl (cL, 1, .inr (.inl f))) :: clsW ad cI cL cZ u) := hD
    refine lv_if_eq (tgt := 15) hx hb dL_isAll_8 (by decide) (fun cz => ?_) (fun cz => ?_)
    · refine lv_lconst (v := 0) hx hb dL_isAll_15 (by decide) ?_
      refine su_last hx hb hK hP hD hS 0 1 rfl rfl (i := 0) (by decide) (by decide) (fun _ => 0) (fun j hj => by first | rfl | (rw [show j = 0 by omega]; first | rfl | exact if_pos rfl)) dL_isAll_16 (fun H locs hP hD hS => ?_)
      refine lv_goto (tgt := 32) hx hb dL_isAll_17 (by decide) ?_
      refine lv_iconst (v := nI 0) hx hb dL_isAll_32 (by decide) ?_
      rw [hQ]
      refine vx_ret ?_
      exact su_ei hx hb hr hlocks hS dL_isAll_33 (u, fun _ => 0) (⟨by rw [hw.1.1], fun _ => by rw [← hw.1.2]; first | exact (if_pos cz).symm | exact (if_neg cz).symm, hw.2.1, hw.2.2⟩) hP hD
    · refine lv_lconst (v := 1) hx hb dL_isAll_11 (by decide) ?_
      refine lv_goto (tgt := 16) hx hb dL_isAll_12 (by decide) ?_
      refine su_last hx hb hK hP hD hS 0 1 rfl rfl (i := 0) (by decide) (by decide) (fun _ => 1) (fun j hj => by first | rfl | (rw [show j = 0 by omega]; first | rfl | exact if_pos rfl)) dL_isAll_16 (fun H locs hP hD hS => ?_)
      refine lv_goto (tgt := 32) hx hb dL_isAll_17 (by decide) ?_
      refine lv_iconst (v := nI 0) hx hb dL_isAll_32 (by decide) ?_
      rw [hQ]
      refine vx_ret ?_
      exact su_ei hx hb hr hlocks hS dL_isAll_33 (u, fun _ => 1) (⟨by rw [hw.1.1], fun _ => by rw [← hw.1.2]; first | exact (if_pos cz).symm | exact (if_neg cz).symm, hw.2.1, hw.2.2⟩) hP hD
set_option maxHeartbeats 4000000 in
set_option maxRecDepth 100000 in
theorem L_isLike (l : Launch) (hfl : l.stackTraces = false) (D : va_G) (cI cL cZ : ClassId) (sz : Nat) (ad : Nat → Nat) (S : CS) (oo : Nat) (f : Nat → Int64) (ok0 : okL (su_lst (S.1 0) (S.2.1 0))) (ok1 : okL (su_lst (S.1 1) (S.2.1 1))) (x : Int32) (y : Int32) (kk : Nat) (v : Int32) (L0 L1 : List Nat) (hr9 : R_isLike (S.1 0) (S.2.1 0) (S.1 1) (S.2.1 1) x y kk v L0 L1) :
    Met l yL_isLike (wsH yL_isLike cL_isLike 5 (some .int) ([((0 : Nat), (17 : Nat), (20 : Nat), (13 : Nat))])) suRmW (su_prx D (su_T cI cL cZ) sz ((oo, .inl (cL, 1, .inr (.inl f))) :: clsW ad cI cL cZ S) [.ref (ad 0), .int x, .int y, .ref oo]) (su_qi D (va_A ((oo, .inl (cL, 1, .inr (.inl f))) :: clsW ad cI cL cZ S) sz) (fun (r : Int32) (u : CS × (Nat → Int64)) => r = nI kk ∧ (kk = 0 → u.2 0 = su_z01 v) ∧ su_lst (u.1.1 0) (u.1.2.1 0) = L0 ∧ su_lst (u.1.1 1) (u.1.2.1 1) = L1) (fun (u : CS × (Nat → Int64)) => (oo, .inl (cL, 1, .inr (.inl u.2))) :: clsW ad cI cL cZ u.1)) 1 6 (va_A ((oo, .inl (cL, 1, .inr (.inl f))) :: clsW ad cI cL cZ S) sz) := by
  refine su_metH (y := yL_isLike) (av := [.ref (ad 0), .int x, .int y, .ref oo]) (Qf := fun A => su_qi D A (fun (r : Int32) (u : CS × (Nat → Int64)) => r = nI kk ∧ (kk = 0 → u.2 0 = su_z01 v) ∧ su_lst (u.1.1 0) (u.1.2.1 0) = L0 ∧ su_lst (u.1.1 1) (u.1.2.1 1) = L1) (fun (u : CS × (Nat → Int64)) => (oo, .inl (cL, 1, .inr (.inl u.2))) :: clsW ad cI cL cZ u.1)) (cc := cL_isLike) (maxL := 5) (ret := (some .int)) (hh := ([((0 : Nat), (17 : Nat), (20 : Nat), (13 : Nat))])) (by decide) (Nat.le_of_ble_eq_true rfl) ?_
  intro p e s m args below meth c R Q A H locs ls hx hb hr hlocks hin hml hown hts hN hE htab hP hK hD hA hS hRm hQ hl
  have hown : s.vm.findClass RL = some m.cls := hown
  have hl : lv_has ls 5 [(0, .ref (ad 0)), (1, .int x), (2, .int y), (3, .ref oo)] := hl
  have hR1 : 9 ≤ R.frames := by rw [hRm]; exact Nat.le_of_ble_eq_true rfl
  have hR2 : 320 ≤ R.locals := by rw [hRm]; exact Nat.le_of_ble_eq_true rfl
  have hR3 : 1 ≤ R.cells := by rw [hRm]; exact Nat.le_of_ble_eq_true rfl
  have hR4 : 6 ≤ R.slots := by rw [hRm]; exact Nat.le_of_ble_eq_true rfl
  refine lv_aload_n hx hb dL_isLike_0 rfl (lv_at hl 3 rfl) ?_
  refine lv_iconst (v := nI 0) hx hb dL_isLike_1 (by decide) ?_
  refine lv_aload_n hx hb dL_isLike_2 rfl (lv_at hl 0 rfl) ?_
  refine lv_iload_n hx hb dL_isLike_3 rfl (lv_at hl 1 rfl) ?_
  refine lv_iload_n hx hb dL_isLike_4 rfl (lv_at hl 2 rfl) ?_
  refine su_cHi (wr := [(oo, .inl (cL, 1, .inr (.inl f)))]) (vx_runV (As := [.int x, .int y]) (rest := [.int (nI 0), .ref oo]) ⟨hx, hb, hml, hown, hts⟩ (K_isLike l hfl D cI cL cZ H.size ad S ok0 ok1 x y kk v L0 L1 hr9) (cwV 2 hts (lw_gV q_896 q_897 q_898 q_31 q_899) rfl rfl rfl (by decide +kernel) ⟨Nat.le_trans (Nat.le_of_ble_eq_true rfl) hR1, Nat.le_trans (Nat.le_of_ble_eq_true rfl) hR2⟩) (su_pvx hE hS hA hN hK hP hD [1, 2, 3, 4, 5, 6, 7, 8, 9, 10, 11, 12, 13, 14, 15, 16, 17, 18, 19, 20, 21, 22, 23, 24, 25, 26, 27, 28, 29, 30, 31, 32, 33, 34, 35, 36, 37, 38, 39, 40, 41, 42, 43, 44, 45, 46, 47, 48, 49, 50, 51, 52, 53, 54, 55, 56, 57, 58, 59, 60, 61, 62, 63, 64, 65, 66, 67, 68, 69] [0, 1, 2] rfl rfl rfl (ci := 9) (q0 := 0) rfl rfl rfl) rfl rfl hl.1 rfl (lv_room (Nat.le_of_ble_eq_true rfl)) dL_isLike_5 ⟨Nat.le_trans (Nat.le_of_ble_eq_true rfl) hR3, Nat.le_trans (Nat.le_of_ble_eq_true rfl) hR4⟩) hP hD hS hA [1, 2, 3, 4, 5, 6, 7, 8, 9, 10, 11, 12, 13, 14, 15, 16, 17, 18, 19, 20, 21, 22, 23, 24, 25, 26, 27, 28, 29, 30, 31, 32, 33, 34, 35, 36, 37, 38, 39, 40, 41, 42, 43, 44, 45, 46, 47, 48, 49, 50, 51, 52, 53, 54, 55, 56, 57, 58, 59, 60, 61, 62, 63, 64, 65, 66, 67, 68, 69] [0] rfl rfl (by decide) (by decide) (fun E ce q9 u H locs hw hP hD hS hce hcv hcl => ?_) (fun r u H locs hw hP hD hS => ?_)
  · have hP : va_P D vwCl ((oo, .inl (cL, 1, .inr (.inl f))) :: clsW ad cI cL cZ u) H := hP
    have hD : va_D A ((oo, .inl (cL, 1, .inr (.inl f))) :: clsW ad cI cL cZ u) := hD
    obtain ⟨rfl, rfl⟩ := su_m1 hw.1
    refine vx_catch (own := RL) (name := "java/lang/IndexOutOfBoundsException") hown [] ⟨0, 17, 20, 13⟩ [] (htab.trans rfl) (fun _ h => absurd h List.not_mem_nil) (by decide) (by decide) (hts _ q_446) (va_Nw.use (A := args) rfl (hN _ q_459)) hce hcv hcl ?_
    refine lv_astore (lv' := [(4, .ref q9), (0, .ref (ad 0)), (1, .int x), (2, .int y), (3, .ref oo)]) hx hb dL_isLike_20 hl (by decide) rfl (fun ls hl => ?_)
    refine lv_iconst (v := nI 1) hx hb dL_isLike_22 (by decide) ?_
    rw [hQ]
    refine vx_ret ?_
    exact su_ei hx hb hr hlocks hS dL_isLike_23 (u, f) (⟨rfl, fun q => absurd q (by decide), hw.2.1, hw.2.2⟩) hP hD
  · have hP : va_P D vwCl ((oo, .inl (cL, 1, .inr (.inl f))) :: clsW ad cI cL cZ u) H := hP
    have hD : va_D A ((oo, .inl (cL, 1, .inr (.inl f))) :: clsW ad cI cL cZ u) := hD
    refine lv_if_eq (tgt := 15) hx hb dL_isLike_8 (by decide) (fun cz => ?_) (fun cz => ?_)
    · refine lv_lconst (v := 0) hx hb dL_isLike_15 (by decide) ?_
      refine su_last hx hb hK hP hD hS 0 1 rfl rfl (i := 0) (by decide) (by decide) (fun _ => 0) (fun j hj => by first | rfl | (rw [show j = 0 by omega]; first | rfl | exact if_pos rfl)) dL_isLike_16 (fun H locs hP hD hS => ?_)
      refine lv_goto (tgt := 24) hx hb dL_isLike_17 (by decide) ?_
      refine lv_iconst (v := nI 0) hx hb dL_isLike_24 (by decide) ?_
      rw [hQ]
      refine vx_ret ?_
      exact su_ei hx hb hr hlocks hS dL_isLike_25 (u, fun _ => 0) (⟨by rw [hw.1.1], fun _ => by rw [← hw.1.2]; first | exact (if_pos cz).symm | exact (if_neg cz).symm, hw.2.1, hw.2.2⟩) hP hD
    · refine lv_lconst (v := 1) hx hb dL_isLike_11 (by decide) ?_
      refine lv_goto (tgt := 16) hx hb dL_isLike_12 (by decide) ?_
      refine su_last hx hb hK hP hD hS 0 1 rfl rfl (i := 0) (by decide) (by decide) (fun _ => 1) (fun j hj => by first | rfl | (rw [show j = 0 by omega]; first | rfl | exact if_pos rfl)) dL_isLike_16 (fun H locs hP hD hS => ?_)
      refine lv_goto (tgt := 24) hx hb dL_isLike_17 (by decide) ?_
      refine lv_iconst (v := nI 0) hx hb dL_isLike_24 (by decide) ?_
      rw [hQ]
      refine vx_ret ?_
      exact su_ei hx hb hr hlocks hS dL_isLike_25 (u, fun _ => 1) (⟨by rw [hw.1.1], fun _ => by rw [← hw.1.2]; first | exact (if_pos cz).symm | exact (if_neg cz).symm, hw.2.1, hw.2.2⟩) hP hD
