set_option maxHeartbeats 4000000 in
set_option maxRecDepth 100000 in
theorem L_takeOut (l : Launch) (hfl : l.stackTraces = false) (D : va_G) (cI cL cZ : ClassId) (sz : Nat) (ad : Nat → Nat) (S : CS) (oo : Nat) (f : Nat → Int64) (ok0 : okL (su_lst (S.1 0) (S.2.1 0))) (ok1 : okL (su_lst (S.1 1) (S.2.1 1))) (x : Int32) (y : Int32) (kk : Nat) (v : Int32) (L0 L1 : List Nat) (hr9 : su_h1 (fun g n => R_takeOut g n y) (S.1 0) (S.2.1 0) (S.1 1) (S.2.1 1) x kk v L0 L1) :
    Met l yL_takeOut (wsH yL_takeOut cL_takeOut 5 (some .int) ([((0 : Nat), (10 : Nat), (13 : Nat), (13 : Nat))])) suRmW (su_prx D (su_T cI cL cZ) sz ((oo, .inl (cL, 1, .inr (.inl f))) :: clsW ad cI cL cZ S) [.ref (ad 0), .int x, .int y, .ref oo]) (su_qi D (va_A ((oo, .inl (cL, 1, .inr (.inl f))) :: clsW ad cI cL cZ S) sz) (fun (r : Int32) (u : CS × (Nat → Int64)) => r = nI kk ∧ (kk = 0 → u.2 0 = v.toInt64) ∧ su_lst (u.1.1 0) (u.1.2.1 0) = L0 ∧ su_lst (u.1.1 1) (u.1.2.1 1) = L1) (fun (u : CS × (Nat → Int64)) => (oo, .inl (cL, 1, .inr (.inl u.2))) :: clsW ad cI cL cZ u.1)) 1 6 (va_A ((oo, .inl (cL, 1, .inr (.inl f))) :: clsW ad cI cL cZ S) sz) := by
  refine su_metH (y := yL_takeOut) (av := [.ref (ad 0), .int x, .int y, .ref oo]) (Qf := fun A => su_qi D A (fun (r : Int32) (u : CS × (Nat → Int64)) => r = nI kk ∧ (kk = 0 → u.2 0 = v.toInt64) ∧ su_lst (u.1.1 0) (u.1.2.1 0) = L0 ∧ su_lst (u.1.1 1) (u.1.2.1 1) = L1) (fun (u : CS × (Nat → Int64)) => (oo, .inl (cL, 1, .inr (.inl u.2))) :: clsW ad cI cL cZ u.1)) (cc := cL_takeOut) (maxL := 5) (ret := (some .int)) (hh := ([((0 : Nat), (10 : Nat), (13 : Nat), (13 : Nat))])) (by decide) (Nat.le_of_ble_eq_true rfl) ?_
  intro p e s m args below meth c R Q A H locs ls hx hb hr hlocks hin hml hown hts hN hE htab hP hK hD hA hS hRm hQ hl
  have hown : s.vm.findClass RL = some m.cls := hown
  have hl : lv_has ls 5 [(0, .ref (ad 0)), (1, .int x), (2, .int y), (3, .ref oo)] := hl
  have hR1 : 9 ≤ R.frames := by rw [hRm]; exact Nat.le_of_ble_eq_true rfl
  have hR2 : 320 ≤ R.locals := by rw [hRm]; exact Nat.le_of_ble_eq_true rfl
  have hR3 : 1 ≤ R.cells := by rw [hRm]; exact Nat.le_of_ble_eq_true rfl
  have hR4 : 6 ≤ R.slots := by rw [hRm]; exact Nat.le_of_ble_eq_true rfl
  refine lv_aload_n hx hb dL_takeOut_0 rfl (lv_at hl 3 rfl) ?_
  refine lv_iconst (v := nI 0) hx hb dL_takeOut_1 (by decide) ?_
  refine lv_aload_n hx hb dL_takeOut_2 rfl (lv_at hl 0 rfl) ?_
  refine lv_iload_n hx hb dL_takeOut_3 rfl (lv_at hl 1 rfl) ?_
  refine lv_iload_n hx hb dL_takeOut_4 rfl (lv_at hl 2 rfl) ?_
  refine su_cHi (wr := [(oo, .inl (cL, 1, .inr (.inl f)))]) (vx_runV (As := [.int x, .int y]) (rest := [.int (nI 0), .ref oo]) ⟨hx, hb, hml, hown, hts⟩ (K_takeOut l hfl D cI cL cZ H.size ad S ok0 ok1 x y kk v L0 L1 hr9) (cwV 2 hts (lw_gV q_587 q_588 q_589 q_31 q_590) rfl rfl rfl (by decide +kernel) ⟨Nat.le_trans (Nat.le_of_ble_eq_true rfl) hR1, Nat.le_trans (Nat.le_of_ble_eq_true rfl) hR2⟩) (su_pvx hE hS hA hN hK hP hD [1, 2, 3, 4, 5, 6, 7, 8, 9, 10, 11, 12, 13, 14, 15, 16, 17, 18, 19, 20, 21, 22, 23, 24, 25, 26, 27, 28, 29, 30, 31, 32, 33, 34, 35, 36, 37, 38, 39, 40, 41, 42, 43, 44, 45, 46, 47, 48, 49, 50, 51, 52, 53, 54, 55, 56, 57, 58, 59, 60, 61, 62, 63, 64, 65, 66, 67, 68, 69] [0, 1, 2] rfl rfl rfl (ci := 9) (q0 := 0) rfl rfl rfl) rfl rfl hl.1 rfl (lv_room (Nat.le_of_ble_eq_true rfl)) dL_takeOut_5 ⟨Nat.le_trans (Nat.le_of_ble_eq_true rfl) hR3, Nat.le_trans (Nat.le_of_ble_eq_true rfl) hR4⟩) hP hD hS hA [1, 2, 3, 4, 5, 6, 7, 8, 9, 10, 11, 12, 13, 14, 15, 16, 17, 18, 19, 20, 21, 22, 23, 24, 25, 26, 27, 28, 29, 30, 31, 32, 33, 34, 35, 36, 37, 38, 39, 40, 41, 42, 43, 44, 45, 46, 47, 48, 49, 50, 51, 52, 53, 54, 55, 56, 57, 58, 59, 60, 61, 62, 63, 64, 65, 66, 67, 68, 69] [0] rfl rfl (by decide) (by decide) (fun E ce q9 u H locs hw hP hD hS hce hcv hcl => ?_) (fun r u H locs hw hP hD hS => ?_)
  · have hP : va_P D vwCl ((oo, .inl (cL, 1, .inr (.inl f))) :: clsW ad cI cL cZ u) H := hP
    have hD : va_D A ((oo, .inl (cL, 1, .inr (.inl f))) :: clsW ad cI cL cZ u) := hD
    obtain ⟨rfl, rfl⟩ := su_m1 hw.1
    refine vx_catch (own := RL) (name := "java/lang/IndexOutOfBoundsException") hown [] ⟨0, 10, 13, 13⟩ [] (htab.trans rfl) (fun _ h => absurd h List.not_mem_nil) (by decide) (by decide) (hts _ q_446) (va_Nw.use (A := args) rfl (hN _ q_459)) hce hcv hcl ?_
    refine lv_astore (lv' := [(4, .ref q9), (0, .ref (ad 0)), (1, .int x), (2, .int y), (3, .ref oo)]) hx hb dL_takeOut_13 hl (by decide) rfl (fun ls hl => ?_)
    refine lv_iconst (v := nI 1) hx hb dL_takeOut_15 (by decide) ?_
    rw [hQ]
    refine vx_ret ?_
    exact su_ei hx hb hr hlocks hS dL_takeOut_16 (u, f) (⟨rfl, fun q => absurd q (by decide), hw.2.1, hw.2.2⟩) hP hD
  · have hP : va_P D vwCl ((oo, .inl (cL, 1, .inr (.inl f))) :: clsW ad cI cL cZ u) H := hP
    have hD : va_D A ((oo, .inl (cL, 1, .inr (.inl f))) :: clsW ad cI cL cZ u) := hD
    refine lv_i2l (v := r.toInt64) hx hb dL_takeOut_8 rfl ?_
    refine su_last hx hb hK hP hD hS 0 1 rfl rfl (i := 0) (by decide) (by decide) (fun _ => r.toInt64) (fun j hj => by first | rfl | (rw [show j = 0 by omega]; first | rfl | exact if_pos rfl)) dL_takeOut_9 (fun H locs hP hD hS => ?_)
    refine lv_goto (tgt := 17) hx hb dL_takeOut_10 (by decide) ?_
    refine lv_iconst (v := nI 0) hx hb dL_takeOut_17 (by decide) ?_
    rw [hQ]
    refine vx_ret ?_
    exact su_ei hx hb hr hlocks hS dL_takeOut_18 (u, fun _ => r.toInt64) (⟨by rw [hw.1.1], fun _ => by show _ = _; rw [← hw.1.2], hw.2.1, hw.2.2⟩) hP hD
set_option maxHeartbeats 4000000 in
set_option maxRecDepth 100000 in
theorem L_clear (l : Launch) (hfl : l.stackTraces = false) (D : va_G) (cI cL cZ : ClassId) (sz : Nat) (ad : Nat → Nat) (S : CS) (oo : Nat) (f : Nat → Int64) (ok0 : okL (su_lst (S.1 0) (S.2.1 0))) (ok1 : okL (su_lst (S.1 1) (S.2.1 1))) (x : Int32) (kk : Nat) (v : Int32) (L0 L1 : List Nat) (hr9 : su_h1 (fun g n => R_clear g n) (S.1 0) (S.2.1 0) (S.1 1) (S.2.1 1) x kk v L0 L1) :
    Met l yL_clear (wsH yL_clear cL_clear 4 (some .int) ([((0 : Nat), (9 : Nat), (12 : Nat), (13 : Nat))])) suRmW (su_prx D (su_T cI cL cZ) sz ((oo, .inl (cL, 1, .inr (.inl f))) :: clsW ad cI cL cZ S) [.ref (ad 0), .int x, .ref oo]) (su_qi D (va_A ((oo, .inl (cL, 1, .inr (.inl f))) :: clsW ad cI cL cZ S) sz) (fun (r : Int32) (u : CS × (Nat → Int64)) => r = nI kk ∧ (kk = 0 → u.2 0 = v.toInt64) ∧ su_lst (u.1.1 0) (u.1.2.1 0) = L0 ∧ su_lst (u.1.1 1) (u.1.2.1 1) = L1) (fun (u : CS × (Nat → Int64)) => (oo, .inl (cL, 1, .inr (.inl u.2))) :: clsW ad cI cL cZ u.1)) 1 6 (va_A ((oo, .inl (cL, 1, .inr (.inl f))) :: clsW ad cI cL cZ S) sz) := by
  refine su_metH (y := yL_clear) (av := [.ref (ad 0), .int x, .ref oo]) (Qf := fun A => su_qi D A (fun (r : Int32) (u : CS × (Nat → Int64)) => r = nI kk ∧ (kk = 0 → u.2 0 = v.toInt64) ∧ su_lst (u.1.1 0) (u.1.2.1 0) = L0 ∧ su_lst (u.1.1 1) (u.1.2.1 1) = L1) (fun (u : CS × (Nat → Int64)) => (oo, .inl (cL, 1, .inr (.inl u.2))) :: clsW ad cI cL cZ u.1)) (cc := cL_clear) (maxL := 4) (ret := (some .int)) (hh := ([((0 : Nat), (9 : Nat), (12 : Nat), (13 : Nat))])) (by decide) (Nat.le_of_ble_eq_true rfl) ?_
  intro p e s m args below meth c R Q A H locs ls hx hb hr hlocks hin hml hown hts hN hE htab hP hK hD hA hS hRm hQ hl
  have hown : s.vm.findClass RL = some m.cls := hown
  have hl : lv_has ls 4 [(0, .ref (ad 0)), (1, .int x), (2, .ref oo)] := hl
  have hR1 : 9 ≤ R.frames := by rw [hRm]; exact Nat.le_of_ble_eq_true rfl
  have hR2 : 320 ≤ R.locals := by rw [hRm]; exact Nat.le_of_ble_eq_true rfl
  have hR3 : 1 ≤ R.cells := by rw [hRm]; exact Nat.le_of_ble_eq_true rfl
  have hR4 : 6 ≤ R.slots := by rw [hRm]; exact Nat.le_of_ble_eq_true rfl
  refine lv_aload_n hx hb dL_clear_0 rfl (lv_at hl 2 rfl) ?_
  refine lv_iconst (v := nI 0) hx hb dL_clear_1 (by decide) ?_
  refine lv_aload_n hx hb dL_clear_2 rfl (lv_at hl 0 rfl) ?_
  refine lv_iload_n hx hb dL_clear_3 rfl (lv_at hl 1 rfl) ?_
  refine su_cHi (wr := [(oo, .inl (cL, 1, .inr (.inl f)))]) (vx_runV (As := [.int x]) (rest := [.int (nI 0), .ref oo]) ⟨hx, hb, hml, hown, hts⟩ (K_clear l hfl D cI cL cZ H.size ad S ok0 ok1 x kk v L0 L1 hr9) (cwV 1 hts (lw_gV q_641 q_642 q_643 q_31 q_644) rfl rfl rfl (by decide +kernel) ⟨Nat.le_trans (Nat.le_of_ble_eq_true rfl) hR1, Nat.le_trans (Nat.le_of_ble_eq_true rfl) hR2⟩) (su_pvx hE hS hA hN hK hP hD [1, 2, 3, 4, 5, 6, 7, 8, 9, 10, 11, 12, 13, 14, 15, 16, 17, 18, 19, 20, 21, 22, 23, 24, 25, 26, 27, 28, 29, 30, 31, 32, 33, 34, 35, 36, 37, 38, 39, 40, 41, 42, 43, 44, 45, 46, 47, 48, 49, 50, 51, 52, 53, 54, 55, 56, 57, 58, 59, 60, 61, 62, 63, 64, 65, 66, 67, 68, 69] [0, 1, 2] rfl rfl rfl (ci := 9) (q0 := 0) rfl rfl rfl) rfl rfl hl.1 rfl (lv_room (Nat.le_of_ble_eq_true rfl)) dL_clear_4 ⟨Nat.le_trans (Nat.le_of_ble_eq_true rfl) hR3, Nat.le_trans (Nat.le_of_ble_eq_true rfl) hR4⟩) hP hD hS hA [1, 2, 3, 4, 5, 6, 7, 8, 9, 10, 11, 12, 13, 14, 15, 16, 17, 18, 19, 20, 21, 22, 23, 24, 25, 26, 27, 28, 29, 30, 31, 32, 33, 34, 35, 36, 37, 38, 39, 40, 41, 42, 43, 44, 45, 46, 47, 48, 49, 50, 51, 52, 53, 54, 55, 56, 57, 58, 59, 60, 61, 62, 63, 64, 65, 66, 67, 68, 69] [0] rfl rfl (by decide) (by decide) (fun E ce q9 u H locs hw hP hD hS hce hcv hcl => ?_) (fun r u H locs hw hP hD hS => ?_)
  · have hP : va_P D vwCl ((oo, .inl (cL, 1, .inr (.inl f))) :: clsW ad cI cL cZ u) H := hP
    have hD : va_D A ((oo, .inl (cL, 1, .inr (.inl f))) :: clsW ad cI cL cZ u) := hD
    obtain ⟨rfl, rfl⟩ := su_m1 hw.1
    refine vx_catch (own := RL) (name := "java/lang/IndexOutOfBoundsException") hown [] ⟨0, 9, 12, 13⟩ [] (htab.trans rfl) (fun _ h => absurd h List.not_mem_nil) (by decide) (by decide) (hts _ q_446) (va_Nw.use (A := args) rfl (hN _ q_459)) hce hcv hcl ?_
    refine lv_astore_n (lv' := [(3, .ref q9), (0, .ref (ad 0)), (1, .int x), (2, .ref oo)]) hx hb dL_clear_12 rfl hl (by decide) rfl (fun ls hl => ?_)
    refine lv_iconst (v := nI 1) hx hb dL_clear_13 (by decide) ?_
    rw [hQ]
    refine vx_ret ?_
    exact su_ei hx hb hr hlocks hS dL_clear_14 (u, f) (⟨rfl, fun q => absurd q (by decide), hw.2.1, hw.2.2⟩) hP hD
  · have hP : va_P D vwCl ((oo, .inl (cL, 1, .inr (.inl f))) :: clsW ad cI cL cZ u) H := hP
    have hD : va_D A ((oo, .inl (cL, 1, .inr (.inl f))) :: clsW ad cI cL cZ u) := hD
    refine lv_i2l (v := r.toInt64) hx hb dL_clear_7 rfl ?_
    refine su_last hx hb hK hP hD hS 0 1 rfl rfl (i := 0) (by decide) (by decide) (fun _ => r.toInt64) (fun j hj => by first | rfl | (rw [show j = 0 by omega]; first | rfl | exact if_pos rfl)) dL_clear_8 (fun H locs hP hD hS => ?_)
    refine lv_goto (tgt := 15) hx hb dL_clear_9 (by decide) ?_
    refine lv_iconst (v := nI 0) hx hb dL_clear_15 (by decide) ?_
    rw [hQ]
    refine vx_ret ?_
    exact su_ei hx hb hr hlocks hS dL_clear_16 (u, fun _ => r.toInt64) (⟨by rw [hw.1.1], fun _ => by show _ = _; rw [← hw.1.2], hw.2.1, hw.2.2⟩) hP hD
set_option maxHeartbeats 4000000 in
set_option maxRecDepth 100000 in
theorem L_isSum (l : Launch) (hfl : l.stackTraces = false) (D : va_G) (cI cL cZ : ClassId) (sz : Nat) (ad : Nat → Nat) (S : CS) (oo : Nat) (f : Nat → Int64) (ok0 : okL (su_lst (S.1 0) (S.2.1 0))) (ok1 : okL (su_lst (S.1 1) (S.2.1 1))) (x : Int32) (y : Int32) (b : Bool) (kk : Nat) (v : Int32) (L0 L1 : List Nat) (hr9 : su_h1 (fun g n => R_isSum g n y b) (S.1 0) (S.2.1 0) (S.1 1) (S.2.1 1) x kk v L0 L1) :
    Met l yL_isSum (wsH yL_isSum cL_isSum 6 (some .int) ([((0 : Nat), (19 : Nat), (22 : Nat), (13 : Nat)), ((0 : Nat), (19 : Nat), (26 : Nat), (15 : Nat))])) suRmW (su_prx D (su_T cI cL cZ) sz ((oo, .inl (cL, 1, .inr (.inl f))) :: clsW ad cI cL cZ S) [.ref (ad 0), .int x, .int y, .int (bI b), .ref oo]) (su_qi D (va_A ((oo, .inl (cL, 1, .inr (.inl f))) :: clsW ad cI cL cZ S) sz) (fun (r : Int32) (u : CS × (Nat → Int64)) => r = nI kk ∧ (kk = 0 → u.2 0 = su_z01 v) ∧ su_lst (u.1.1 0) (u.1.2.1 0) = L0 ∧ su_lst (u.1.1 1) (u.1.2.1 1) = L1) (fun (u : CS × (Nat → Int64)) => (oo, .inl (cL, 1, .inr (.inl u.2))) :: clsW ad cI cL cZ u.1)) 1 6 (va_A ((oo, .inl (cL, 1, .inr (.inl f))) :: clsW ad cI cL cZ S) sz) := by
  refine su_metH (y := yL_isSum) (av := [.ref (ad 0), .int x, .int y, .int (bI b), .ref oo]) (Qf := fun A => su_qi D A (fun (r : Int32) (u : CS × (Nat → Int64)) => r = nI kk ∧ (kk = 0 → u.2 0 = su_z01 v) ∧ su_lst (u.1.1 0) (u.1.2.1 0) = L0 ∧ su_lst (u.1.1 1) (u.1.2.1 1) = L1) (fun (u : CS × (Nat → Int64)) => (oo, .inl (cL, 1, .inr (.inl u.2))) :: clsW ad cI cL cZ u.1)) (cc := cL_isSum) (maxL := 6) (ret := (some .int)) (hh := ([((0 : Nat), (19 : Nat), (22 : Nat), (13 : Nat)), ((0 : Nat), (19 : Nat), (26 : Nat), (15 : Nat))])) (by decide) (Nat.le_of_ble_eq_true rfl) ?_
  intro p e s m args below meth c R Q A H locs ls hx hb hr hlocks hin hml hown hts hN hE htab hP hK hD hA hS hRm hQ hl
  have hown : s.vm.findClass RL = some m.cls := hown
  have hl : lv_has ls 6 [(0, .ref (ad 0)), (1, .int x), (2, .int y), (3, .int (bI b)), (4, .ref oo)] := hl
  have hR1 : 9 ≤ R.frames := by rw [hRm]; exact Nat.le_of_ble_eq_true rfl
  have hR2 : 320 ≤ R.locals := by rw [hRm]; exact Nat.le_of_ble_eq_true rfl
  have hR3 : 1 ≤ R.cells := by rw [hRm]; exact Nat.le_of_ble_eq_true rfl
  have hR4 : 6 ≤ R.slots := by rw [hRm]; exact Nat.le_of_ble_eq_true rfl
  refine lv_aload hx hb dL_isSum_0 (lv_at hl 4 rfl) ?_
  refine lv_iconst (v := nI 0) hx hb dL_isSum_2 (by decide) ?_
  refine lv_aload_n hx hb dL_isSum_3 rfl (lv_at hl 0 rfl) ?_
  refine lv_iload_n hx hb dL_isSum_4 rfl (lv_at hl 1 rfl) ?_
  refine lv_iload_n hx hb dL_isSum_5 rfl (lv_at hl 2 rfl) ?_
  refine lv_iload_n hx hb dL_isSum_6 rfl (lv_at hl 3 rfl) ?_
  refine su_cHi (wr := [(oo, .inl (cL, 1, .inr (.inl f)))]) (vx_runV (As := [.int x, .int y, .int (bI b)]) (rest := [.int (nI 0), .ref oo]) ⟨hx, hb, hml, hown, hts⟩ (K_isSum l hfl D cI cL cZ H.size ad S ok0 ok1 x y b kk v L0 L1 hr9) (cwV 3 hts (lw_gV q_681 q_682 q_683 q_31 q_684) rfl rfl rfl (by decide +kernel) ⟨Nat.le_trans (Nat.le_of_ble_eq_true rfl) hR1, Nat.le_trans (Nat.le_of_ble_eq_true rfl) hR2⟩) (su_pvx hE hS hA hN hK hP hD [1, 2, 3, 4, 5, 6, 7, 8, 9, 10, 11, 12, 13, 14, 15, 16, 17, 18, 19, 20, 21, 22, 23, 24, 25, 26, 27, 28, 29, 30, 31, 32, 33, 34, 35, 36, 37, 38, 39, 40, 41, 42, 43, 44, 45, 46, 47, 48, 49, 50, 51, 52, 53, 54, 55, 56, 57, 58, 59, 60, 61, 62, 63, 64, 65, 66, 67, 68, 69] [0, 1, 2] rfl rfl rfl (ci := 9) (q0 := 0) rfl rfl rfl) rfl rfl hl.1 rfl (lv_room (Nat.le_of_ble_eq_true rfl)) dL_isSum_7 ⟨Nat.le_trans (Nat.le_of_ble_eq_true rfl) hR3, Nat.le_trans (Nat.le_of_ble_eq_true rfl) hR4⟩) hP hD hS hA [1, 2, 3, 4, 5, 6, 7, 8, 9, 10, 11, 12, 13, 14, 15, 16, 17, 18, 19, 20, 21, 22, 23, 24, 25, 26, 27, 28, 29, 30, 31, 32, 33, 34, 35, 36, 37, 38, 39, 40, 41, 42, 43, 44, 45, 46, 47, 48, 49, 50, 51, 52, 53, 54, 55, 56, 57, 58, 59, 60, 61, 62, 63, 64, 65, 66, 67, 68, 69] [0] rfl rfl (by decide) (by decide) (fun E ce q9 u H locs hw hP hD hS hce hcv hcl => ?_) (fun r u H locs hw hP hD hS => ?_)
  · have hP : va_P D vwCl ((oo, .inl (cL, 1, .inr (.inl f))) :: clsW ad cI cL cZ u) H := hP
    have hD : va_D A ((oo, .inl (cL, 1, .inr (.inl f))) :: clsW ad cI cL cZ u) := hD
    rcases su_m2 hw.1 with ⟨rfl, rfl⟩ | ⟨rfl, rfl⟩
    · refine vx_catch (own := RL) (name := "java/lang/IndexOutOfBoundsException") hown [] ⟨0, 19, 22, 13⟩ [⟨0, 19, 26, 15⟩] (htab.trans rfl) (fun _ h => absurd h List.not_mem_nil) (by decide) (by decide) (hts _ q_446) (va_Nw.use (A := args) rfl (hN _ q_459)) hce hcv hcl ?_
      refine lv_astore (lv' := [(5, .ref q9), (0, .ref (ad 0)), (1, .int x), (2, .int y), (3, .int (bI b)), (4, .ref oo)]) hx hb dL_isSum_22 hl (by decide) rfl (fun ls hl => ?_)
      refine lv_iconst (v := nI 1) hx hb dL_isSum_24 (by decide) ?_
      rw [hQ]
      refine vx_ret ?_
      exact su_ei hx hb hr hlocks hS dL_isSum_25 (u, f) (⟨rfl, fun q => absurd q (by decide), hw.2.1, hw.2.2⟩) hP hD
    · refine vx_catch (own := RL) (name := "java/lang/IllegalArgumentException") hown [⟨0, 19, 22, 13⟩] ⟨0, 19, 26, 15⟩ [] (htab.trans rfl) (List.forall_mem_cons.mpr ⟨Or.inr ⟨by decide, "java/lang/IndexOutOfBoundsException", hts _ q_446, hE.2.2.2 ("java/lang/IllegalArgumentException", "java/lang/IndexOutOfBoundsException") (by decide +kernel)⟩, fun _ h => absurd h List.not_mem_nil⟩) (by decide) (by decide) (hts _ q_447) (va_Nw.use (A := args) rfl (hN _ q_535)) hce hcv hcl ?_
      refine lv_astore (lv' := [(5, .ref q9), (0, .ref (ad 0)), (1, .int x), (2, .int y), (3, .int (bI b)), (4, .ref oo)]) hx hb dL_isSum_26 hl (by decide) rfl (fun ls hl => ?_)
      refine lv_iconst (v := nI 2) hx hb dL_isSum_28 (by decide) ?_
      rw [hQ]
      refine vx_ret ?_
      exact su_ei hx hb hr hlocks hS dL_isSum_29 (u, f) (⟨rfl, fun q => absurd q (by decide), hw.2.1, hw.2.2⟩) hP hD
  · have hP : va_P D vwCl ((oo, .inl (cL, 1, .inr (.inl f))) :: clsW ad cI cL cZ u) H := hP
    have hD : va_D A ((oo, .inl (cL, 1, .inr (.inl f))) :: clsW ad cI cL cZ u) := hD
    refine lv_if_eq (tgt := 17) hx hb dL_isSum_10 (by decide) (fun cz => ?_) (fun cz => ?_)
    · refine lv_lconst (v := 0) hx hb dL_isSum_17 (by decide) ?_
      refine su_last hx hb hK hP hD hS 0 1 rfl rfl (i := 0) (by decide) (by decide) (fun _ => 0) (fun j hj => by first | rfl | (rw [show j = 0 by omega]; first | rfl | exact if_pos rfl)) dL_isSum_18 (fun H locs hP hD hS => ?_)
      refine lv_goto (tgt := 30) hx hb dL_isSum_19 (by decide) ?_
      refine lv_iconst (v := nI 0) hx hb dL_isSum_30 (by decide) ?_
      rw [hQ]
      refine vx_ret ?_
      exact su_ei hx hb hr hlocks hS dL_isSum_31 (u, fun _ => 0) (⟨by rw [hw.1.1], fun _ => by rw [← hw.1.2]; first | exact (if_pos cz).symm | exact (if_neg cz).symm, hw.2.1, hw.2.2⟩) hP hD
    · refine lv_lconst (v := 1) hx hb dL_isSum_13 (by decide) ?_
      refine lv_goto (tgt := 18) hx hb dL_isSum_14 (by decide) ?_
      refine su_last hx hb hK hP hD hS 0 1 rfl rfl (i := 0) (by decide) (by decide) (fun _ => 1) (fun j hj => by first | rfl | (rw [show j = 0 by omega]; first | rfl | exact if_pos rfl)) dL_isSum_18 (fun H locs hP hD hS => ?_)
      refine lv_goto (tgt := 30) hx hb dL_isSum_19 (by decide) ?_
      refine lv_iconst (v := nI 0) hx hb dL_isSum_30 (by decide) ?_
      rw [hQ]
      refine vx_ret ?_
      exact su_ei hx hb hr hlocks hS dL_isSum_31 (u, fun _ => 1) (⟨by rw [hw.1.1], fun _ => by rw [← hw.1.2]; first | exact (if_pos cz).symm | exact (if_neg cz).symm, hw.2.1, hw.2.2⟩) hP hD
set_option maxHeartbeats 4000000 in
set_option maxRecDepth 100000 in
theorem L_gap (l : Launch) (hfl : l.stackTraces = false) (D : va_G) (cI cL cZ : ClassId) (sz : Nat) (ad : Nat → Nat) (S : CS) (oo : Nat) (f : Nat → Int64) (ok0 : okL (su_lst (S.1 0) (S.2.1 0))) (ok1 : okL (su_lst (S.1 1) (S.2.1 1))) (x : Int32) (y : Int32) (b : Bool) (kk : Nat) (v : Int32) (L0 L1 : List Nat) (hr9 : su_h1 (fun g n => R_gap g n y b) (S.1 0) (S.2.1 0) (S.1 1) (S.2.1 1) x kk v L0 L1) :
    Met l yL_gap (wsH yL_gap cL_gap 6 (some .int) ([((0 : Nat), (12 : Nat), (15 : Nat), (13 : Nat)), ((0 : Nat), (12 : Nat), (19 : Nat), (15 : Nat)), ((0 : Nat), (12 : Nat), (23 : Nat), (63 : Nat))])) suRmW (su_prx D (su_T cI cL cZ) sz ((oo, .inl (cL, 1, .inr (.inl f))) :: clsW ad cI cL cZ S) [.ref (ad 0), .int x, .int y, .int (bI b), .ref oo]) (su_qi D (va_A ((oo, .inl (cL, 1, .inr (.inl f))) :: clsW ad cI cL cZ S) sz) (fun (r : Int32) (u : CS × (Nat → Int64)) => r = nI kk ∧ (kk = 0 → u.2 0 = v.toInt64) ∧ su_lst (u.1.1 0) (u.1.2.1 0) = L0 ∧ su_lst (u.1.1 1) (u.1.2.1 1) = L1) (fun (u : CS × (Nat → Int64)) => (oo, .inl (cL, 1, .inr (.inl u.2))) :: clsW ad cI cL cZ u.1)) 1 6 (va_A ((oo, .inl (cL, 1, .inr (.inl f))) :: clsW ad cI cL cZ S) sz) := by
  refine su_metH (y := yL_gap) (av := [.ref (ad 0), .int x, .int y, .int (bI b), .ref oo]) (Qf := fun A => su_qi D A (fun (r : Int32) (u : CS × (Nat → Int64)) => r = nI kk ∧ (kk = 0 → u.2 0 = v.toInt64) ∧ su_lst (u.1.1 0) (u.1.2.1 0) = L0 ∧ su_lst (u.1.1 1) (u.1.2.1 1) = L1) (fun (u : CS × (Nat → Int64)) => (oo, .inl (cL, 1, .inr (.inl u.2))) :: clsW ad cI cL cZ u.1)) (cc := cL_gap) (maxL := 6) (ret := (some .int)) (hh := ([((0 : Nat), (12 : Nat), (15 : Nat), (13 : Nat)), ((0 : Nat), (12 : Nat), (19 : Nat), (15 : Nat)), ((0 : Nat), (12 : Nat), (23 : Nat), (63 : Nat))])) (by decide) (Nat.le_of_ble_eq_true rfl) ?_
  intro p e s m args below meth c R Q A H locs ls hx hb hr hlocks hin hml hown hts hN hE htab hP hK hD hA hS hRm hQ hl
  have hown : s.vm.findClass RL = some m.cls := hown
  have hl : lv_has ls 6 [(0, .ref (ad 0)), (1, .int x), (2, .int y), (3, .int (bI b)), (4, .ref oo)] := hl
  have hR1 : 9 ≤ R.frames := by rw [hRm]; exact Nat.le_of_ble_eq_true rfl
  have hR2 : 320 ≤ R.locals := by rw [hRm]; exact Nat.le_of_ble_eq_true rfl
  have hR3 : 1 ≤ R.cells := by rw [hRm]; exact Nat.le_of_ble_eq_true rfl
  have hR4 : 6 ≤ R.slots := by rw [hRm]; exact Nat.le_of_ble_eq_true rfl
  refine lv_aload hx hb dL_gap_0 (lv_at hl 4 rfl) ?_
  refine lv_iconst (v := nI 0) hx hb dL_gap_2 (by decide) ?_
  refine lv_aload_n hx hb dL_gap_3 rfl (lv_at hl 0 rfl) ?_
  refine lv_iload_n hx hb dL_gap_4 rfl (lv_at hl 1 rfl) ?_
  refine lv_iload_n hx hb dL_gap_5 rfl (lv_at hl 2 rfl) ?_
  refine lv_iload_n hx hb dL_gap_6 rfl (lv_at hl 3 rfl) ?_
  refine su_cHi (wr := [(oo, .inl (cL, 1, .inr (.inl f)))]) (vx_runV (As := [.int x, .int y, .int (bI b)]) (rest := [.int (nI 0), .ref oo]) ⟨hx, hb, hml, hown, hts⟩ (K_gap l hfl D cI cL cZ H.size ad S ok0 ok1 x y b kk v L0 L1 hr9) (cwV 3 hts (lw_gV q_746 q_747 q_748 q_31 q_749) rfl rfl rfl (by decide +kernel) ⟨Nat.le_trans (Nat.le_of_ble_eq_true rfl) hR1, Nat.le_trans (Nat.le_of_ble_eq_true rfl) hR2⟩) (su_pvx hE hS hA hN hK hP hD [1, 2, 3, 4, 5, 6, 7, 8, 9, 10, 11, 12, 13, 14, 15, 16, 17, 18, 19, 20, 21, 22, 23, 24, 25, 26, 27, 28, 29, 30, 31, 32, 33, 34, 35, 36, 37, 38, 39, 40, 41, 42, 43, 44, 45, 46, 47, 48, 49, 50, 51, 52, 53, 54, 55, 56, 57, 58, 59, 60, 61, 62, 63, 64, 65, 66, 67, 68, 69] [0, 1, 2] rfl rfl rfl (ci := 9) (q0 := 0) rfl rfl rfl) rfl rfl hl.1 rfl (lv_room (Nat.le_of_ble_eq_true rfl)) dL_gap_7 ⟨Nat.le_trans (Nat.le_of_ble_eq_true rfl) hR3, Nat.le_trans (Nat.le_of_ble_eq_true rfl) hR4⟩) hP hD hS hA [1, 2, 3, 4, 5, 6, 7, 8, 9, 10, 11, 12, 13, 14, 15, 16, 17, 18, 19, 20, 21, 22, 23, 24, 25, 26, 27, 28, 29, 30, 31, 32, 33, 34, 35, 36, 37, 38, 39, 40, 41, 42, 43, 44, 45, 46, 47, 48, 49, 50, 51, 52, 53, 54, 55, 56, 57, 58, 59, 60, 61, 62, 63, 64, 65, 66, 67, 68, 69] [0] rfl rfl (by decide) (by decide) (fun E ce q9 u H locs hw hP hD hS hce hcv hcl => ?_) (fun r u H locs hw hP hD hS => ?_)
  · have hP : va_P D vwCl ((oo, .inl (cL, 1, .inr (.inl f))) :: clsW ad cI cL cZ u) H := hP
    have hD : va_D A ((oo, .inl (cL, 1, .inr (.inl f))) :: clsW ad cI cL cZ u) := hD
    rcases su_m3 hw.1 with ⟨rfl, rfl⟩ | ⟨rfl, rfl⟩ | ⟨rfl, rfl⟩
    · refine vx_catch (own := RL) (name := "java/lang/IndexOutOfBoundsException") hown [] ⟨0, 12, 15, 13⟩ [⟨0, 12, 19, 15⟩, ⟨0, 12, 23, 63⟩] (htab.trans rfl) (fun _ h => absurd h List.not_mem_nil) (by decide) (by decide) (hts _ q_446) (va_Nw.use (A := args) rfl (hN _ q_459)) hce hcv hcl ?_
      refine lv_astore (lv' := [(5, .ref q9), (0, .ref (ad 0)), (1, .int x), (2, .int y), (3, .int (bI b)), (4, .ref oo)]) hx hb dL_gap_15 hl (by decide) rfl (fun ls hl => ?_)
      refine lv_iconst (v := nI 1) hx hb dL_gap_17 (by decide) ?_
      rw [hQ]
      refine vx_ret ?_
      exact su_ei hx hb hr hlocks hS dL_gap_18 (u, f) (⟨rfl, fun q => absurd q (by decide), hw.2.1, hw.2.2⟩) hP hD
    · refine vx_catch (own := RL) (name := "java/lang/IllegalArgumentException") hown [⟨0, 12, 15, 13⟩] ⟨0, 12, 19, 15⟩ [⟨0, 12, 23, 63⟩] (htab.trans rfl) (List.forall_mem_cons.mpr ⟨Or.inr ⟨by decide, "java/lang/IndexOutOfBoundsException", hts _ q_446, hE.2.2.2 ("java/lang/IllegalArgumentException", "java/lang/IndexOutOfBoundsException") (by decide +kernel)⟩, fun _ h => absurd h List.not_mem_nil⟩) (by decide) (by decide) (hts _ q_447) (va_Nw.use (A := args) rfl (hN _ q_535)) hce hcv hcl ?_
      refine lv_astore (lv' := [(5, .ref q9), (0, .ref (ad 0)), (1, .int x), (2, .int y), (3, .int (bI b)), (4, .ref oo)]) hx hb dL_gap_19 hl (by decide) rfl (fun ls hl => ?_)
      refine lv_iconst (v := nI 2) hx hb dL_gap_21 (by decide) ?_
      rw [hQ]
      refine vx_ret ?_
      exact su_ei hx hb hr hlocks hS dL_gap_22 (u, f) (⟨rfl, fun q => absurd q (by decide), hw.2.1, hw.2.2⟩) hP hD
    · refine vx_catch (own := RL) (name := "java/util/NoSuchElementException") hown [⟨0, 12, 15, 13⟩, ⟨0, 12, 19, 15⟩] ⟨0, 12, 23, 63⟩ [] (htab.trans rfl) (List.forall_mem_cons.mpr ⟨Or.inr ⟨by decide, "java/lang/IndexOutOfBoundsException", hts _ q_446, hE.2.2.2 ("java/util/NoSuchElementException", "java/lang/IndexOutOfBoundsException") (by decide +kernel)⟩, List.forall_mem_cons.mpr ⟨Or.inr ⟨by decide, "java/lang/IllegalArgumentException", hts _ q_447, hE.2.2.2 ("java/util/NoSuchElementException", "java/lang/IllegalArgumentException") (by decide +kernel)⟩, fun _ h => absurd h List.not_mem_nil⟩⟩) (by decide) (by decide) (hts _ q_712) (va_Nw.use (A := args) rfl (hN _ q_722)) hce hcv hcl ?_
      refine lv_astore (lv' := [(5, .ref q9), (0, .ref (ad 0)), (1, .int x), (2, .int y), (3, .int (bI b)), (4, .ref oo)]) hx hb dL_gap_23 hl (by decide) rfl (fun ls hl => ?_)
      refine lv_iconst (v := nI 3) hx hb dL_gap_25 (by decide) ?_
      rw [hQ]
      refine vx_ret ?_
      exact su_ei hx hb hr hlocks hS dL_gap_26 (u, f) (⟨rfl, fun q => absurd q (by decide), hw.2.1, hw.2.2⟩) hP hD
  · have hP : va_P D vwCl ((oo, .inl (cL, 1, .inr (.inl f))) :: clsW ad cI cL cZ u) H := hP
    have hD : va_D A ((oo, .inl (cL, 1, .inr (.inl f))) :: clsW ad cI cL cZ u) := hD
    refine lv_i2l (v := r.toInt64) hx hb dL_gap_10 rfl ?_
    refine su_last hx hb hK hP hD hS 0 1 rfl rfl (i := 0) (by decide) (by decide) (fun _ => r.toInt64) (fun j hj => by first | rfl | (rw [show j = 0 by omega]; first | rfl | exact if_pos rfl)) dL_gap_11 (fun H locs hP hD hS => ?_)
    refine lv_goto (tgt := 27) hx hb dL_gap_12 (by decide) ?_
    refine lv_iconst (v := nI 0) hx hb dL_gap_27 (by decide) ?_
    rw [hQ]
    refine vx_ret ?_
    exact su_ei hx hb hr hlocks hS dL_gap_28 (u, fun _ => r.toInt64) (⟨by rw [hw.1.1], fun _ => by show _ = _; rw [← hw.1.2], hw.2.1, hw.2.2⟩) hP hD
set_option maxHeartbeats 4000000 in
set_option maxRecDepth 100000 in
theorem L_fewest (l : Launch) (hfl : l.stackTraces = false) (D : va_G) (cI cL cZ : ClassId) (sz : Nat) (ad : Nat → Nat) (S : CS) (oo : Nat) (f : Nat → Int64) (ok0 : okL (su_lst (S.1 0) (S.2.1 0))) (ok1 : okL (su_lst (S.1 1) (S.2.1 1))) (x : Int32) (y : Int32) (b : Bool) (kk : Nat) (v : Int32) (L0 L1 : List Nat) (hr9 : su_h1 (fun g n => R_fewest g n y b) (S.1 0) (S.2.1 0) (S.1 1) (S.2.1 1) x kk v L0 L1) :
    Met l yL_fewest (wsH yL_fewest cL_fewest 6 (some .int) ([((0 : Nat), (12 : Nat), (15 : Nat), (13 : Nat)), ((0 : Nat), (12 : Nat), (19 : Nat), (15 : Nat)), ((0 : Nat), (12 : Nat), (23 : Nat), (63 : Nat))])) suRmW (su_prx D (su_T cI cL cZ) sz ((oo, .inl (cL, 1, .inr (.inl f))) :: clsW ad cI cL cZ S) [.ref (ad 0), .int x, .int y, .int (bI b), .ref oo]) (su_qi D (va_A ((oo, .inl (cL, 1, .inr (.inl f))) :: clsW ad cI cL cZ S) sz) (fun (r : Int32) (u : CS × (Nat → Int64)) => r = nI kk ∧ (kk = 0 → u.2 0 = v.toInt64) ∧ su_lst (u.1.1 0) (u.1.2.1 0) = L0 ∧ su_lst (u.1.1 1) (u.1.2.1 1) = L1) (fun (u : CS × (Nat → Int64)) => (oo, .inl (cL, 1, .inr (.inl u.2))) :: clsW ad cI cL cZ u.1)) 1 6 (va_A ((oo, .inl (cL, 1, .inr (.inl f))) :: clsW ad cI cL cZ S) sz) := by
  refine su_metH (y := yL_fewest) (av := [.ref (ad 0), .int x, .int y, .int (bI b), .ref oo]) (Qf := fun A => su_qi D A (fun (r : Int32) (u : CS × (Nat → Int64)) => r = nI kk ∧ (kk = 0 → u.2 0 = v.toInt64) ∧ su_lst (u.1.1 0) (u.1.2.1 0) = L0 ∧ su_lst (u.1.1 1) (u.1.2.1 1) = L1) (fun (u : CS × (Nat → Int64)) => (oo, .inl (cL, 1, .inr (.inl u.2))) :: clsW ad cI cL cZ u.1)) (cc := cL_fewest) (maxL := 6) (ret := (some .int)) (hh := ([((0 : Nat), (12 : Nat), (15 : Nat), (13 : Nat)), ((0 : Nat), (12 : Nat), (19 : Nat), (15 : Nat)), ((0 : Nat), (12 : Nat), (23 : Nat), (63 : Nat))])) (by decide) (Nat.le_of_ble_eq_true rfl) ?_
  intro p e s m args below meth c R Q A H locs ls hx hb hr hlocks hin hml hown hts hN hE htab hP hK hD hA hS hRm hQ hl
  have hown : s.vm.findClass RL = some m.cls := hown
  have hl : lv_has ls 6 [(0, .ref (ad 0)), (1, .int x), (2, .int y), (3, .int (bI b)), (4, .ref oo)] := hl
  have hR1 : 9 ≤ R.frames := by rw [hRm]; exact Nat.le_of_ble_eq_true rfl
  have hR2 : 320 ≤ R.locals := by rw [hRm]; exact Nat.le_of_ble_eq_true rfl
  have hR3 : 1 ≤ R.cells := by rw [hRm]; exact Nat.le_of_ble_eq_true rfl
  have hR4 : 6 ≤ R.slots := by rw [hRm]; exact Nat.le_of_ble_eq_true rfl
  refine lv_aload hx hb dL_fewest_0 (lv_at hl 4 rfl) ?_
  refine lv_iconst (v := nI 0) hx hb dL_fewest_2 (by decide) ?_
  refine lv_aload_n hx hb dL_fewest_3 rfl (lv_at hl 0 rfl) ?_
  refine lv_iload_n hx hb dL_fewest_4 rfl (lv_at hl 1 rfl) ?_
  refine lv_iload_n hx hb dL_fewest_5 rfl (lv_at hl 2 rfl) ?_
  refine lv_iload_n hx hb dL_fewest_6 rfl (lv_at hl 3 rfl) ?_
  refine su_cHi (wr := [(oo, .inl (cL, 1, .inr (.inl f)))]) (vx_runV (As := [.int x, .int y, .int (bI b)]) (rest := [.int (nI 0), .ref oo]) ⟨hx, hb, hml, hown, hts⟩ (K_fewest l hfl D cI cL cZ H.size ad S ok0 ok1 x y b kk v L0 L1 hr9) (cwV 3 hts (lw_gV q_775 q_776 q_777 q_31 q_778) rfl rfl rfl (by decide +kernel) ⟨Nat.le_trans (Nat.le_of_ble_eq_true rfl) hR1, Nat.le_trans (Nat.le_of_ble_eq_true rfl) hR2⟩) (su_pvx hE hS hA hN hK hP hD [1, 2, 3, 4, 5, 6, 7, 8, 9, 10, 11, 12, 13, 14, 15, 16, 17, 18, 19, 20, 21, 22, 23, 24, 25, 26, 27, 28, 29, 30, 31, 32, 33, 34, 35, 36, 37, 38, 39, 40, 41, 42, 43, 44, 45, 46, 47, 48, 49, 50, 51, 52, 53, 54, 55, 56, 57, 58, 59, 60, 61, 62, 63, 64, 65, 66, 67, 68, 69] [0, 1, 2] rfl rfl rfl (ci := 9) (q0 := 0) rfl rfl rfl) rfl rfl hl.1 rfl (lv_room (Nat.le_of_ble_eq_true rfl)) dL_fewest_7 ⟨Nat.le_trans (Nat.le_of_ble_eq_true rfl) hR3, Nat.le_trans (Nat.le_of_ble_eq_true rfl) hR4⟩) hP hD hS hA [1, 2, 3, 4, 5, 6, 7, 8, 9, 10, 11, 12, 13, 14, 15, 16, 17, 18, 19, 20, 21, 22, 23, 24, 25, 26, 27, 28, 29, 30, 31, 32, 33, 34, 35, 36, 37, 38, 39, 40, 41, 42, 43, 44, 45, 46, 47, 48, 49, 50, 51, 52, 53, 54, 55, 56, 57, 58, 59, 60, 61, 62, 63, 64, 65, 66, 67, 68, 69] [0] rfl rfl (by decide) (by decide) (fun E ce q9 u H locs hw hP hD hS hce hcv hcl => ?_) (fun r u H locs hw hP hD hS => ?_)
  · have hP : va_P D vwCl ((oo, .inl (cL, 1, .inr (.inl f))) :: clsW ad cI cL cZ u) H := hP
    have hD : va_D A ((oo, .inl (cL, 1, .inr (.inl f))) :: clsW ad cI cL cZ u) := hD
    rcases su_m3 hw.1 with ⟨rfl, rfl⟩ | ⟨rfl, rfl⟩ | ⟨rfl, rfl⟩
    · refine vx_catch (own := RL) (name := "java/lang/IndexOutOfBoundsException") hown [] ⟨0, 12, 15, 13⟩ [⟨0, 12, 19, 15⟩, ⟨0, 12, 23, 63⟩] (htab.trans rfl) (fun _ h => absurd h List.not_mem_nil) (by decide) (by decide) (hts _ q_446) (va_Nw.use (A := args) rfl (hN _ q_459)) hce hcv hcl ?_
      refine lv_astore (lv' := [(5, .ref q9), (0, .ref (ad 0)), (1, .int x), (2, .int y), (3, .int (bI b)), (4, .ref oo)]) hx hb dL_fewest_15 hl (by decide) rfl (fun ls hl => ?_)
      refine lv_iconst (v := nI 1) hx hb dL_fewest_17 (by decide) ?_
      rw [hQ]
      refine vx_ret ?_
      exact su_ei hx hb hr hlocks hS dL_fewest_18 (u, f) (⟨rfl, fun q => absurd q (by decide), hw.2.1, hw.2.2⟩) hP hD
    · refine vx_catch (own := RL) (name := "java/lang/IllegalArgumentException") hown [⟨0, 12, 15, 13⟩] ⟨0, 12, 19, 15⟩ [⟨0, 12, 23, 63⟩] (htab.trans rfl) (List.forall_mem_cons.mpr ⟨Or.inr ⟨by decide, "java/lang/IndexOutOfBoundsException", hts _ q_446, hE.2.2.2 ("java/lang/IllegalArgumentException", "java/lang/IndexOutOfBoundsException") (by decide +kernel)⟩, fun _ h => absurd h List.not_mem_nil⟩) (by decide) (by decide) (hts _ q_447) (va_Nw.use (A := args) rfl (hN _ q_535)) hce hcv hcl ?_
      refine lv_astore (lv' := [(5, .ref q9), (0, .ref (ad 0)), (1, .int x), (2, .int y), (3, .int (bI b)), (4, .ref oo)]) hx hb dL_fewest_19 hl (by decide) rfl (fun ls hl => ?_)
      refine lv_iconst (v := nI 2) hx hb dL_fewest_21 (by decide) ?_
      rw [hQ]
      refine vx_ret ?_
      exact su_ei hx hb hr hlocks hS dL_fewest_22 (u, f) (⟨rfl, fun q => absurd q (by decide), hw.2.1, hw.2.2⟩) hP hD
    · refine vx_catch (own := RL) (name := "java/util/NoSuchElementException") hown [⟨0, 12, 15, 13⟩, ⟨0, 12, 19, 15⟩] ⟨0, 12, 23, 63⟩ [] (htab.trans rfl) (List.forall_mem_cons.mpr ⟨Or.inr ⟨by decide, "java/lang/IndexOutOfBoundsException", hts _ q_446, hE.2.2.2 ("java/util/NoSuchElementException", "java/lang/IndexOutOfBoundsException") (by decide +kernel)⟩, List.forall_mem_cons.mpr ⟨Or.inr ⟨by decide, "java/lang/IllegalArgumentException", hts _ q_447, hE.2.2.2 ("java/util/NoSuchElementException", "java/lang/IllegalArgumentException") (by decide +kernel)⟩, fun _ h => absurd h List.not_mem_nil⟩⟩) (by decide) (by decide) (hts _ q_712) (va_Nw.use (A := args) rfl (hN _ q_722)) hce hcv hcl ?_
      refine lv_astore (lv' := [(5, .ref q9), (0, .ref (ad 0)), (1, .int x), (2, .int y), (3, .int (bI b)), (4, .ref oo)]) hx hb dL_fewest_23 hl (by decide) rfl (fun ls hl => ?_)
      refine lv_iconst (v := nI 3) hx hb dL_fewest_25 (by decide) ?_
      rw [hQ]
      refine vx_ret ?_
      exact su_ei hx hb hr hlocks hS dL_fewest_26 (u, f) (⟨rfl, fun q => absurd q (by decide), hw.2.1, hw.2.2⟩) hP hD
  · have hP : va_P D vwCl ((oo, .inl (cL, 1, .inr (.inl f))) :: clsW ad cI cL cZ u) H := hP
    have hD : va_D A ((oo, .inl (cL, 1, .inr (.inl f))) :: clsW ad cI cL cZ u) := hD
    refine lv_i2l (v := r.toInt64) hx hb dL_fewest_10 rfl ?_
    refine su_last hx hb hK hP hD hS 0 1 rfl rfl (i := 0) (by decide) (by decide) (fun _ => r.toInt64) (fun j hj => by first | rfl | (rw [show j = 0 by omega]; first | rfl | exact if_pos rfl)) dL_fewest_11 (fun H locs hP hD hS => ?_)
    refine lv_goto (tgt := 27) hx hb dL_fewest_12 (by decide) ?_
    refine lv_iconst (v := nI 0) hx hb dL_fewest_27 (by decide) ?_
    rw [hQ]
    refine vx_ret ?_
    exact su_ei hx hb hr hlocks hS dL_fewest_28 (u, fun _ => r.toInt64) (⟨by rw [hw.1.1], fun _ => by show _ = _; rw [← hw.1.2], hw.2.1, hw.2.2⟩) hP hD
set_option maxHeartbeats 4000000 in
set_option maxRecDepth 100000 in
theorem L_meanWays (l : Launch) (hfl : l.stackTraces = false) (D : va_G) (cI cL cZ : ClassId) (cO : ClassId) (sz : Nat) (ad : Nat → Nat) (S : CS) (oo : Nat) (f : Nat → UInt64) (ok0 : okL (su_lst (S.1 0) (S.2.1 0))) (ok1 : okL (su_lst (S.1 1) (S.2.1 1))) (x : Int32) (kk : Nat) (v : UInt64) (L0 L1 : List Nat) (hr9 : su_h1 (fun g n => R_meanWays g n) (S.1 0) (S.2.1 0) (S.1 1) (S.2.1 1) x kk v L0 L1) :
    Met l yL_meanWays (wsH yL_meanWays cL_meanWays 4 (some .int) ([((0 : Nat), (8 : Nat), (11 : Nat), (13 : Nat))])) suRmW (su_prx D ((cO, .double) :: su_T cI cL cZ) sz ((oo, .inl (cO, 1, .inr (.inr (.inr (.inl f))))) :: clsW ad cI cL cZ S) [.ref (ad 0), .int x, .ref oo]) (su_qi D (va_A ((oo, .inl (cO, 1, .inr (.inr (.inr (.inl f))))) :: clsW ad cI cL cZ S) sz) (fun (r : Int32) (u : CS × (Nat → UInt64)) => r = nI kk ∧ (kk = 0 → u.2 0 = v) ∧ su_lst (u.1.1 0) (u.1.2.1 0) = L0 ∧ su_lst (u.1.1 1) (u.1.2.1 1) = L1) (fun (u : CS × (Nat → UInt64)) => (oo, .inl (cO, 1, .inr (.inr (.inr (.inl u.2))))) :: clsW ad cI cL cZ u.1)) 1 6 (va_A ((oo, .inl (cO, 1, .inr (.inr (.inr (.inl f))))) :: clsW ad cI cL cZ S) sz) := by
  refine su_metH (y := yL_meanWays) (av := [.ref (ad 0), .int x, .ref oo]) (Qf := fun A => su_qi D A (fun (r : Int32) (u : CS × (Nat → UInt64)) => r = nI kk ∧ (kk = 0 → u.2 0 = v) ∧ su_lst (u.1.1 0) (u.1.2.1 0) = L0 ∧ su_lst (u.1.1 1) (u.1.2.1 1) = L1) (fun (u : CS × (Nat → UInt64)) => (oo, .inl (cO, 1, .inr (.inr (.inr (.inl u.2))))) :: clsW ad cI cL cZ u.1)) (cc := cL_meanWays) (maxL := 4) (ret := (some .int)) (hh := ([((0 : Nat), (8 : Nat), (11 : Nat), (13 : Nat))])) (by decide) (Nat.le_of_ble_eq_true rfl) ?_
  intro p e s m args below meth c R Q A H locs ls hx hb hr hlocks hin hml hown hts hN hE htab hP hK hD hA hS hRm hQ hl
  have hown : s.vm.findClass RL = some m.cls := hown
  have hl : lv_has ls 4 [(0, .ref (ad 0)), (1, .int x), (2, .ref oo)] := hl
  have hR1 : 9 ≤ R.frames := by rw [hRm]; exact Nat.le_of_ble_eq_true rfl
  have hR2 : 320 ≤ R.locals := by rw [hRm]; exact Nat.le_of_ble_eq_true rfl
  have hR3 : 1 ≤ R.cells := by rw [hRm]; exact Nat.le_of_ble_eq_true rfl
  have hR4 : 6 ≤ R.slots := by rw [hRm]; exact Nat.le_of_ble_eq_true rfl
  refine lv_aload_n hx hb dL_meanWays_0 rfl (lv_at hl 2 rfl) ?_
  refine lv_iconst (v := nI 0) hx hb dL_meanWays_1 (by decide) ?_
  refine lv_aload_n hx hb dL_meanWays_2 rfl (lv_at hl 0 rfl) ?_
  refine lv_iload_n hx hb dL_meanWays_3 rfl (lv_at hl 1 rfl) ?_
  refine su_cHd (wr := [(oo, .inl (cO, 1, .inr (.inr (.inr (.inl f)))))]) (vx_runV (As := [.int x]) (rest := [.int (nI 0), .ref oo]) ⟨hx, hb, hml, hown, hts⟩ (K_meanWays l hfl D cI cL cZ H.size ad S ok0 ok1 x kk v L0 L1 hr9) (cwV 1 hts (lw_gV q_828 q_829 q_830 q_31 q_831) rfl rfl rfl (by decide +kernel) ⟨Nat.le_trans (Nat.le_of_ble_eq_true rfl) hR1, Nat.le_trans (Nat.le_of_ble_eq_true rfl) hR2⟩) (su_pvx hE hS hA hN hK hP hD [1, 2, 3, 4, 5, 6, 7, 8, 9, 10, 11, 12, 13, 14, 15, 16, 17, 18, 19, 20, 21, 22, 23, 24, 25, 26, 27, 28, 29, 30, 31, 32, 33, 34, 35, 36, 37, 38, 39, 40, 41, 42, 43, 44, 45, 46, 47, 48, 49, 50, 51, 52, 53, 54, 55, 56, 57, 58, 59, 60, 61, 62, 63, 64, 65, 66, 67, 68, 69] [1, 2, 3] rfl rfl rfl (ci := 9) (q0 := 0) rfl rfl rfl) rfl rfl hl.1 rfl (lv_room (Nat.le_of_ble_eq_true rfl)) dL_meanWays_4 ⟨Nat.le_trans (Nat.le_of_ble_eq_true rfl) hR3, Nat.le_trans (Nat.le_of_ble_eq_true rfl) hR4⟩) hP hD hS hA [1, 2, 3, 4, 5, 6, 7, 8, 9, 10, 11, 12, 13, 14, 15, 16, 17, 18, 19, 20, 21, 22, 23, 24, 25, 26, 27, 28, 29, 30, 31, 32, 33, 34, 35, 36, 37, 38, 39, 40, 41, 42, 43, 44, 45, 46, 47, 48, 49, 50, 51, 52, 53, 54, 55, 56, 57, 58, 59, 60, 61, 62, 63, 64, 65, 66, 67, 68, 69] [0] rfl rfl (by decide) (by decide) (fun E ce q9 u H locs hw hP hD hS hce hcv hcl => ?_) (fun r u H locs hw hP hD hS => ?_)
  · have hP : va_P D vwCl ((oo, .inl (cO, 1, .inr (.inr (.inr (.inl f))))) :: clsW ad cI cL cZ u) H := hP
    have hD : va_D A ((oo, .inl (cO, 1, .inr (.inr (.inr (.inl f))))) :: clsW ad cI cL cZ u) := hD
    obtain ⟨rfl, rfl⟩ := su_m1 hw.1
    refine vx_catch (own := RL) (name := "java/lang/IndexOutOfBoundsException") hown [] ⟨0, 8, 11, 13⟩ [] (htab.trans rfl) (fun _ h => absurd h List.not_mem_nil) (by decide) (by decide) (hts _ q_446) (va_Nw.use (A := args) rfl (hN _ q_459)) hce hcv hcl ?_
    refine lv_astore_n (lv' := [(3, .ref q9), (0, .ref (ad 0)), (1, .int x), (2, .ref oo)]) hx hb dL_meanWays_11 rfl hl (by decide) rfl (fun ls hl => ?_)
    refine lv_iconst (v := nI 1) hx hb dL_meanWays_12 (by decide) ?_
    rw [hQ]
    refine vx_ret ?_
    exact su_ei hx hb hr hlocks hS dL_meanWays_13 (u, f) (⟨rfl, fun q => absurd q (by decide), hw.2.1, hw.2.2⟩) hP hD
  · have hP : va_P D vwCl ((oo, .inl (cO, 1, .inr (.inr (.inr (.inl f))))) :: clsW ad cI cL cZ u) H := hP
    have hD : va_D A ((oo, .inl (cO, 1, .inr (.inr (.inr (.inl f))))) :: clsW ad cI cL cZ u) := hD
    refine va_dast hx hb hK hP hD hS 0 0 rfl rfl (vp_in_nI (by decide) (by decide)) dL_meanWays_7 (fun H locs hP hD hS => ?_)
    refine lv_goto (tgt := 14) hx hb dL_meanWays_8 (by decide) ?_
    refine lv_iconst (v := nI 0) hx hb dL_meanWays_14 (by decide) ?_
    rw [hQ]
    refine vx_ret ?_
    exact su_ei hx hb hr hlocks hS dL_meanWays_15 (u, vf_upd f (nI 0).toNatClampNeg r) (⟨by rw [hw.1.1], fun _ => by rw [← hw.1.2]; rfl, hw.2.1, hw.2.2⟩) hP hD
set_option maxHeartbeats 4000000 in
set_option maxRecDepth 100000 in
theorem L_partSums (l : Launch) (hfl : l.stackTraces = false) (D : va_G) (cI cL cZ : ClassId) (sz : Nat) (ad : Nat → Nat) (S : CS) (oo : Nat) (f : Nat → Int64) (ok0 : okL (su_lst (S.1 0) (S.2.1 0))) (ok1 : okL (su_lst (S.1 1) (S.2.1 1))) (x : Int32) (y : Int32) (kk : Nat) (v : Int32) (L0 L1 : List Nat) (hr9 : su_h1 (fun g n => R_partSums g n y) (S.1 0) (S.2.1 0) (S.1 1) (S.2.1 1) x kk v L0 L1) :
    Met l yL_partSums (wsH yL_partSums cL_partSums 5 (some .int) ([((0 : Nat), (10 : Nat), (13 : Nat), (13 : Nat)), ((0 : Nat), (10 : Nat), (17 : Nat), (15 : Nat))])) suRmW (su_prx D (su_T cI cL cZ) sz ((oo, .inl (cL, 1, .inr (.inl f))) :: clsW ad cI cL cZ S) [.ref (ad 0), .int x, .int y, .ref oo]) (su_qi D (va_A ((oo, .inl (cL, 1, .inr (.inl f))) :: clsW ad cI cL cZ S) sz) (fun (r : Int32) (u : CS × (Nat → Int64)) => r = nI kk ∧ (kk = 0 → u.2 0 = v.toInt64) ∧ su_lst (u.1.1 0) (u.1.2.1 0) = L0 ∧ su_lst (u.1.1 1) (u.1.2.1 1) = L1) (fun (u : CS × (Nat → Int64)) => (oo, .inl (cL, 1, .inr (.inl u.2))) :: clsW ad cI cL cZ u.1)) 1 6 (va_A ((oo, .inl (cL, 1, .inr (.inl f))) :: clsW ad cI cL cZ S) sz) := by
  refine su_metH (y := yL_partSums) (av := [.ref (ad 0), .int x, .int y, .ref oo]) (Qf := fun A => su_qi D A (fun (r : Int32) (u : CS × (Nat → Int64)) => r = nI kk ∧ (kk = 0 → u.2 0 = v.toInt64) ∧ su_lst (u.1.1 0) (u.1.2.1 0) = L0 ∧ su_lst (u.1.1 1) (u.1.2.1 1) = L1) (fun (u : CS × (Nat → Int64)) => (oo, .inl (cL, 1, .inr (.inl u.2))) :: clsW ad cI cL cZ u.1)) (cc := cL_partSums) (maxL := 5) (ret := (some .int)) (hh := ([((0 : Nat), (10 : Nat), (13 : Nat), (13 : Nat)), ((0 : Nat), (10 : Nat), (17 : Nat), (15 : Nat))])) (by decide) (Nat.le_of_ble_eq_true rfl) ?_
  intro p e s m args below meth c R Q A H locs ls hx hb hr hlocks hin hml hown hts hN hE htab hP hK hD hA hS hRm hQ hl
  have hown : s.vm.findClass RL = some m.cls := hown
  have hl : lv_has ls 5 [(0, .ref (ad 0)), (1, .int x), (2, .int y), (3, .ref oo)] := hl
  have hR1 : 9 ≤ R.frames := by rw [hRm]; exact Nat.le_of_ble_eq_true rfl
  have hR2 : 320 ≤ R.locals := by rw [hRm]; exact Nat.le_of_ble_eq_true rfl
  have hR3 : 1 ≤ R.cells := by rw [hRm]; exact Nat.le_of_ble_eq_true rfl
  have hR4 : 6 ≤ R.slots := by rw [hRm]; exact Nat.le_of_ble_eq_true rfl
  refine lv_aload_n hx hb dL_partSums_0 rfl (lv_at hl 3 rfl) ?_
  refine lv_iconst (v := nI 0) hx hb dL_partSums_1 (by decide) ?_
  refine lv_aload_n hx hb dL_partSums_2 rfl (lv_at hl 0 rfl) ?_
  refine lv_iload_n hx hb dL_partSums_3 rfl (lv_at hl 1 rfl) ?_
  refine lv_iload_n hx hb dL_partSums_4 rfl (lv_at hl 2 rfl) ?_
  refine su_cHi (wr := [(oo, .inl (cL, 1, .inr (.inl f)))]) (vx_runV (As := [.int x, .int y]) (rest := [.int (nI 0), .ref oo]) ⟨hx, hb, hml, hown, hts⟩ (K_partSums l hfl D cI cL cZ H.size ad S ok0 ok1 x y kk v L0 L1 hr9) (cwV 2 hts (lw_gV q_866 q_867 q_868 q_31 q_869) rfl rfl rfl (by decide +kernel) ⟨Nat.le_trans (Nat.le_of_ble_eq_true rfl) hR1, Nat.le_trans (Nat.le_of_ble_eq_true rfl) hR2⟩) (su_pvx hE hS hA hN hK hP hD [1, 2, 3, 4, 5, 6, 7, 8, 9, 10, 11, 12, 13, 14, 15, 16, 17, 18, 19, 20, 21, 22, 23, 24, 25, 26, 27, 28, 29, 30, 31, 32, 33, 34, 35, 36, 37, 38, 39, 40, 41, 42, 43, 44, 45, 46, 47, 48, 49, 50, 51, 52, 53, 54, 55, 56, 57, 58, 59, 60, 61, 62, 63, 64, 65, 66, 67, 68, 69] [0, 1, 2] rfl rfl rfl (ci := 9) (q0 := 0) rfl rfl rfl) rfl rfl hl.1 rfl (lv_room (Nat.le_of_ble_eq_true rfl)) dL_partSums_5 ⟨Nat.le_trans (Nat.le_of_ble_eq_true rfl) hR3, Nat.le_trans (Nat.le_of_ble_eq_true rfl) hR4⟩) hP hD hS hA [1, 2, 3, 4, 5, 6, 7, 8, 9, 10, 11, 12, 13, 14, 15, 16, 17, 18, 19, 20, 21, 22, 23, 24, 25, 26, 27, 28, 29, 30, 31, 32, 33, 34, 35, 36, 37, 38, 39, 40, 41, 42, 43, 44, 45, 46, 47, 48, 49, 50, 51, 52, 53, 54, 55, 56, 57, 58, 59, 60, 61, 62, 63, 64, 65, 66, 67, 68, 69] [0] rfl rfl (by decide) (by decide) (fun E ce q9 u H locs hw hP hD hS hce hcv hcl => ?_) (fun r u H locs hw hP hD hS => ?_)
  · have hP : va_P D vwCl ((oo, .inl (cL, 1, .inr (.inl f))) :: clsW ad cI cL cZ u) H := hP
    have hD : va_D A ((oo, .inl (cL, 1, .inr (.inl f))) :: clsW ad cI cL cZ u) := hD
    rcases su_m2 hw.1 with ⟨rfl, rfl⟩ | ⟨rfl, rfl⟩
    · refine vx_catch (own := RL) (name := "java/lang/IndexOutOfBoundsException") hown [] ⟨0, 10, 13, 13⟩ [⟨0, 10, 17, 15⟩] (htab.trans rfl) (fun _ h => absurd h List.not_mem_nil) (by decide) (by decide) (hts _ q_446) (va_Nw.use (A := args) rfl (hN _ q_459)) hce hcv hcl ?_
      refine lv_astore (lv' := [(4, .ref q9), (0, .ref (ad 0)), (1, .int x), (2, .int y), (3, .ref oo)]) hx hb dL_partSums_13 hl (by decide) rfl (fun ls hl => ?_)
      refine lv_iconst (v := nI 1) hx hb dL_partSums_15 (by decide) ?_
      rw [hQ]
      refine vx_ret ?_
      exact su_ei hx hb hr hlocks hS dL_partSums_16 (u, f) (⟨rfl, fun q => absurd q (by decide), hw.2.1, hw.2.2⟩) hP hD
    · refine vx_catch (own := RL) (name := "java/lang/IllegalArgumentException") hown [⟨0, 10, 13, 13⟩] ⟨0, 10, 17, 15⟩ [] (htab.trans rfl) (List.forall_mem_cons.mpr ⟨Or.inr ⟨by decide, "java/lang/IndexOutOfBoundsException", hts _ q_446, hE.2.2.2 ("java/lang/IllegalArgumentException", "java/lang/IndexOutOfBoundsException") (by decide +kernel)⟩, fun _ h => absurd h List.not_mem_nil⟩) (by decide) (by decide) (hts _ q_447) (va_Nw.use (A := args) rfl (hN _ q_535)) hce hcv hcl ?_
      refine lv_astore (lv' := [(4, .ref q9), (0, .ref (ad 0)), (1, .int x), (2, .int y), (3, .ref oo)]) hx hb dL_partSums_17 hl (by decide) rfl (fun ls hl => ?_)
      refine lv_iconst (v := nI 2) hx hb dL_partSums_19 (by decide) ?_
      rw [hQ]
      refine vx_ret ?_
      exact su_ei hx hb hr hlocks hS dL_partSums_20 (u, f) (⟨rfl, fun q => absurd q (by decide), hw.2.1, hw.2.2⟩) hP hD
  · have hP : va_P D vwCl ((oo, .inl (cL, 1, .inr (.inl f))) :: clsW ad cI cL cZ u) H := hP
    have hD : va_D A ((oo, .inl (cL, 1, .inr (.inl f))) :: clsW ad cI cL cZ u) := hD
    refine lv_i2l (v := r.toInt64) hx hb dL_partSums_8 rfl ?_
    refine su_last hx hb hK hP hD hS 0 1 rfl rfl (i := 0) (by decide) (by decide) (fun _ => r.toInt64) (fun j hj => by first | rfl | (rw [show j = 0 by omega]; first | rfl | exact if_pos rfl)) dL_partSums_9 (fun H locs hP hD hS => ?_)
    refine lv_goto (tgt := 21) hx hb dL_partSums_10 (by decide) ?_
    refine lv_iconst (v := nI 0) hx hb dL_partSums_21 (by decide) ?_
    rw [hQ]
    refine vx_ret ?_
    exact su_ei hx hb hr hlocks hS dL_partSums_22 (u, fun _ => r.toInt64) (⟨by rw [hw.1.1], fun _ => by show _ = _; rw [← hw.1.2], hw.2.1, hw.2.2⟩) hP hD
set_option maxHeartbeats 4000000 in
set_option maxRecDepth 100000 in
theorem L_isOftenAlike (l : Launch) (hfl : l.stackTraces = false) (D : va_G) (cI cL cZ : ClassId) (sz : Nat) (ad : Nat → Nat) (S : CS) (oo : Nat) (f : Nat → Int64) (ok0 : okL (su_lst (S.1 0) (S.2.1 0))) (ok1 : okL (su_lst (S.1 1) (S.2.1 1))) (x : Int32) (kk : Nat) (v : Int32) (L0 L1 : List Nat) (hr9 : su_h1 (fun g n => R_isOftenAlike g n) (S.1 0) (S.2.1 0) (S.1 1) (S.2.1 1) x kk v L0 L1) :
    Met l yL_isOftenAlike (wsH yL_isOftenAlike cL_isOftenAlike 4 (some .int) ([((0 : Nat), (16 : Nat), (19 : Nat), (13 : Nat))])) suRmW (su_prx D (su_T cI cL cZ) sz ((oo, .inl (cL, 1, .inr (.inl f))) :: clsW ad cI cL cZ S) [.ref (ad 0), .int x, .ref oo]) (su_qi D (va_A ((oo, .inl (cL, 1, .inr (.inl f))) :: clsW ad cI cL cZ S) sz) (fun (r : Int32) (u : CS × (Nat → Int64)) => r = nI kk ∧ (kk = 0 → u.2 0 = su_z01 v) ∧ su_lst (u.1.1 0) (u.1.2.1 0) = L0 ∧ su_lst (u.1.1 1) (u.1.2.1 1) = L1) (fun (u : CS × (Nat → Int64)) => (oo, .inl (cL, 1, .inr (.inl u.2))) :: clsW ad cI cL cZ u.1)) 1 6 (va_A ((oo, .inl (cL, 1, .inr (.inl f))) :: clsW ad cI cL cZ S) sz) := by
  refine su_metH (y := yL_isOftenAlike) (av := [.ref (ad 0), .int x, .ref oo]) (Qf := fun A => su_qi D A (fun (r : Int32) (u : CS × (Nat → Int64)) => r = nI kk ∧ (kk = 0 → u.2 0 = su_z01 v) ∧ su_lst (u.1.1 0) (u.1.2.1 0) = L0 ∧ su_lst (u.1.1 1) (u.1.2.1 1) = L1) (fun (u : CS × (Nat → Int64)) => (oo, .inl (cL, 1, .inr (.inl u.2))) :: clsW ad cI cL cZ u.1)) (cc := cL_isOftenAlike) (maxL := 4) (ret := (some .int)) (hh := ([((0 : Nat), (16 : Nat), (19 : Nat), (13 : Nat))])) (by decide) (Nat.le_of_ble_eq_true rfl) ?_
  intro p e s m args below meth c R Q A H locs ls hx hb hr hlocks hin hml hown hts hN hE htab hP hK hD hA hS hRm hQ hl
  have hown : s.vm.findClass RL = some m.cls := hown
  have hl : lv_has ls 4 [(0, .ref (ad 0)), (1, .int x), (2, .ref oo)] := hl
  have hR1 : 9 ≤ R.frames := by rw [hRm]; exact Nat.le_of_ble_eq_true rfl
  have hR2 : 320 ≤ R.locals := by rw [hRm]; exact Nat.le_of_ble_eq_true rfl
  have hR3 : 1 ≤ R.cells := by rw [hRm]; exact Nat.le_of_ble_eq_true rfl
  have hR4 : 6 ≤ R.slots := by rw [hRm]; exact Nat.le_of_ble_eq_true rfl
  refine lv_aload_n hx hb dL_isOftenAlike_0 rfl (lv_at hl 2 rfl) ?_
  refine lv_iconst (v := nI 0) hx hb dL_isOftenAlike_1 (by decide) ?_
  refine lv_aload_n hx hb dL_isOftenAlike_2 rfl (lv_at hl 0 rfl) ?_
  refine lv_iload_n hx hb dL_isOftenAlike_3 rfl (lv_at hl 1 rfl) ?_
  refine su_cHi (wr := [(oo, .inl (cL, 1, .inr (.inl f)))]) (vx_runV (As := [.int x]) (rest := [.int (nI 0), .ref oo]) ⟨hx, hb, hml, hown, hts⟩ (K_isOftenAlike l hfl D cI cL cZ H.size ad S ok0 ok1 x kk v L0 L1 hr9) (cwV 1 hts (lw_gV q_976 q_977 q_978 q_31 q_979) rfl rfl rfl (by decide +kernel) ⟨Nat.le_trans (Nat.le_of_ble_eq_true rfl) hR1, Nat.le_trans (Nat.le_of_ble_eq_true rfl) hR2⟩) (su_pvx hE hS hA hN hK hP hD [1, 2, 3, 4, 5, 6, 7, 8, 9, 10, 11, 12, 13, 14, 15, 16, 17, 18, 19, 20, 21, 22, 23, 24, 25, 26, 27, 28, 29, 30, 31, 32, 33, 34, 35, 36, 37, 38, 39, 40, 41, 42, 43, 44, 45, 46, 47, 48, 49, 50, 51, 52, 53, 54, 55, 56, 57, 58, 59, 60, 61, 62, 63, 64, 65, 66, 67, 68, 69] [0, 1, 2] rfl rfl rfl (ci := 9) (q0 := 0) rfl rfl rfl) rfl rfl hl.1 rfl (lv_room (Nat.le_of_ble_eq_true rfl)) dL_isOftenAlike_4 ⟨Nat.le_trans (Nat.le_of_ble_eq_true rfl) hR3, Nat.le_trans (Nat.le_of_ble_eq_true rfl) hR4⟩) hP hD hS hA [1, 2, 3, 4, 5, 6, 7, 8, 9, 10, 11, 12, 13, 14, 15, 16, 17, 18, 19, 20, 21, 22, 23, 24, 25, 26, 27, 28, 29, 30, 31, 32, 33, 34, 35, 36, 37, 38, 39, 40, 41, 42, 43, 44, 45, 46, 47, 48, 49, 50, 51, 52, 53, 54, 55, 56, 57, 58, 59, 60, 61, 62, 63, 64, 65, 66, 67, 68, 69] [0] rfl rfl (by decide) (by decide) (fun E ce q9 u H locs hw hP hD hS hce hcv hcl => ?_) (fun r u H locs hw hP hD hS => ?_)
  · have hP : va_P D vwCl ((oo, .inl (cL, 1, .inr (.inl f))) :: clsW ad cI cL cZ u) H := hP
    have hD : va_D A ((oo, .inl (cL, 1, .inr (.inl f))) :: clsW ad cI cL cZ u) := hD
    obtain ⟨rfl, rfl⟩ := su_m1 hw.1
    refine vx_catch (own := RL) (name := "java/lang/IndexOutOfBoundsException") hown [] ⟨0, 16, 19, 13⟩ [] (htab.trans rfl) (fun _ h => absurd h List.not_mem_nil) (by decide) (by decide) (hts _ q_446) (va_Nw.use (A := args) rfl (hN _ q_459)) hce hcv hcl ?_
    refine lv_astore_n (lv' := [(3, .ref q9), (0, .ref (ad 0)), (1, .int x), (2, .ref oo)]) hx hb dL_isOftenAlike_19 rfl hl (by decide) rfl (fun ls hl => ?_)
    refine lv_iconst (v := nI 1) hx hb dL_isOftenAlike_20 (by decide) ?_
    rw [hQ]
    refine vx_ret ?_
    exact su_ei hx hb hr hlocks hS dL_isOftenAlike_21 (u, f) (⟨rfl, fun q => absurd q (by decide), hw.2.1, hw.2.2⟩) hP hD
  · have hP : va_P D vwCl ((oo, .inl (cL, 1, .inr (.inl f))) :: clsW ad cI cL cZ u) H := hP
    have hD : va_D A ((oo, .inl (cL, 1, .inr (.inl f))) :: clsW ad cI cL cZ u) := hD
    refine lv_if_eq (tgt := 14) hx hb dL_isOftenAlike_7 (by decide) (fun cz => ?_) (fun cz => ?_)
    · refine lv_lconst (v := 0) hx hb dL_isOftenAlike_14 (by decide) ?_
      refine su_last hx hb hK hP hD hS 0 1 rfl rfl (i := 0) (by decide) (by decide) (fun _ => 0) (fun j hj => by first | rfl | (rw [show j = 0 by omega]; first | rfl | exact if_pos rfl)) dL_isOftenAlike_15 (fun H locs hP hD hS => ?_)
      refine lv_goto (tgt := 22) hx hb dL_isOftenAlike_16 (by decide) ?_
      refine lv_iconst (v := nI 0) hx hb dL_isOftenAlike_22 (by decide) ?_
      rw [hQ]
      refine vx_ret ?_
      exact su_ei hx hb hr hlocks hS dL_isOftenAlike_23 (u, fun _ => 0) (⟨by rw [hw.1.1], fun _ => by rw [← hw.1.2]; first | exact (if_pos cz).symm | exact (if_neg cz).symm, hw.2.1, hw.2.2⟩) hP hD
    · refine lv_lconst (v := 1) hx hb dL_isOftenAlike_10 (by decide) ?_
      refine lv_goto (tgt := 15) hx hb dL_isOftenAlike_11 (by decide) ?_
      refine su_last hx hb hK hP hD hS 0 1 rfl rfl (i := 0) (by decide) (by decide) (fun _ => 1) (fun j hj => by first | rfl | (rw [show j = 0 by omega]; first | rfl | exact if_pos rfl)) dL_isOftenAlike_15 (fun H locs hP hD hS => ?_)
      refine lv_goto (tgt := 22) hx hb dL_isOftenAlike_16 (by decide) ?_
      refine lv_iconst (v := nI 0) hx hb dL_isOftenAlike_22 (by decide) ?_
      rw [hQ]
      refine vx_ret ?_
      exact su_ei hx hb hr hlocks hS dL_isOftenAlike_23 (u, fun _ => 1) (⟨by rw [hw.1.1], fun _ => by rw [← hw.1.2]; first | exact (if_pos cz).symm | exact (if_neg cz).symm, hw.2.1, hw.2.2⟩) hP hD
set_option maxHeartbeats 4000000 in
set_option maxRecDepth 100000 in
theorem L_join (l : Launch) (hfl : l.stackTraces = false) (D : va_G) (cI cL cZ : ClassId) (sz : Nat) (ad : Nat → Nat) (S : CS) (oo : Nat) (f : Nat → Int64) (ok0 : okL (su_lst (S.1 0) (S.2.1 0))) (ok1 : okL (su_lst (S.1 1) (S.2.1 1))) (x : Int32) (y : Int32) (z : Int32) (kk : Nat) (v : Int32) (L0 L1 : List Nat) (hr9 : R_join (S.1 0) (S.2.1 0) (S.1 1) (S.2.1 1) x y z kk v L0 L1) :
    Met l yL_join (wsH yL_join cL_join 6 (some .int) ([((0 : Nat), (12 : Nat), (15 : Nat), (13 : Nat)), ((0 : Nat), (12 : Nat), (19 : Nat), (17 : Nat))])) suRmW (su_prx D (su_T cI cL cZ) sz ((oo, .inl (cL, 1, .inr (.inl f))) :: clsW ad cI cL cZ S) [.ref (ad 0), .int x, .int y, .int z, .ref oo]) (su_qi D (va_A ((oo, .inl (cL, 1, .inr (.inl f))) :: clsW ad cI cL cZ S) sz) (fun (r : Int32) (u : CS × (Nat → Int64)) => r = nI kk ∧ (kk = 0 → u.2 0 = v.toInt64) ∧ su_lst (u.1.1 0) (u.1.2.1 0) = L0 ∧ su_lst (u.1.1 1) (u.1.2.1 1) = L1) (fun (u : CS × (Nat → Int64)) => (oo, .inl (cL, 1, .inr (.inl u.2))) :: clsW ad cI cL cZ u.1)) 1 6 (va_A ((oo, .inl (cL, 1, .inr (.inl f))) :: clsW ad cI cL cZ S) sz) := by
  refine su_metH (y := yL_join) (av := [.ref (ad 0), .int x, .int y, .int z, .ref oo]) (Qf := fun A => su_qi D A (fun (r : Int32) (u : CS × (Nat → Int64)) => r = nI kk ∧ (kk = 0 → u.2 0 = v.toInt64) ∧ su_lst (u.1.1 0) (u.1.2.1 0) = L0 ∧ su_lst (u.1.1 1) (u.1.2.1 1) = L1) (fun (u : CS × (Nat → Int64)) => (oo, .inl (cL, 1, .inr (.inl u.2))) :: clsW ad cI cL cZ u.1)) (cc := cL_join) (maxL := 6) (ret := (some .int)) (hh := ([((0 : Nat), (12 : Nat), (15 : Nat), (13 : Nat)), ((0 : Nat), (12 : Nat), (19 : Nat), (17 : Nat))])) (by decide) (Nat.le_of_ble_eq_true rfl) ?_
  intro p e s m args below meth c R Q A H locs ls hx hb hr hlocks hin hml hown hts hN hE htab hP hK hD hA hS hRm hQ hl
  have hown : s.vm.findClass RL = some m.cls := hown
  have hl : lv_has ls 6 [(0, .ref (ad 0)), (1, .int x), (2, .int y), (3, .int z), (4, .ref oo)] := hl
  have hR1 : 9 ≤ R.frames := by rw [hRm]; exact Nat.le_of_ble_eq_true rfl
  have hR2 : 320 ≤ R.locals := by rw [hRm]; exact Nat.le_of_ble_eq_true rfl
  have hR3 : 1 ≤ R.cells := by rw [hRm]; exact Nat.le_of_ble_eq_true rfl
  have hR4 : 6 ≤ R.slots := by rw [hRm]; exact Nat.le_of_ble_eq_true rfl
  refine lv_aload hx hb dL_join_0 (lv_at hl 4 rfl) ?_
  refine lv_iconst (v := nI 0) hx hb dL_join_2 (by decide) ?_
  refine lv_aload_n hx hb dL_join_3 rfl (lv_at hl 0 rfl) ?_
  refine lv_iload_n hx hb dL_join_4 rfl (lv_at hl 1 rfl) ?_
  refine lv_iload_n hx hb dL_join_5 rfl (lv_at hl 2 rfl) ?_
  refine lv_iload_n hx hb dL_join_6 rfl (lv_at hl 3 rfl) ?_
  refine su_cHi (wr := [(oo, .inl (cL, 1, .inr (.inl f)))]) (vx_runV (As := [.int x, .int y, .int z]) (rest := [.int (nI 0), .ref oo]) ⟨hx, hb, hml, hown, hts⟩ (K_join l hfl D cI cL cZ H.size ad S ok0 ok1 x y z kk v L0 L1 hr9) (cwV 3 hts (lw_gV q_649 q_650 q_651 q_31 q_652) rfl rfl rfl (by decide +kernel) ⟨Nat.le_trans (Nat.le_of_ble_eq_true rfl) hR1, Nat.le_trans (Nat.le_of_ble_eq_true rfl) hR2⟩) (su_pvx hE hS hA hN hK hP hD [1, 2, 3, 4, 5, 6, 7, 8, 9, 10, 11, 12, 13, 14, 15, 16, 17, 18, 19, 20, 21, 22, 23, 24, 25, 26, 27, 28, 29, 30, 31, 32, 33, 34, 35, 36, 37, 38, 39, 40, 41, 42, 43, 44, 45, 46, 47, 48, 49, 50, 51, 52, 53, 54, 55, 56, 57, 58, 59, 60, 61, 62, 63, 64, 65, 66, 67, 68, 69] [0, 1, 2] rfl rfl rfl (ci := 9) (q0 := 0) rfl rfl rfl) rfl rfl hl.1 rfl (lv_room (Nat.le_of_ble_eq_true rfl)) dL_join_7 ⟨Nat.le_trans (Nat.le_of_ble_eq_true rfl) hR3, Nat.le_trans (Nat.le_of_ble_eq_true rfl) hR4⟩) hP hD hS hA [1, 2, 3, 4, 5, 6, 7, 8, 9, 10, 11, 12, 13, 14, 15, 16, 17, 18, 19, 20, 21, 22, 23, 24, 25, 26, 27, 28, 29, 30, 31, 32, 33, 34, 35, 36, 37, 38, 39, 40, 41, 42, 43, 44, 45, 46, 47, 48, 49, 50, 51, 52, 53, 54, 55, 56, 57, 58, 59, 60, 61, 62, 63, 64, 65, 66, 67, 68, 69] [0] rfl rfl (by decide) (by decide) (fun E ce q9 u H locs hw hP hD hS hce hcv hcl => ?_) (fun r u H locs hw hP hD hS => ?_)
  · have hP : va_P D vwCl ((oo, .inl (cL, 1, .inr (.inl f))) :: clsW ad cI cL cZ u) H := hP
    have hD : va_D A ((oo, .inl (cL, 1, .inr (.inl f))) :: clsW ad cI cL cZ u) := hD
    rcases su_m2 hw.1 with ⟨rfl, rfl⟩ | ⟨rfl, rfl⟩
    · refine vx_catch (own := RL) (name := "java/lang/IndexOutOfBoundsException") hown [] ⟨0, 12, 15, 13⟩ [⟨0, 12, 19, 17⟩] (htab.trans rfl) (fun _ h => absurd h List.not_mem_nil) (by decide) (by decide) (hts _ q_446) (va_Nw.use (A := args) rfl (hN _ q_459)) hce hcv hcl ?_
      refine lv_astore (lv' := [(5, .ref q9), (0, .ref (ad 0)), (1, .int x), (2, .int y), (3, .int z), (4, .ref oo)]) hx hb dL_join_15 hl (by decide) rfl (fun ls hl => ?_)
      refine lv_iconst (v := nI 1) hx hb dL_join_17 (by decide) ?_
      rw [hQ]
      refine vx_ret ?_
      exact su_ei hx hb hr hlocks hS dL_join_18 (u, f) (⟨rfl, fun q => absurd q (by decide), hw.2.1, hw.2.2⟩) hP hD
    · refine vx_catch (own := RL) (name := "java/lang/IllegalStateException") hown [⟨0, 12, 15, 13⟩] ⟨0, 12, 19, 17⟩ [] (htab.trans rfl) (List.forall_mem_cons.mpr ⟨Or.inr ⟨by decide, "java/lang/IndexOutOfBoundsException", hts _ q_446, hE.2.2.2 ("java/lang/IllegalStateException", "java/lang/IndexOutOfBoundsException") (by decide +kernel)⟩, fun _ h => absurd h List.not_mem_nil⟩) (by decide) (by decide) (hts _ q_448) (va_Nw.use (A := args) rfl (hN _ q_555)) hce hcv hcl ?_
      refine lv_astore (lv' := [(5, .ref q9), (0, .ref (ad 0)), (1, .int x), (2, .int y), (3, .int z), (4, .ref oo)]) hx hb dL_join_19 hl (by decide) rfl (fun ls hl => ?_)
      refine lv_iconst (v := nI 2) hx hb dL_join_21 (by decide) ?_
      rw [hQ]
      refine vx_ret ?_
      exact su_ei hx hb hr hlocks hS dL_join_22 (u, f) (⟨rfl, fun q => absurd q (by decide), hw.2.1, hw.2.2⟩) hP hD
  · have hP : va_P D vwCl ((oo, .inl (cL, 1, .inr (.inl f))) :: clsW ad cI cL cZ u) H := hP
    have hD : va_D A ((oo, .inl (cL, 1, .inr (.inl f))) :: clsW ad cI cL cZ u) := hD
    refine lv_i2l (v := r.toInt64) hx hb dL_join_10 rfl ?_
    refine su_last hx hb hK hP hD hS 0 1 rfl rfl (i := 0) (by decide) (by decide) (fun _ => r.toInt64) (fun j hj => by first | rfl | (rw [show j = 0 by omega]; first | rfl | exact if_pos rfl)) dL_join_11 (fun H locs hP hD hS => ?_)
    refine lv_goto (tgt := 23) hx hb dL_join_12 (by decide) ?_
    refine lv_iconst (v := nI 0) hx hb dL_join_23 (by decide) ?_
    rw [hQ]
    refine vx_ret ?_
    exact su_ei hx hb hr hlocks hS dL_join_24 (u, fun _ => r.toInt64) (⟨by rw [hw.1.1], fun _ => by show _ = _; rw [← hw.1.2], hw.2.1, hw.2.2⟩) hP hD
