set_option maxHeartbeats 4000000 in
set_option maxRecDepth 100000 in
theorem L_exchange (l : Launch) (hfl : l.stackTraces = false) (D : va_G) (cI cL cZ : ClassId) (sz : Nat) (ad : Nat → Nat) (S : CS) (oo : Nat) (f : Nat → Int64) (ok0 : okL (su_lst (S.1 0) (S.2.1 0))) (ok1 : okL (su_lst (S.1 1) (S.2.1 1))) (x : Int32) (y : Int32) (z : Int32) (kk : Nat) (v : Int32) (L0 L1 : List Nat) (hr9 : su_h1 (fun g n => R_exchange g n y z) (S.1 0) (S.2.1 0) (S.1 1) (S.2.1 1) x kk v L0 L1) :
    Met l yL_exchange (wsH yL_exchange cL_exchange 6 (some .int) ([((0 : Nat), (12 : Nat), (15 : Nat), (13 : Nat)), ((0 : Nat), (12 : Nat), (19 : Nat), (15 : Nat)), ((0 : Nat), (12 : Nat), (23 : Nat), (17 : Nat))])) suRmW (su_prx D (su_T cI cL cZ) sz ((oo, .inl (cL, 1, .inr (.inl f))) :: clsW ad cI cL cZ S) [.ref (ad 0), .int x, .int y, .int z, .ref oo]) (su_qi D (va_A ((oo, .inl (cL, 1, .inr (.inl f))) :: clsW ad cI cL cZ S) sz) (fun (r : Int32) (u : CS × (Nat → Int64)) => r = nI kk ∧ (kk = 0 → u.2 0 = v.toInt64) ∧ su_lst (u.1.1 0) (u.1.2.1 0) = L0 ∧ su_lst (u.1.1 1) (u.1.2.1 1) = L1) (fun (u : CS × (Nat → Int64)) => (oo, .inl (cL, 1, .inr (.inl u.2))) :: clsW ad cI cL cZ u.1)) 1 6 (va_A ((oo, .inl (cL, 1, .inr (.inl f))) :: clsW ad cI cL cZ S) sz) := by
  refine su_metH (y := yL_exchange) (av := [.ref (ad 0), .int x, .int y, .int z, .ref oo]) (Qf := fun A => su_qi D A (fun (r : Int32) (u : CS × (Nat → Int64)) => r = nI kk ∧ (kk = 0 → u.2 0 = v.toInt64) ∧ su_lst (u.1.1 0) (u.1.2.1 0) = L0 ∧ su_lst (u.1.1 1) (u.1.2.1 1) = L1) (fun (u : CS × (Nat → Int64)) => (oo, .inl (cL, 1, .inr (.inl u.2))) :: clsW ad cI cL cZ u.1)) (cc := cL_exchange) (maxL := 6) (ret := (some .int)) (hh := ([((0 : Nat), (12 : Nat), (15 : Nat), (13 : Nat)), ((0 : Nat), (12 : Nat), (19 : Nat), (15 : Nat)), ((0 : Nat), (12 : Nat), (23 : Nat), (17 : Nat))])) (by decide) (Nat.le_of_ble_eq_true rfl) ?_
  intro p e s m args below meth c R Q A H locs ls hx hb hr hlocks hin hml hown hts hN hE htab hP hK hD hA hS hRm hQ hl
  have hown : s.vm.findClass RL = some m.cls := hown
  have hl : lv_has ls 6 [(0, .ref (ad 0)), (1, .int x), (2, .int y), (3, .int z), (4, .ref oo)] := hl
  have hR1 : 9 ≤ R.frames := by rw [hRm]; exact Nat.le_of_ble_eq_true rfl
  have hR2 : 320 ≤ R.locals := by rw [hRm]; exact Nat.le_of_ble_eq_true rfl
  have hR3 : 1 ≤ R.cells := by rw [hRm]; exact Nat.le_of_ble_eq_true rfl
  have hR4 : 6 ≤ R.slots := by rw [hRm]; exact Nat.le_of_ble_eq_true rfl
  refine lv_aload hx hb dL_exchange_0 (lv_at hl 4 rfl) ?_
  refine lv_iconst (v := nI 0) hx hb dL_exchange_2 (by decide) ?_
  refine lv_aload_n hx hb dL_exchange_3 rfl (lv_at hl 0 rfl) ?_
  refine lv_iload_n hx hb dL_exchange_4 rfl (lv_at hl 1 rfl) ?_
  refine lv_iload_n hx hb dL_exchange_5 rfl (lv_at hl 2 rfl) ?_
  refine lv_iload_n hx hb dL_exchange_6 rfl (lv_at hl 3 rfl) ?_
  refine su_cHi (wr := [(oo, .inl (cL, 1, .inr (.inl f)))]) (vx_runV (As := [.int x, .int y, .int z]) (rest := [.int (nI 0), .ref oo]) ⟨hx, hb, hml, hown, hts⟩ (K_exchange l hfl D cI cL cZ H.size ad S ok0 ok1 x y z kk v L0 L1 hr9) (cwV 3 hts (lw_gV q_603 q_604 q_605 q_31 q_606) rfl rfl rfl (by decide +kernel) ⟨Nat.le_trans (Nat.le_of_ble_eq_true rfl) hR1, Nat.le_trans (Nat.le_of_ble_eq_true rfl) hR2⟩) (su_pvx hE hS hA hN hK hP hD [1, 2, 3, 4, 5, 6, 7, 8, 9, 10, 11, 12, 13, 14, 15, 16, 17, 18, 19, 20, 21, 22, 23, 24, 25, 26, 27, 28, 29, 30, 31, 32, 33, 34, 35, 36, 37, 38, 39, 40, 41, 42, 43, 44, 45, 46, 47, 48, 49, 50, 51, 52, 53, 54, 55, 56, 57, 58, 59, 60, 61, 62, 63, 64, 65, 66, 67, 68, 69] [0, 1, 2] rfl rfl rfl (ci := 9) (q0 := 0) rfl rfl rfl) rfl rfl hl.1 rfl (lv_room (Nat.le_of_ble_eq_true rfl)) dL_exchange_7 ⟨Nat.le_trans (Nat.le_of_ble_eq_true rfl) hR3, Nat.le_trans (Nat.le_of_ble_eq_true rfl) hR4⟩) hP hD hS hA [1, 2, 3, 4, 5, 6, 7, 8, 9, 10, 11, 12, 13, 14, 15, 16, 17, 18, 19, 20, 21, 22, 23, 24, 25, 26, 27, 28, 29, 30, 31, 32, 33, 34, 35, 36, 37, 38, 39, 40, 41, 42, 43, 44, 45, 46, 47, 48, 49, 50, 51, 52, 53, 54, 55, 56, 57, 58, 59, 60, 61, 62, 63, 64, 65, 66, 67, 68, 69] [0] rfl rfl (by decide) (by decide) (fun E ce q9 u H locs hw hP hD hS hce hcv hcl => ?_) (fun r u H locs hw hP hD hS => ?_)
  · have hP : va_P D vwCl ((oo, .inl (cL, 1, .inr (.inl f))) :: clsW ad cI cL cZ u) H := hP
    have hD : va_D A ((oo, .inl (cL, 1, .inr (.inl f))) :: clsW ad cI cL cZ u) := hD
    rcases su_m3 hw.1 with ⟨rfl, rfl⟩ | ⟨rfl, rfl⟩ | ⟨rfl, rfl⟩
    · refine vx_catch (own := RL) (name := "java/lang/IndexOutOfBoundsException") hown [] ⟨0, 12, 15, 13⟩ [⟨0, 12, 19, 15⟩, ⟨0, 12, 23, 17⟩] (htab.trans rfl) (fun _ h => absurd h List.not_mem_nil) (by decide) (by decide) (hts _ q_446) (va_Nw.use (A := args) rfl (hN _ q_459)) hce hcv hcl ?_
      refine lv_astore (lv' := [(5, .ref q9), (0, .ref (ad 0)), (1, .int x), (2, .int y), (3, .int z), (4, .ref oo)]) hx hb dL_exchange_15 hl (by decide) rfl (fun ls hl => ?_)
      refine lv_iconst (v := nI 1) hx hb dL_exchange_17 (by decide) ?_
      rw [hQ]
      refine vx_ret ?_
      exact su_ei hx hb hr hlocks hS dL_exchange_18 (u, f) (⟨rfl, fun q => absurd q (by decide), hw.2.1, hw.2.2⟩) hP hD
    · refine vx_catch (own := RL) (name := "java/lang/IllegalArgumentException") hown [⟨0, 12, 15, 13⟩] ⟨0, 12, 19, 15⟩ [⟨0, 12, 23, 17⟩] (htab.trans rfl) (List.forall_mem_cons.mpr ⟨Or.inr ⟨by decide, "java/lang/IndexOutOfBoundsException", hts _ q_446, hE.2.2.2 ("java/lang/IllegalArgumentException", "java/lang/IndexOutOfBoundsException") (by decide +kernel)⟩, fun _ h => absurd h List.not_mem_nil⟩) (by decide) (by decide) (hts _ q_447) (va_Nw.use (A := args) rfl (hN _ q_535)) hce hcv hcl ?_
      refine lv_astore (lv' := [(5, .ref q9), (0, .ref (ad 0)), (1, .int x), (2, .int y), (3, .int z), (4, .ref oo)]) hx hb dL_exchange_19 hl (by decide) rfl (fun ls hl => ?_)
      refine lv_iconst (v := nI 2) hx hb dL_exchange_21 (by decide) ?_
      rw [hQ]
      refine vx_ret ?_
      exact su_ei hx hb hr hlocks hS dL_exchange_22 (u, f) (⟨rfl, fun q => absurd q (by decide), hw.2.1, hw.2.2⟩) hP hD
    · refine vx_catch (own := RL) (name := "java/lang/IllegalStateException") hown [⟨0, 12, 15, 13⟩, ⟨0, 12, 19, 15⟩] ⟨0, 12, 23, 17⟩ [] (htab.trans rfl) (List.forall_mem_cons.mpr ⟨Or.inr ⟨by decide, "java/lang/IndexOutOfBoundsException", hts _ q_446, hE.2.2.2 ("java/lang/IllegalStateException", "java/lang/IndexOutOfBoundsException") (by decide +kernel)⟩, List.forall_mem_cons.mpr ⟨Or.inr ⟨by decide, "java/lang/IllegalArgumentException", hts _ q_447, hE.2.2.2 ("java/lang/IllegalStateException", "java/lang/IllegalArgumentException") (by decide +kernel)⟩, fun _ h => absurd h List.not_mem_nil⟩⟩) (by decide) (by decide) (hts _ q_448) (va_Nw.use (A := args) rfl (hN _ q_555)) hce hcv hcl ?_
      refine lv_astore (lv' := [(5, .ref q9), (0, .ref (ad 0)), (1, .int x), (2, .int y), (3, .int z), (4, .ref oo)]) hx hb dL_exchange_23 hl (by decide) rfl (fun ls hl => ?_)
      refine lv_iconst (v := nI 3) hx hb dL_exchange_25 (by decide) ?_
      rw [hQ]
      refine vx_ret ?_
      exact su_ei hx hb hr hlocks hS dL_exchange_26 (u, f) (⟨rfl, fun q => absurd q (by decide), hw.2.1, hw.2.2⟩) hP hD
  · have hP : va_P D vwCl ((oo, .inl (cL, 1, .inr (.inl f))) :: clsW ad cI cL cZ u) H := hP
    have hD : va_D A ((oo, .inl (cL, 1, .inr (.inl f))) :: clsW ad cI cL cZ u) := hD
    refine lv_i2l (v := r.toInt64) hx hb dL_exchange_10 rfl ?_
    refine su_last hx hb hK hP hD hS 0 1 rfl rfl (i := 0) (by decide) (by decide) (fun _ => r.toInt64) (fun j hj => by first | rfl | (rw [show j = 0 by omega]; first | rfl | exact if_pos rfl)) dL_exchange_11 (fun H locs hP hD hS => ?_)
    refine lv_goto (tgt := 27) hx hb dL_exchange_12 (by decide) ?_
    refine lv_iconst (v := nI 0) hx hb dL_exchange_27 (by decide) ?_
    rw [hQ]
    refine vx_ret ?_
    exact su_ei hx hb hr hlocks hS dL_exchange_28 (u, fun _ => r.toInt64) (⟨by rw [hw.1.1], fun _ => by show _ = _; rw [← hw.1.2], hw.2.1, hw.2.2⟩) hP hD
set_option maxHeartbeats 4000000 in
set_option maxRecDepth 100000 in
theorem L_size (l : Launch) (hfl : l.stackTraces = false) (D : va_G) (cI cL cZ : ClassId) (sz : Nat) (ad : Nat → Nat) (S : CS) (oo : Nat) (f : Nat → Int64) (ok0 : okL (su_lst (S.1 0) (S.2.1 0))) (ok1 : okL (su_lst (S.1 1) (S.2.1 1))) (x : Int32) (kk : Nat) (v : Int32) (L0 L1 : List Nat) (hr9 : su_h1 (fun g n => R_size g n) (S.1 0) (S.2.1 0) (S.1 1) (S.2.1 1) x kk v L0 L1) :
    Met l yL_size (wsH yL_size cL_size 4 (some .int) ([((0 : Nat), (9 : Nat), (12 : Nat), (13 : Nat))])) suRmW (su_prx D (su_T cI cL cZ) sz ((oo, .inl (cL, 1, .inr (.inl f))) :: clsW ad cI cL cZ S) [.ref (ad 0), .int x, .ref oo]) (su_qi D (va_A ((oo, .inl (cL, 1, .inr (.inl f))) :: clsW ad cI cL cZ S) sz) (fun (r : Int32) (u : CS × (Nat → Int64)) => r = nI kk ∧ (kk = 0 → u.2 0 = v.toInt64) ∧ su_lst (u.1.1 0) (u.1.2.1 0) = L0 ∧ su_lst (u.1.1 1) (u.1.2.1 1) = L1) (fun (u : CS × (Nat → Int64)) => (oo, .inl (cL, 1, .inr (.inl u.2))) :: clsW ad cI cL cZ u.1)) 1 6 (va_A ((oo, .inl (cL, 1, .inr (.inl f))) :: clsW ad cI cL cZ S) sz) := by
  refine su_metH (y := yL_size) (av := [.ref (ad 0), .int x, .ref oo]) (Qf := fun A => su_qi D A (fun (r : Int32) (u : CS × (Nat → Int64)) => r = nI kk ∧ (kk = 0 → u.2 0 = v.toInt64) ∧ su_lst (u.1.1 0) (u.1.2.1 0) = L0 ∧ su_lst (u.1.1 1) (u.1.2.1 1) = L1) (fun (u : CS × (Nat → Int64)) => (oo, .inl (cL, 1, .inr (.inl u.2))) :: clsW ad cI cL cZ u.1)) (cc := cL_size) (maxL := 4) (ret := (some .int)) (hh := ([((0 : Nat), (9 : Nat), (12 : Nat), (13 : Nat))])) (by decide) (Nat.le_of_ble_eq_true rfl) ?_
  intro p e s m args below meth c R Q A H locs ls hx hb hr hlocks hin hml hown hts hN hE htab hP hK hD hA hS hRm hQ hl
  have hown : s.vm.findClass RL = some m.cls := hown
  have hl : lv_has ls 4 [(0, .ref (ad 0)), (1, .int x), (2, .ref oo)] := hl
  have hR1 : 9 ≤ R.frames := by rw [hRm]; exact Nat.le_of_ble_eq_true rfl
  have hR2 : 320 ≤ R.locals := by rw [hRm]; exact Nat.le_of_ble_eq_true rfl
  have hR3 : 1 ≤ R.cells := by rw [hRm]; exact Nat.le_of_ble_eq_true rfl
  have hR4 : 6 ≤ R.slots := by rw [hRm]; exact Nat.le_of_ble_eq_true rfl
  refine lv_aload_n hx hb dL_size_0 rfl (lv_at hl 2 rfl) ?_
  refine lv_iconst (v := nI 0) hx hb dL_size_1 (by decide) ?_
  refine lv_aload_n hx hb dL_size_2 rfl (lv_at hl 0 rfl) ?_
  refine lv_iload_n hx hb dL_size_3 rfl (lv_at hl 1 rfl) ?_
  refine su_cHi (wr := [(oo, .inl (cL, 1, .inr (.inl f)))]) (vx_runV (As := [.int x]) (rest := [.int (nI 0), .ref oo]) ⟨hx, hb, hml, hown, hts⟩ (K_size l hfl D cI cL cZ H.size ad S ok0 ok1 x kk v L0 L1 hr9) (cwV 1 hts (lw_gV q_660 q_661 q_662 q_31 q_663) rfl rfl rfl (by decide +kernel) ⟨Nat.le_trans (Nat.le_of_ble_eq_true rfl) hR1, Nat.le_trans (Nat.le_of_ble_eq_true rfl) hR2⟩) (su_pvx hE hS hA hN hK hP hD [1, 2, 3, 4, 5, 6, 7, 8, 9, 10, 11, 12, 13, 14, 15, 16, 17, 18, 19, 20, 21, 22, 23, 24, 25, 26, 27, 28, 29, 30, 31, 32, 33, 34, 35, 36, 37, 38, 39, 40, 41, 42, 43, 44, 45, 46, 47, 48, 49, 50, 51, 52, 53, 54, 55, 56, 57, 58, 59, 60, 61, 62, 63, 64, 65, 66, 67, 68, 69] [0, 1, 2] rfl rfl rfl (ci := 9) (q0 := 0) rfl rfl rfl) rfl rfl hl.1 rfl (lv_room (Nat.le_of_ble_eq_true rfl)) dL_size_4 ⟨Nat.le_trans (Nat.le_of_ble_eq_true rfl) hR3, Nat.le_trans (Nat.le_of_ble_eq_true rfl) hR4⟩) hP hD hS hA [1, 2, 3, 4, 5, 6, 7, 8, 9, 10, 11, 12, 13, 14, 15, 16, 17, 18, 19, 20, 21, 22, 23, 24, 25, 26, 27, 28, 29, 30, 31, 32, 33, 34, 35, 36, 37, 38, 39, 40, 41, 42, 43, 44, 45, 46, 47, 48, 49, 50, 51, 52, 53, 54, 55, 56, 57, 58, 59, 60, 61, 62, 63, 64, 65, 66, 67, 68, 69] [0] rfl rfl (by decide) (by decide) (fun E ce q9 u H locs hw hP hD hS hce hcv hcl => ?_) (fun r u H locs hw hP hD hS => ?_)
  · have hP : va_P D vwCl ((oo, .inl (cL, 1, .inr (.inl f))) :: clsW ad cI cL cZ u) H := hP
    have hD : va_D A ((oo, .inl (cL, 1, .inr (.inl f))) :: clsW ad cI cL cZ u) := hD
    obtain ⟨rfl, rfl⟩ := su_m1 hw.1
    refine vx_catch (own := RL) (name := "java/lang/IndexOutOfBoundsException") hown [] ⟨0, 9, 12, 13⟩ [] (htab.trans rfl) (fun _ h => absurd h List.not_mem_nil) (by decide) (by decide) (hts _ q_446) (va_Nw.use (A := args) rfl (hN _ q_459)) hce hcv hcl ?_
    refine lv_astore_n (lv' := [(3, .ref q9), (0, .ref (ad 0)), (1, .int x), (2, .ref oo)]) hx hb dL_size_12 rfl hl (by decide) rfl (fun ls hl => ?_)
    refine lv_iconst (v := nI 1) hx hb dL_size_13 (by decide) ?_
    rw [hQ]
    refine vx_ret ?_
    exact su_ei hx hb hr hlocks hS dL_size_14 (u, f) (⟨rfl, fun q => absurd q (by decide), hw.2.1, hw.2.2⟩) hP hD
  · have hP : va_P D vwCl ((oo, .inl (cL, 1, .inr (.inl f))) :: clsW ad cI cL cZ u) H := hP
    have hD : va_D A ((oo, .inl (cL, 1, .inr (.inl f))) :: clsW ad cI cL cZ u) := hD
    refine lv_i2l (v := r.toInt64) hx hb dL_size_7 rfl ?_
    refine su_last hx hb hK hP hD hS 0 1 rfl rfl (i := 0) (by decide) (by decide) (fun _ => r.toInt64) (fun j hj => by first | rfl | (rw [show j = 0 by omega]; first | rfl | exact if_pos rfl)) dL_size_8 (fun H locs hP hD hS => ?_)
    refine lv_goto (tgt := 15) hx hb dL_size_9 (by decide) ?_
    refine lv_iconst (v := nI 0) hx hb dL_size_15 (by decide) ?_
    rw [hQ]
    refine vx_ret ?_
    exact su_ei hx hb hr hlocks hS dL_size_16 (u, fun _ => r.toInt64) (⟨by rw [hw.1.1], fun _ => by show _ = _; rw [← hw.1.2], hw.2.1, hw.2.2⟩) hP hD
set_option maxHeartbeats 4000000 in
set_option maxRecDepth 100000 in
theorem L_sums (l : Launch) (hfl : l.stackTraces = false) (D : va_G) (cI cL cZ : ClassId) (sz : Nat) (ad : Nat → Nat) (S : CS) (oo : Nat) (f : Nat → Int64) (ok0 : okL (su_lst (S.1 0) (S.2.1 0))) (ok1 : okL (su_lst (S.1 1) (S.2.1 1))) (x : Int32) (b : Bool) (kk : Nat) (v : Int32) (L0 L1 : List Nat) (hr9 : su_h1 (fun g n => R_sums g n b) (S.1 0) (S.2.1 0) (S.1 1) (S.2.1 1) x kk v L0 L1) :
    Met l yL_sums (wsH yL_sums cL_sums 5 (some .int) ([((0 : Nat), (10 : Nat), (13 : Nat), (13 : Nat))])) suRmW (su_prx D (su_T cI cL cZ) sz ((oo, .inl (cL, 1, .inr (.inl f))) :: clsW ad cI cL cZ S) [.ref (ad 0), .int x, .int (bI b), .ref oo]) (su_qi D (va_A ((oo, .inl (cL, 1, .inr (.inl f))) :: clsW ad cI cL cZ S) sz) (fun (r : Int32) (u : CS × (Nat → Int64)) => r = nI kk ∧ (kk = 0 → u.2 0 = v.toInt64) ∧ su_lst (u.1.1 0) (u.1.2.1 0) = L0 ∧ su_lst (u.1.1 1) (u.1.2.1 1) = L1) (fun (u : CS × (Nat → Int64)) => (oo, .inl (cL, 1, .inr (.inl u.2))) :: clsW ad cI cL cZ u.1)) 1 6 (va_A ((oo, .inl (cL, 1, .inr (.inl f))) :: clsW ad cI cL cZ S) sz) := by
  refine su_metH (y := yL_sums) (av := [.ref (ad 0), .int x, .int (bI b), .ref oo]) (Qf := fun A => su_qi D A (fun (r : Int32) (u : CS × (Nat → Int64)) => r = nI kk ∧ (kk = 0 → u.2 0 = v.toInt64) ∧ su_lst (u.1.1 0) (u.1.2.1 0) = L0 ∧ su_lst (u.1.1 1) (u.1.2.1 1) = L1) (fun (u : CS × (Nat → Int64)) => (oo, .inl (cL, 1, .inr (.inl u.2))) :: clsW ad cI cL cZ u.1)) (cc := cL_sums) (maxL := 5) (ret := (some .int)) (hh := ([((0 : Nat), (10 : Nat), (13 : Nat), (13 : Nat))])) (by decide) (Nat.le_of_ble_eq_true rfl) ?_
  intro p e s m args below meth c R Q A H locs ls hx hb hr hlocks hin hml hown hts hN hE htab hP hK hD hA hS hRm hQ hl
  have hown : s.vm.findClass RL = some m.cls := hown
  have hl : lv_has ls 5 [(0, .ref (ad 0)), (1, .int x), (2, .int (bI b)), (3, .ref oo)] := hl
  have hR1 : 9 ≤ R.frames := by rw [hRm]; exact Nat.le_of_ble_eq_true rfl
  have hR2 : 320 ≤ R.locals := by rw [hRm]; exact Nat.le_of_ble_eq_true rfl
  have hR3 : 1 ≤ R.cells := by rw [hRm]; exact Nat.le_of_ble_eq_true rfl
  have hR4 : 6 ≤ R.slots := by rw [hRm]; exact Nat.le_of_ble_eq_true rfl
  refine lv_aload_n hx hb dL_sums_0 rfl (lv_at hl 3 rfl) ?_
  refine lv_iconst (v := nI 0) hx hb dL_sums_1 (by decide) ?_
  refine lv_aload_n hx hb dL_sums_2 rfl (lv_at hl 0 rfl) ?_
  refine lv_iload_n hx hb dL_sums_3 rfl (lv_at hl 1 rfl) ?_
  refine lv_iload_n hx hb dL_sums_4 rfl (lv_at hl 2 rfl) ?_
  refine su_cHi (wr := [(oo, .inl (cL, 1, .inr (.inl f)))]) (vx_runV (As := [.int x, .int (bI b)]) (rest := [.int (nI 0), .ref oo]) ⟨hx, hb, hml, hown, hts⟩ (K_sums l hfl D cI cL cZ H.size ad S ok0 ok1 x b kk v L0 L1 hr9) (cwV 2 hts (lw_gV q_705 q_706 q_707 q_31 q_708) rfl rfl rfl (by decide +kernel) ⟨Nat.le_trans (Nat.le_of_ble_eq_true rfl) hR1, Nat.le_trans (Nat.le_of_ble_eq_true rfl) hR2⟩) (su_pvx hE hS hA hN hK hP hD [1, 2, 3, 4, 5, 6, 7, 8, 9, 10, 11, 12, 13, 14, 15, 16, 17, 18, 19, 20, 21, 22, 23, 24, 25, 26, 27, 28, 29, 30, 31, 32, 33, 34, 35, 36, 37, 38, 39, 40, 41, 42, 43, 44, 45, 46, 47, 48, 49, 50, 51, 52, 53, 54, 55, 56, 57, 58, 59, 60, 61, 62, 63, 64, 65, 66, 67, 68, 69] [0, 1, 2] rfl rfl rfl (ci := 9) (q0 := 0) rfl rfl rfl) rfl rfl hl.1 rfl (lv_room (Nat.le_of_ble_eq_true rfl)) dL_sums_5 ⟨Nat.le_trans (Nat.le_of_ble_eq_true rfl) hR3, Nat.le_trans (Nat.le_of_ble_eq_true rfl) hR4⟩) hP hD hS hA [1, 2, 3, 4, 5, 6, 7, 8, 9, 10, 11, 12, 13, 14, 15, 16, 17, 18, 19, 20, 21, 22, 23, 24, 25, 26, 27, 28, 29, 30, 31, 32, 33, 34, 35, 36, 37, 38, 39, 40, 41, 42, 43, 44, 45, 46, 47, 48, 49, 50, 51, 52, 53, 54, 55, 56, 57, 58, 59, 60, 61, 62, 63, 64, 65, 66, 67, 68, 69] [0] rfl rfl (by decide) (by decide) (fun E ce q9 u H locs hw hP hD hS hce hcv hcl => ?_) (fun r u H locs hw hP hD hS => ?_)
  · have hP : va_P D vwCl ((oo, .inl (cL, 1, .inr (.inl f))) :: clsW ad cI cL cZ u) H := hP
    have hD : va_D A ((oo, .inl (cL, 1, .inr (.inl f))) :: clsW ad cI cL cZ u) := hD
    obtain ⟨rfl, rfl⟩ := su_m1 hw.1
    refine vx_catch (own := RL) (name := "java/lang/IndexOutOfBoundsException") hown [] ⟨0, 10, 13, 13⟩ [] (htab.trans rfl) (fun _ h => absurd h List.not_mem_nil) (by decide) (by decide) (hts _ q_446) (va_Nw.use (A := args) rfl (hN _ q_459)) hce hcv hcl ?_
    refine lv_astore (lv' := [(4, .ref q9), (0, .ref (ad 0)), (1, .int x), (2, .int (bI b)), (3, .ref oo)]) hx hb dL_sums_13 hl (by decide) rfl (fun ls hl => ?_)
    refine lv_iconst (v := nI 1) hx hb dL_sums_15 (by decide) ?_
    rw [hQ]
    refine vx_ret ?_
    exact su_ei hx hb hr hlocks hS dL_sums_16 (u, f) (⟨rfl, fun q => absurd q (by decide), hw.2.1, hw.2.2⟩) hP hD
  · have hP : va_P D vwCl ((oo, .inl (cL, 1, .inr (.inl f))) :: clsW ad cI cL cZ u) H := hP
    have hD : va_D A ((oo, .inl (cL, 1, .inr (.inl f))) :: clsW ad cI cL cZ u) := hD
    refine lv_i2l (v := r.toInt64) hx hb dL_sums_8 rfl ?_
    refine su_last hx hb hK hP hD hS 0 1 rfl rfl (i := 0) (by decide) (by decide) (fun _ => r.toInt64) (fun j hj => by first | rfl | (rw [show j = 0 by omega]; first | rfl | exact if_pos rfl)) dL_sums_9 (fun H locs hP hD hS => ?_)
    refine lv_goto (tgt := 17) hx hb dL_sums_10 (by decide) ?_
    refine lv_iconst (v := nI 0) hx hb dL_sums_17 (by decide) ?_
    rw [hQ]
    refine vx_ret ?_
    exact su_ei hx hb hr hlocks hS dL_sums_18 (u, fun _ => r.toInt64) (⟨by rw [hw.1.1], fun _ => by show _ = _; rw [← hw.1.2], hw.2.1, hw.2.2⟩) hP hD
set_option maxHeartbeats 4000000 in
set_option maxRecDepth 100000 in
theorem L_lastGap (l : Launch) (hfl : l.stackTraces = false) (D : va_G) (cI cL cZ : ClassId) (sz : Nat) (ad : Nat → Nat) (S : CS) (oo : Nat) (f : Nat → Int64) (ok0 : okL (su_lst (S.1 0) (S.2.1 0))) (ok1 : okL (su_lst (S.1 1) (S.2.1 1))) (x : Int32) (b : Bool) (kk : Nat) (v : Int32) (L0 L1 : List Nat) (hr9 : su_h1 (fun g n => R_lastGap g n b) (S.1 0) (S.2.1 0) (S.1 1) (S.2.1 1) x kk v L0 L1) :
    Met l yL_lastGap (wsH yL_lastGap cL_lastGap 5 (some .int) ([((0 : Nat), (10 : Nat), (13 : Nat), (13 : Nat)), ((0 : Nat), (10 : Nat), (17 : Nat), (63 : Nat))])) suRmW (su_prx D (su_T cI cL cZ) sz ((oo, .inl (cL, 1, .inr (.inl f))) :: clsW ad cI cL cZ S) [.ref (ad 0), .int x, .int (bI b), .ref oo]) (su_qi D (va_A ((oo, .inl (cL, 1, .inr (.inl f))) :: clsW ad cI cL cZ S) sz) (fun (r : Int32) (u : CS × (Nat → Int64)) => r = nI kk ∧ (kk = 0 → u.2 0 = v.toInt64) ∧ su_lst (u.1.1 0) (u.1.2.1 0) = L0 ∧ su_lst (u.1.1 1) (u.1.2.1 1) = L1) (fun (u : CS × (Nat → Int64)) => (oo, .inl (cL, 1, .inr (.inl u.2))) :: clsW ad cI cL cZ u.1)) 1 6 (va_A ((oo, .inl (cL, 1, .inr (.inl f))) :: clsW ad cI cL cZ S) sz) := by
  refine su_metH (y := yL_lastGap) (av := [.ref (ad 0), .int x, .int (bI b), .ref oo]) (Qf := fun A => su_qi D A (fun (r : Int32) (u : CS × (Nat → Int64)) => r = nI kk ∧ (kk = 0 → u.2 0 = v.toInt64) ∧ su_lst (u.1.1 0) (u.1.2.1 0) = L0 ∧ su_lst (u.1.1 1) (u.1.2.1 1) = L1) (fun (u : CS × (Nat → Int64)) => (oo, .inl (cL, 1, .inr (.inl u.2))) :: clsW ad cI cL cZ u.1)) (cc := cL_lastGap) (maxL := 5) (ret := (some .int)) (hh := ([((0 : Nat), (10 : Nat), (13 : Nat), (13 : Nat)), ((0 : Nat), (10 : Nat), (17 : Nat), (63 : Nat))])) (by decide) (Nat.le_of_ble_eq_true rfl) ?_
  intro p e s m args below meth c R Q A H locs ls hx hb hr hlocks hin hml hown hts hN hE htab hP hK hD hA hS hRm hQ hl
  have hown : s.vm.findClass RL = some m.cls := hown
  have hl : lv_has ls 5 [(0, .ref (ad 0)), (1, .int x), (2, .int (bI b)), (3, .ref oo)] := hl
  have hR1 : 9 ≤ R.frames := by rw [hRm]; exact Nat.le_of_ble_eq_true rfl
  have hR2 : 320 ≤ R.locals := by rw [hRm]; exact Nat.le_of_ble_eq_true rfl
  have hR3 : 1 ≤ R.cells := by rw [hRm]; exact Nat.le_of_ble_eq_true rfl
  have hR4 : 6 ≤ R.slots := by rw [hRm]; exact Nat.le_of_ble_eq_true rfl
  refine lv_aload_n hx hb dL_lastGap_0 rfl (lv_at hl 3 rfl) ?_
  refine lv_iconst (v := nI 0) hx hb dL_lastGap_1 (by decide) ?_
  refine lv_aload_n hx hb dL_lastGap_2 rfl (lv_at hl 0 rfl) ?_
  refine lv_iload_n hx hb dL_lastGap_3 rfl (lv_at hl 1 rfl) ?_
  refine lv_iload_n hx hb dL_lastGap_4 rfl (lv_at hl 2 rfl) ?_
  refine su_cHi (wr := [(oo, .inl (cL, 1, .inr (.inl f)))]) (vx_runV (As := [.int x, .int (bI b)]) (rest := [.int (nI 0), .ref oo]) ⟨hx, hb, hml, hown, hts⟩ (K_lastGap l hfl D cI cL cZ H.size ad S ok0 ok1 x b kk v L0 L1 hr9) (cwV 2 hts (lw_gV q_753 q_754 q_755 q_31 q_756) rfl rfl rfl (by decide +kernel) ⟨Nat.le_trans (Nat.le_of_ble_eq_true rfl) hR1, Nat.le_trans (Nat.le_of_ble_eq_true rfl) hR2⟩) (su_pvx hE hS hA hN hK hP hD [1, 2, 3, 4, 5, 6, 7, 8, 9, 10, 11, 12, 13, 14, 15, 16, 17, 18, 19, 20, 21, 22, 23, 24, 25, 26, 27, 28, 29, 30, 31, 32, 33, 34, 35, 36, 37, 38, 39, 40, 41, 42, 43, 44, 45, 46, 47, 48, 49, 50, 51, 52, 53, 54, 55, 56, 57, 58, 59, 60, 61, 62, 63, 64, 65, 66, 67, 68, 69] [0, 1, 2] rfl rfl rfl (ci := 9) (q0 := 0) rfl rfl rfl) rfl rfl hl.1 rfl (lv_room (Nat.le_of_ble_eq_true rfl)) dL_lastGap_5 ⟨Nat.le_trans (Nat.le_of_ble_eq_true rfl) hR3, Nat.le_trans (Nat.le_of_ble_eq_true rfl) hR4⟩) hP hD hS hA [1, 2, 3, 4, 5, 6, 7, 8, 9, 10, 11, 12, 13, 14, 15, 16, 17, 18, 19, 20, 21, 22, 23, 24, 25, 26, 27, 28, 29, 30, 31, 32, 33, 34, 35, 36, 37, 38, 39, 40, 41, 42, 43, 44, 45, 46, 47, 48, 49, 50, 51, 52, 53, 54, 55, 56, 57, 58, 59, 60, 61, 62, 63, 64, 65, 66, 67, 68, 69] [0] rfl rfl (by decide) (by decide) (fun E ce q9 u H locs hw hP hD hS hce hcv hcl => ?_) (fun r u H locs hw hP hD hS => ?_)
  · have hP : va_P D vwCl ((oo, .inl (cL, 1, .inr (.inl f))) :: clsW ad cI cL cZ u) H := hP
    have hD : va_D A ((oo, .inl (cL, 1, .inr (.inl f))) :: clsW ad cI cL cZ u) := hD
    rcases su_m2 hw.1 with ⟨rfl, rfl⟩ | ⟨rfl, rfl⟩
    · refine vx_catch (own := RL) (name := "java/lang/IndexOutOfBoundsException") hown [] ⟨0, 10, 13, 13⟩ [⟨0, 10, 17, 63⟩] (htab.trans rfl) (fun _ h => absurd h List.not_mem_nil) (by decide) (by decide) (hts _ q_446) (va_Nw.use (A := args) rfl (hN _ q_459)) hce hcv hcl ?_
      refine lv_astore (lv' := [(4, .ref q9), (0, .ref (ad 0)), (1, .int x), (2, .int (bI b)), (3, .ref oo)]) hx hb dL_lastGap_13 hl (by decide) rfl (fun ls hl => ?_)
      refine lv_iconst (v := nI 1) hx hb dL_lastGap_15 (by decide) ?_
      rw [hQ]
      refine vx_ret ?_
      exact su_ei hx hb hr hlocks hS dL_lastGap_16 (u, f) (⟨rfl, fun q => absurd q (by decide), hw.2.1, hw.2.2⟩) hP hD
    · refine vx_catch (own := RL) (name := "java/util/NoSuchElementException") hown [⟨0, 10, 13, 13⟩] ⟨0, 10, 17, 63⟩ [] (htab.trans rfl) (List.forall_mem_cons.mpr ⟨Or.inr ⟨by decide, "java/lang/IndexOutOfBoundsException", hts _ q_446, hE.2.2.2 ("java/util/NoSuchElementException", "java/lang/IndexOutOfBoundsException") (by decide +kernel)⟩, fun _ h => absurd h List.not_mem_nil⟩) (by decide) (by decide) (hts _ q_712) (va_Nw.use (A := args) rfl (hN _ q_722)) hce hcv hcl ?_
      refine lv_astore (lv' := [(4, .ref q9), (0, .ref (ad 0)), (1, .int x), (2, .int (bI b)), (3, .ref oo)]) hx hb dL_lastGap_17 hl (by decide) rfl (fun ls hl => ?_)
      refine lv_iconst (v := nI 2) hx hb dL_lastGap_19 (by decide) ?_
      rw [hQ]
      refine vx_ret ?_
      exact su_ei hx hb hr hlocks hS dL_lastGap_20 (u, f) (⟨rfl, fun q => absurd q (by decide), hw.2.1, hw.2.2⟩) hP hD
  · have hP : va_P D vwCl ((oo, .inl (cL, 1, .inr (.inl f))) :: clsW ad cI cL cZ u) H := hP
    have hD : va_D A ((oo, .inl (cL, 1, .inr (.inl f))) :: clsW ad cI cL cZ u) := hD
    refine lv_i2l (v := r.toInt64) hx hb dL_lastGap_8 rfl ?_
    refine su_last hx hb hK hP hD hS 0 1 rfl rfl (i := 0) (by decide) (by decide) (fun _ => r.toInt64) (fun j hj => by first | rfl | (rw [show j = 0 by omega]; first | rfl | exact if_pos rfl)) dL_lastGap_9 (fun H locs hP hD hS => ?_)
    refine lv_goto (tgt := 21) hx hb dL_lastGap_10 (by decide) ?_
    refine lv_iconst (v := nI 0) hx hb dL_lastGap_21 (by decide) ?_
    rw [hQ]
    refine vx_ret ?_
    exact su_ei hx hb hr hlocks hS dL_lastGap_22 (u, fun _ => r.toInt64) (⟨by rw [hw.1.1], fun _ => by show _ = _; rw [← hw.1.2], hw.2.1, hw.2.2⟩) hP hD
set_option maxHeartbeats 4000000 in
set_option maxRecDepth 100000 in
theorem L_withMany (l : Launch) (hfl : l.stackTraces = false) (D : va_G) (cI cL cZ : ClassId) (sz : Nat) (ad : Nat → Nat) (S : CS) (oo : Nat) (f : Nat → Int64) (ok0 : okL (su_lst (S.1 0) (S.2.1 0))) (ok1 : okL (su_lst (S.1 1) (S.2.1 1))) (x : Int32) (y : Int32) (kk : Nat) (v : Int32) (L0 L1 : List Nat) (hr9 : su_h1 (fun g n => R_withMany g n y) (S.1 0) (S.2.1 0) (S.1 1) (S.2.1 1) x kk v L0 L1) :
    Met l yL_withMany (wsH yL_withMany cL_withMany 5 (some .int) ([((0 : Nat), (10 : Nat), (13 : Nat), (13 : Nat)), ((0 : Nat), (10 : Nat), (17 : Nat), (15 : Nat))])) suRmW (su_prx D (su_T cI cL cZ) sz ((oo, .inl (cL, 1, .inr (.inl f))) :: clsW ad cI cL cZ S) [.ref (ad 0), .int x, .int y, .ref oo]) (su_qi D (va_A ((oo, .inl (cL, 1, .inr (.inl f))) :: clsW ad cI cL cZ S) sz) (fun (r : Int32) (u : CS × (Nat → Int64)) => r = nI kk ∧ (kk = 0 → u.2 0 = v.toInt64) ∧ su_lst (u.1.1 0) (u.1.2.1 0) = L0 ∧ su_lst (u.1.1 1) (u.1.2.1 1) = L1) (fun (u : CS × (Nat → Int64)) => (oo, .inl (cL, 1, .inr (.inl u.2))) :: clsW ad cI cL cZ u.1)) 1 6 (va_A ((oo, .inl (cL, 1, .inr (.inl f))) :: clsW ad cI cL cZ S) sz) := by
  refine su_metH (y := yL_withMany) (av := [.ref (ad 0), .int x, .int y, .ref oo]) (Qf := fun A => su_qi D A (fun (r : Int32) (u : CS × (Nat → Int64)) => r = nI kk ∧ (kk = 0 → u.2 0 = v.toInt64) ∧ su_lst (u.1.1 0) (u.1.2.1 0) = L0 ∧ su_lst (u.1.1 1) (u.1.2.1 1) = L1) (fun (u : CS × (Nat → Int64)) => (oo, .inl (cL, 1, .inr (.inl u.2))) :: clsW ad cI cL cZ u.1)) (cc := cL_withMany) (maxL := 5) (ret := (some .int)) (hh := ([((0 : Nat), (10 : Nat), (13 : Nat), (13 : Nat)), ((0 : Nat), (10 : Nat), (17 : Nat), (15 : Nat))])) (by decide) (Nat.le_of_ble_eq_true rfl) ?_
  intro p e s m args below meth c R Q A H locs ls hx hb hr hlocks hin hml hown hts hN hE htab hP hK hD hA hS hRm hQ hl
  have hown : s.vm.findClass RL = some m.cls := hown
  have hl : lv_has ls 5 [(0, .ref (ad 0)), (1, .int x), (2, .int y), (3, .ref oo)] := hl
  have hR1 : 9 ≤ R.frames := by rw [hRm]; exact Nat.le_of_ble_eq_true rfl
  have hR2 : 320 ≤ R.locals := by rw [hRm]; exact Nat.le_of_ble_eq_true rfl
  have hR3 : 1 ≤ R.cells := by rw [hRm]; exact Nat.le_of_ble_eq_true rfl
  have hR4 : 6 ≤ R.slots := by rw [hRm]; exact Nat.le_of_ble_eq_true rfl
  refine lv_aload_n hx hb dL_withMany_0 rfl (lv_at hl 3 rfl) ?_
  refine lv_iconst (v := nI 0) hx hb dL_withMany_1 (by decide) ?_
  refine lv_aload_n hx hb dL_withMany_2 rfl (lv_at hl 0 rfl) ?_
  refine lv_iload_n hx hb dL_withMany_3 rfl (lv_at hl 1 rfl) ?_
  refine lv_iload_n hx hb dL_withMany_4 rfl (lv_at hl 2 rfl) ?_
  refine su_cHi (wr := [(oo, .inl (cL, 1, .inr (.inl f)))]) (vx_runV (As := [.int x, .int y]) (rest := [.int (nI 0), .ref oo]) ⟨hx, hb, hml, hown, hts⟩ (K_withMany l hfl D cI cL cZ H.size ad S ok0 ok1 x y kk v L0 L1 hr9) (cwV 2 hts (lw_gV q_795 q_796 q_797 q_31 q_798) rfl rfl rfl (by decide +kernel) ⟨Nat.le_trans (Nat.le_of_ble_eq_true rfl) hR1, Nat.le_trans (Nat.le_of_ble_eq_true rfl) hR2⟩) (su_pvx hE hS hA hN hK hP hD [1, 2, 3, 4, 5, 6, 7, 8, 9, 10, 11, 12, 13, 14, 15, 16, 17, 18, 19, 20, 21, 22, 23, 24, 25, 26, 27, 28, 29, 30, 31, 32, 33, 34, 35, 36, 37, 38, 39, 40, 41, 42, 43, 44, 45, 46, 47, 48, 49, 50, 51, 52, 53, 54, 55, 56, 57, 58, 59, 60, 61, 62, 63, 64, 65, 66, 67, 68, 69] [0, 1, 2] rfl rfl rfl (ci := 9) (q0 := 0) rfl rfl rfl) rfl rfl hl.1 rfl (lv_room (Nat.le_of_ble_eq_true rfl)) dL_withMany_5 ⟨Nat.le_trans (Nat.le_of_ble_eq_true rfl) hR3, Nat.le_trans (Nat.le_of_ble_eq_true rfl) hR4⟩) hP hD hS hA [1, 2, 3, 4, 5, 6, 7, 8, 9, 10, 11, 12, 13, 14, 15, 16, 17, 18, 19, 20, 21, 22, 23, 24, 25, 26, 27, 28, 29, 30, 31, 32, 33, 34, 35, 36, 37, 38, 39, 40, 41, 42, 43, 44, 45, 46, 47, 48, 49, 50, 51, 52, 53, 54, 55, 56, 57, 58, 59, 60, 61, 62, 63, 64, 65, 66, 67, 68, 69] [0] rfl rfl (by decide) (by decide) (fun E ce q9 u H locs hw hP hD hS hce hcv hcl => ?_) (fun r u H locs hw hP hD hS => ?_)
  · have hP : va_P D vwCl ((oo, .inl (cL, 1, .inr (.inl f))) :: clsW ad cI cL cZ u) H := hP
    have hD : va_D A ((oo, .inl (cL, 1, .inr (.inl f))) :: clsW ad cI cL cZ u) := hD
    rcases su_m2 hw.1 with ⟨rfl, rfl⟩ | ⟨rfl, rfl⟩
    · refine vx_catch (own := RL) (name := "java/lang/IndexOutOfBoundsException") hown [] ⟨0, 10, 13, 13⟩ [⟨0, 10, 17, 15⟩] (htab.trans rfl) (fun _ h => absurd h List.not_mem_nil) (by decide) (by decide) (hts _ q_446) (va_Nw.use (A := args) rfl (hN _ q_459)) hce hcv hcl ?_
      refine lv_astore (lv' := [(4, .ref q9), (0, .ref (ad 0)), (1, .int x), (2, .int y), (3, .ref oo)]) hx hb dL_withMany_13 hl (by decide) rfl (fun ls hl => ?_)
      refine lv_iconst (v := nI 1) hx hb dL_withMany_15 (by decide) ?_
      rw [hQ]
      refine vx_ret ?_
      exact su_ei hx hb hr hlocks hS dL_withMany_16 (u, f) (⟨rfl, fun q => absurd q (by decide), hw.2.1, hw.2.2⟩) hP hD
    · refine vx_catch (own := RL) (name := "java/lang/IllegalArgumentException") hown [⟨0, 10, 13, 13⟩] ⟨0, 10, 17, 15⟩ [] (htab.trans rfl) (List.forall_mem_cons.mpr ⟨Or.inr ⟨by decide, "java/lang/IndexOutOfBoundsException", hts _ q_446, hE.2.2.2 ("java/lang/IllegalArgumentException", "java/lang/IndexOutOfBoundsException") (by decide +kernel)⟩, fun _ h => absurd h List.not_mem_nil⟩) (by decide) (by decide) (hts _ q_447) (va_Nw.use (A := args) rfl (hN _ q_535)) hce hcv hcl ?_
      refine lv_astore (lv' := [(4, .ref q9), (0, .ref (ad 0)), (1, .int x), (2, .int y), (3, .ref oo)]) hx hb dL_withMany_17 hl (by decide) rfl (fun ls hl => ?_)
      refine lv_iconst (v := nI 2) hx hb dL_withMany_19 (by decide) ?_
      rw [hQ]
      refine vx_ret ?_
      exact su_ei hx hb hr hlocks hS dL_withMany_20 (u, f) (⟨rfl, fun q => absurd q (by decide), hw.2.1, hw.2.2⟩) hP hD
  · have hP : va_P D vwCl ((oo, .inl (cL, 1, .inr (.inl f))) :: clsW ad cI cL cZ u) H := hP
    have hD : va_D A ((oo, .inl (cL, 1, .inr (.inl f))) :: clsW ad cI cL cZ u) := hD
    refine lv_i2l (v := r.toInt64) hx hb dL_withMany_8 rfl ?_
    refine su_last hx hb hK hP hD hS 0 1 rfl rfl (i := 0) (by decide) (by decide) (fun _ => r.toInt64) (fun j hj => by first | rfl | (rw [show j = 0 by omega]; first | rfl | exact if_pos rfl)) dL_withMany_9 (fun H locs hP hD hS => ?_)
    refine lv_goto (tgt := 21) hx hb dL_withMany_10 (by decide) ?_
    refine lv_iconst (v := nI 0) hx hb dL_withMany_21 (by decide) ?_
    rw [hQ]
    refine vx_ret ?_
    exact su_ei hx hb hr hlocks hS dL_withMany_22 (u, fun _ => r.toInt64) (⟨by rw [hw.1.1], fun _ => by show _ = _; rw [← hw.1.2], hw.2.1, hw.2.2⟩) hP hD
set_option maxHeartbeats 4000000 in
set_option maxRecDepth 100000 in
theorem L_choice (l : Launch) (hfl : l.stackTraces = false) (D : va_G) (cI cL cZ : ClassId) (sz : Nat) (ad : Nat → Nat) (S : CS) (oo : Nat) (f : Nat → Int64) (ok0 : okL (su_lst (S.1 0) (S.2.1 0))) (ok1 : okL (su_lst (S.1 1) (S.2.1 1))) (x : Int32) (y : Int32) (z : Int32) (kk : Nat) (v : Int32) (L0 L1 : List Nat) (hr9 : su_h1 (fun g n => R_choice g n y z) (S.1 0) (S.2.1 0) (S.1 1) (S.2.1 1) x kk v L0 L1) :
    Met l yL_choice (wsH yL_choice cL_choice 6 (some .int) ([((0 : Nat), (12 : Nat), (15 : Nat), (13 : Nat)), ((0 : Nat), (12 : Nat), (19 : Nat), (15 : Nat)), ((0 : Nat), (12 : Nat), (23 : Nat), (63 : Nat))])) suRmW (su_prx D (su_T cI cL cZ) sz ((oo, .inl (cL, 1, .inr (.inl f))) :: clsW ad cI cL cZ S) [.ref (ad 0), .int x, .int y, .int z, .ref oo]) (su_qi D (va_A ((oo, .inl (cL, 1, .inr (.inl f))) :: clsW ad cI cL cZ S) sz) (fun (r : Int32) (u : CS × (Nat → Int64)) => r = nI kk ∧ (kk = 0 → u.2 0 = v.toInt64) ∧ su_lst (u.1.1 0) (u.1.2.1 0) = L0 ∧ su_lst (u.1.1 1) (u.1.2.1 1) = L1) (fun (u : CS × (Nat → Int64)) => (oo, .inl (cL, 1, .inr (.inl u.2))) :: clsW ad cI cL cZ u.1)) 1 6 (va_A ((oo, .inl (cL, 1, .inr (.inl f))) :: clsW ad cI cL cZ S) sz) := by
  refine su_metH (y := yL_choice) (av := [.ref (ad 0), .int x, .int y, .int z, .ref oo]) (Qf := fun A => su_qi D A (fun (r : Int32) (u : CS × (Nat → Int64)) => r = nI kk ∧ (kk = 0 → u.2 0 = v.toInt64) ∧ su_lst (u.1.1 0) (u.1.2.1 0) = L0 ∧ su_lst (u.1.1 1) (u.1.2.1 1) = L1) (fun (u : CS × (Nat → Int64)) => (oo, .inl (cL, 1, .inr (.inl u.2))) :: clsW ad cI cL cZ u.1)) (cc := cL_choice) (maxL := 6) (ret := (some .int)) (hh := ([((0 : Nat), (12 : Nat), (15 : Nat), (13 : Nat)), ((0 : Nat), (12 : Nat), (19 : Nat), (15 : Nat)), ((0 : Nat), (12 : Nat), (23 : Nat), (63 : Nat))])) (by decide) (Nat.le_of_ble_eq_true rfl) ?_
  intro p e s m args below meth c R Q A H locs ls hx hb hr hlocks hin hml hown hts hN hE htab hP hK hD hA hS hRm hQ hl
  have hown : s.vm.findClass RL = some m.cls := hown
  have hl : lv_has ls 6 [(0, .ref (ad 0)), (1, .int x), (2, .int y), (3, .int z), (4, .ref oo)] := hl
  have hR1 : 9 ≤ R.frames := by rw [hRm]; exact Nat.le_of_ble_eq_true rfl
  have hR2 : 320 ≤ R.locals := by rw [hRm]; exact Nat.le_of_ble_eq_true rfl
  have hR3 : 1 ≤ R.cells := by rw [hRm]; exact Nat.le_of_ble_eq_true rfl
  have hR4 : 6 ≤ R.slots := by rw [hRm]; exact Nat.le_of_ble_eq_true rfl
  refine lv_aload hx hb dL_choice_0 (lv_at hl 4 rfl) ?_
  refine lv_iconst (v := nI 0) hx hb dL_choice_2 (by decide) ?_
  refine lv_aload_n hx hb dL_choice_3 rfl (lv_at hl 0 rfl) ?_
  refine lv_iload_n hx hb dL_choice_4 rfl (lv_at hl 1 rfl) ?_
  refine lv_iload_n hx hb dL_choice_5 rfl (lv_at hl 2 rfl) ?_
  refine lv_iload_n hx hb dL_choice_6 rfl (lv_at hl 3 rfl) ?_
  refine su_cHi (wr := [(oo, .inl (cL, 1, .inr (.inl f)))]) (vx_runV (As := [.int x, .int y, .int z]) (rest := [.int (nI 0), .ref oo]) ⟨hx, hb, hml, hown, hts⟩ (K_choice l hfl D cI cL cZ H.size ad S ok0 ok1 x y z kk v L0 L1 hr9) (cwV 3 hts (lw_gV q_835 q_836 q_837 q_31 q_838) rfl rfl rfl (by decide +kernel) ⟨Nat.le_trans (Nat.le_of_ble_eq_true rfl) hR1, Nat.le_trans (Nat.le_of_ble_eq_true rfl) hR2⟩) (su_pvx hE hS hA hN hK hP hD [1, 2, 3, 4, 5, 6, 7, 8, 9, 10, 11, 12, 13, 14, 15, 16, 17, 18, 19, 20, 21, 22, 23, 24, 25, 26, 27, 28, 29, 30, 31, 32, 33, 34, 35, 36, 37, 38, 39, 40, 41, 42, 43, 44, 45, 46, 47, 48, 49, 50, 51, 52, 53, 54, 55, 56, 57, 58, 59, 60, 61, 62, 63, 64, 65, 66, 67, 68, 69] [0, 1, 2] rfl rfl rfl (ci := 9) (q0 := 0) rfl rfl rfl) rfl rfl hl.1 rfl (lv_room (Nat.le_of_ble_eq_true rfl)) dL_choice_7 ⟨Nat.le_trans (Nat.le_of_ble_eq_true rfl) hR3, Nat.le_trans (Nat.le_of_ble_eq_true rfl) hR4⟩) hP hD hS hA [1, 2, 3, 4, 5, 6, 7, 8, 9, 10, 11, 12, 13, 14, 15, 16, 17, 18, 19, 20, 21, 22, 23, 24, 25, 26, 27, 28, 29, 30, 31, 32, 33, 34, 35, 36, 37, 38, 39, 40, 41, 42, 43, 44, 45, 46, 47, 48, 49, 50, 51, 52, 53, 54, 55, 56, 57, 58, 59, 60, 61, 62, 63, 64, 65, 66, 67, 68, 69] [0] rfl rfl (by decide) (by decide) (fun E ce q9 u H locs hw hP hD hS hce hcv hcl => ?_) (fun r u H locs hw hP hD hS => ?_)
  · have hP : va_P D vwCl ((oo, .inl (cL, 1, .inr (.inl f))) :: clsW ad cI cL cZ u) H := hP
    have hD : va_D A ((oo, .inl (cL, 1, .inr (.inl f))) :: clsW ad cI cL cZ u) := hD
    rcases su_m3 hw.1 with ⟨rfl, rfl⟩ | ⟨rfl, rfl⟩ | ⟨rfl, rfl⟩
    · refine vx_catch (own := RL) (name := "java/lang/IndexOutOfBoundsException") hown [] ⟨0, 12, 15, 13⟩ [⟨0, 12, 19, 15⟩, ⟨0, 12, 23, 63⟩] (htab.trans rfl) (fun _ h => absurd h List.not_mem_nil) (by decide) (by decide) (hts _ q_446) (va_Nw.use (A := args) rfl (hN _ q_459)) hce hcv hcl ?_
      refine lv_astore (lv' := [(5, .ref q9), (0, .ref (ad 0)), (1, .int x), (2, .int y), (3, .int z), (4, .ref oo)]) hx hb dL_choice_15 hl (by decide) rfl (fun ls hl => ?_)
      refine lv_iconst (v := nI 1) hx hb dL_choice_17 (by decide) ?_
      rw [hQ]
      refine vx_ret ?_
      exact su_ei hx hb hr hlocks hS dL_choice_18 (u, f) (⟨rfl, fun q => absurd q (by decide), hw.2.1, hw.2.2⟩) hP hD
    · refine vx_catch (own := RL) (name := "java/lang/IllegalArgumentException") hown [⟨0, 12, 15, 13⟩] ⟨0, 12, 19, 15⟩ [⟨0, 12, 23, 63⟩] (htab.trans rfl) (List.forall_mem_cons.mpr ⟨Or.inr ⟨by decide, "java/lang/IndexOutOfBoundsException", hts _ q_446, hE.2.2.2 ("java/lang/IllegalArgumentException", "java/lang/IndexOutOfBoundsException") (by decide +kernel)⟩, fun _ h => absurd h List.not_mem_nil⟩) (by decide) (by decide) (hts _ q_447) (va_Nw.use (A := args) rfl (hN _ q_535)) hce hcv hcl ?_
      refine lv_astore (lv' := [(5, .ref q9), (0, .ref (ad 0)), (1, .int x), (2, .int y), (3, .int z), (4, .ref oo)]) hx hb dL_choice_19 hl (by decide) rfl (fun ls hl => ?_)
      refine lv_iconst (v := nI 2) hx hb dL_choice_21 (by decide) ?_
      rw [hQ]
      refine vx_ret ?_
      exact su_ei hx hb hr hlocks hS dL_choice_22 (u, f) (⟨rfl, fun q => absurd q (by decide), hw.2.1, hw.2.2⟩) hP hD
    · refine vx_catch (own := RL) (name := "java/util/NoSuchElementException") hown [⟨0, 12, 15, 13⟩, ⟨0, 12, 19, 15⟩] ⟨0, 12, 23, 63⟩ [] (htab.trans rfl) (List.forall_mem_cons.mpr ⟨Or.inr ⟨by decide, "java/lang/IndexOutOfBoundsException", hts _ q_446, hE.2.2.2 ("java/util/NoSuchElementException", "java/lang/IndexOutOfBoundsException") (by decide +kernel)⟩, List.forall_mem_cons.mpr ⟨Or.inr ⟨by decide, "java/lang/IllegalArgumentException", hts _ q_447, hE.2.2.2 ("java/util/NoSuchElementException", "java/lang/IllegalArgumentException") (by decide +kernel)⟩, fun _ h => absurd h List.not_mem_nil⟩⟩) (by decide) (by decide) (hts _ q_712) (va_Nw.use (A := args) rfl (hN _ q_722)) hce hcv hcl ?_
      refine lv_astore (lv' := [(5, .ref q9), (0, .ref (ad 0)), (1, .int x), (2, .int y), (3, .int z), (4, .ref oo)]) hx hb dL_choice_23 hl (by decide) rfl (fun ls hl => ?_)
      refine lv_iconst (v := nI 3) hx hb dL_choice_25 (by decide) ?_
      rw [hQ]
      refine vx_ret ?_
      exact su_ei hx hb hr hlocks hS dL_choice_26 (u, f) (⟨rfl, fun q => absurd q (by decide), hw.2.1, hw.2.2⟩) hP hD
  · have hP : va_P D vwCl ((oo, .inl (cL, 1, .inr (.inl f))) :: clsW ad cI cL cZ u) H := hP
    have hD : va_D A ((oo, .inl (cL, 1, .inr (.inl f))) :: clsW ad cI cL cZ u) := hD
    refine lv_i2l (v := r.toInt64) hx hb dL_choice_10 rfl ?_
    refine su_last hx hb hK hP hD hS 0 1 rfl rfl (i := 0) (by decide) (by decide) (fun _ => r.toInt64) (fun j hj => by first | rfl | (rw [show j = 0 by omega]; first | rfl | exact if_pos rfl)) dL_choice_11 (fun H locs hP hD hS => ?_)
    refine lv_goto (tgt := 27) hx hb dL_choice_12 (by decide) ?_
    refine lv_iconst (v := nI 0) hx hb dL_choice_27 (by decide) ?_
    rw [hQ]
    refine vx_ret ?_
    exact su_ei hx hb hr hlocks hS dL_choice_28 (u, fun _ => r.toInt64) (⟨by rw [hw.1.1], fun _ => by show _ = _; rw [← hw.1.2], hw.2.1, hw.2.2⟩) hP hD
set_option maxHeartbeats 4000000 in
set_option maxRecDepth 100000 in
theorem L_isParted (l : Launch) (hfl : l.stackTraces = false) (D : va_G) (cI cL cZ : ClassId) (sz : Nat) (ad : Nat → Nat) (S : CS) (oo : Nat) (f : Nat → Int64) (ok0 : okL (su_lst (S.1 0) (S.2.1 0))) (ok1 : okL (su_lst (S.1 1) (S.2.1 1))) (x : Int32) (y : Int32) (kk : Nat) (v : Int32) (L0 L1 : List Nat) (hr9 : su_h1 (fun g n => R_isParted g n y) (S.1 0) (S.2.1 0) (S.1 1) (S.2.1 1) x kk v L0 L1) :
    Met l yL_isParted (wsH yL_isParted cL_isParted 5 (some .int) ([((0 : Nat), (17 : Nat), (20 : Nat), (13 : Nat)), ((0 : Nat), (17 : Nat), (24 : Nat), (15 : Nat))])) suRmW (su_prx D (su_T cI cL cZ) sz ((oo, .inl (cL, 1, .inr (.inl f))) :: clsW ad cI cL cZ S) [.ref (ad 0), .int x, .int y, .ref oo]) (su_qi D (va_A ((oo, .inl (cL, 1, .inr (.inl f))) :: clsW ad cI cL cZ S) sz) (fun (r : Int32) (u : CS × (Nat → Int64)) => r = nI kk ∧ (kk = 0 → u.2 0 = su_z01 v) ∧ su_lst (u.1.1 0) (u.1.2.1 0) = L0 ∧ su_lst (u.1.1 1) (u.1.2.1 1) = L1) (fun (u : CS × (Nat → Int64)) => (oo, .inl (cL, 1, .inr (.inl u.2))) :: clsW ad cI cL cZ u.1)) 1 6 (va_A ((oo, .inl (cL, 1, .inr (.inl f))) :: clsW ad cI cL cZ S) sz) := by
  refine su_metH (y := yL_isParted) (av := [.ref (ad 0), .int x, .int y, .ref oo]) (Qf := fun A => su_qi D A (fun (r : Int32) (u : CS × (Nat → Int64)) => r = nI kk ∧ (kk = 0 → u.2 0 = su_z01 v) ∧ su_lst (u.1.1 0) (u.1.2.1 0) = L0 ∧ su_lst (u.1.1 1) (u.1.2.1 1) = L1) (fun (u : CS × (Nat → Int64)) => (oo, .inl (cL, 1, .inr (.inl u.2))) :: clsW ad cI cL cZ u.1)) (cc := cL_isParted) (maxL := 5) (ret := (some .int)) (hh := ([((0 : Nat), (17 : Nat), (20 : Nat), (13 : Nat)), ((0 : Nat), (17 : Nat), (24 : Nat), (15 : Nat))])) (by decide) (Nat.le_of_ble_eq_true rfl) ?_
  intro p e s m args below meth c R Q A H locs ls hx hb hr hlocks hin hml hown hts hN hE htab hP hK hD hA hS hRm hQ hl
  have hown : s.vm.findClass RL = some m.cls := hown
  have hl : lv_has ls 5 [(0, .ref (ad 0)), (1, .int x), (2, .int y), (3, .ref oo)] := hl
  have hR1 : 9 ≤ R.frames := by rw [hRm]; exact Nat.le_of_ble_eq_true rfl
  have hR2 : 320 ≤ R.locals := by rw [hRm]; exact Nat.le_of_ble_eq_true rfl
  have hR3 : 1 ≤ R.cells := by rw [hRm]; exact Nat.le_of_ble_eq_true rfl
  have hR4 : 6 ≤ R.slots := by rw [hRm]; exact Nat.le_of_ble_eq_true rfl
  refine lv_aload_n hx hb dL_isParted_0 rfl (lv_at hl 3 rfl) ?_
  refine lv_iconst (v := nI 0) hx hb dL_isParted_1 (by decide) ?_
  refine lv_aload_n hx hb dL_isParted_2 rfl (lv_at hl 0 rfl) ?_
  refine lv_iload_n hx hb dL_isParted_3 rfl (lv_at hl 1 rfl) ?_
  refine lv_iload_n hx hb dL_isParted_4 rfl (lv_at hl 2 rfl) ?_
  refine su_cHi (wr := [(oo, .inl (cL, 1, .inr (.inl f)))]) (vx_runV (As := [.int x, .int y]) (rest := [.int (nI 0), .ref oo]) ⟨hx, hb, hml, hown, hts⟩ (K_isParted l hfl D cI cL cZ H.size ad S ok0 ok1 x y kk v L0 L1 hr9) (cwV 2 hts (lw_gV q_914 q_915 q_916 q_31 q_917) rfl rfl rfl (by decide +kernel) ⟨Nat.le_trans (Nat.le_of_ble_eq_true rfl) hR1, Nat.le_trans (Nat.le_of_ble_eq_true rfl) hR2⟩) (su_pvx hE hS hA hN hK hP hD [1, 2, 3, 4, 5, 6, 7, 8, 9, 10, 11, 12, 13, 14, 15, 16, 17, 18, 19, 20, 21, 22, 23, 24, 25, 26, 27, 28, 29, 30, 31, 32, 33, 34, 35, 36, 37, 38, 39, 40, 41, 42, 43, 44, 45, 46, 47, 48, 49, 50, 51, 52, 53, 54, 55, 56, 57, 58, 59, 60, 61, 62, 63, 64, 65, 66, 67, 68, 69] [0, 1, 2] rfl rfl rfl (ci := 9) (q0 := 0) rfl rfl rfl) rfl rfl hl.1 rfl (lv_room (Nat.le_of_ble_eq_true rfl)) dL_isParted_5 ⟨Nat.le_trans (Nat.le_of_ble_eq_true rfl) hR3, Nat.le_trans (Nat.le_of_ble_eq_true rfl) hR4⟩) hP hD hS hA [1, 2, 3, 4, 5, 6, 7, 8, 9, 10, 11, 12, 13, 14, 15, 16, 17, 18, 19, 20, 21, 22, 23, 24, 25, 26, 27, 28, 29, 30, 31, 32, 33, 34, 35, 36, 37, 38, 39, 40, 41, 42, 43, 44, 45, 46, 47, 48, 49, 50, 51, 52, 53, 54, 55, 56, 57, 58, 59, 60, 61, 62, 63, 64, 65, 66, 67, 68, 69] [0] rfl rfl (by decide) (by decide) (fun E ce q9 u H locs hw hP hD hS hce hcv hcl => ?_) (fun r u H locs hw hP hD hS => ?_)
  · have hP : va_P D vwCl ((oo, .inl (cL, 1, .inr (.inl f))) :: clsW ad cI cL cZ u) H := hP
    have hD : va_D A ((oo, .inl (cL, 1, .inr (.inl f))) :: clsW ad cI cL cZ u) := hD
    rcases su_m2 hw.1 with ⟨rfl, rfl⟩ | ⟨rfl, rfl⟩
    · refine vx_catch (own := RL) (name := "java/lang/IndexOutOfBoundsException") hown [] ⟨0, 17, 20, 13⟩ [⟨0, 17, 24, 15⟩] (htab.trans rfl) (fun _ h => absurd h List.not_mem_nil) (by decide) (by decide) (hts _ q_446) (va_Nw.use (A := args) rfl (hN _ q_459)) hce hcv hcl ?_
      refine lv_astore (lv' := [(4, .ref q9), (0, .ref (ad 0)), (1, .int x), (2, .int y), (3, .ref oo)]) hx hb dL_isParted_20 hl (by decide) rfl (fun ls hl => ?_)
      refine lv_iconst (v := nI 1) hx hb dL_isParted_22 (by decide) ?_
      rw [hQ]
      refine vx_ret ?_
      exact su_ei hx hb hr hlocks hS dL_isParted_23 (u, f) (⟨rfl, fun q => absurd q (by decide), hw.2.1, hw.2.2⟩) hP hD
    · refine vx_catch (own := RL) (name := "java/lang/IllegalArgumentException") hown [⟨0, 17, 20, 13⟩] ⟨0, 17, 24, 15⟩ [] (htab.trans rfl) (List.forall_mem_cons.mpr ⟨Or.inr ⟨by decide, "java/lang/IndexOutOfBoundsException", hts _ q_446, hE.2.2.2 ("java/lang/IllegalArgumentException", "java/lang/IndexOutOfBoundsException") (by decide +kernel)⟩, fun _ h => absurd h List.not_mem_nil⟩) (by decide) (by decide) (hts _ q_447) (va_Nw.use (A := args) rfl (hN _ q_535)) hce hcv hcl ?_
      refine lv_astore (lv' := [(4, .ref q9), (0, .ref (ad 0)), (1, .int x), (2, .int y), (3, .ref oo)]) hx hb dL_isParted_24 hl (by decide) rfl (fun ls hl => ?_)
      refine lv_iconst (v := nI 2) hx hb dL_isParted_26 (by decide) ?_
      rw [hQ]
      refine vx_ret ?_
      exact su_ei hx hb hr hlocks hS dL_isParted_27 (u, f) (⟨rfl, fun q => absurd q (by decide), hw.2.1, hw.2.2⟩) hP hD
  · have hP : va_P D vwCl ((oo, .inl (cL, 1, .inr (.inl f))) :: clsW ad cI cL cZ u) H := hP
    have hD : va_D A ((oo, .inl (cL, 1, .inr (.inl f))) :: clsW ad cI cL cZ u) := hD
    refine lv_if_eq (tgt := 15) hx hb dL_isParted_8 (by decide) (fun cz => ?_) (fun cz => ?_)
    · refine lv_lconst (v := 0) hx hb dL_isParted_15 (by decide) ?_
      refine su_last hx hb hK hP hD hS 0 1 rfl rfl (i := 0) (by decide) (by decide) (fun _ => 0) (fun j hj => by first | rfl | (rw [show j = 0 by omega]; first | rfl | exact if_pos rfl)) dL_isParted_16 (fun H locs hP hD hS => ?_)
      refine lv_goto (tgt := 28) hx hb dL_isParted_17 (by decide) ?_
      refine lv_iconst (v := nI 0) hx hb dL_isParted_28 (by decide) ?_
      rw [hQ]
      refine vx_ret ?_
      exact su_ei hx hb hr hlocks hS dL_isParted_29 (u, fun _ => 0) (⟨by rw [hw.1.1], fun _ => by rw [← hw.1.2]; first | exact (if_pos cz).symm | exact (if_neg cz).symm, hw.2.1, hw.2.2⟩) hP hD
    · refine lv_lconst (v := 1) hx hb dL_isParted_11 (by decide) ?_
      refine lv_goto (tgt := 16) hx hb dL_isParted_12 (by decide) ?_
      refine su_last hx hb hK hP hD hS 0 1 rfl rfl (i := 0) (by decide) (by decide) (fun _ => 1) (fun j hj => by first | rfl | (rw [show j = 0 by omega]; first | rfl | exact if_pos rfl)) dL_isParted_16 (fun H locs hP hD hS => ?_)
      refine lv_goto (tgt := 28) hx hb dL_isParted_17 (by decide) ?_
      refine lv_iconst (v := nI 0) hx hb dL_isParted_28 (by decide) ?_
      rw [hQ]
      refine vx_ret ?_
      exact su_ei hx hb hr hlocks hS dL_isParted_29 (u, fun _ => 1) (⟨by rw [hw.1.1], fun _ => by rw [← hw.1.2]; first | exact (if_pos cz).symm | exact (if_neg cz).symm, hw.2.1, hw.2.2⟩) hP hD
set_option maxHeartbeats 4000000 in
set_option maxRecDepth 100000 in
theorem L_compare (l : Launch) (hfl : l.stackTraces = false) (D : va_G) (cI cL cZ : ClassId) (sz : Nat) (ad : Nat → Nat) (S : CS) (oo : Nat) (f : Nat → Int64) (ok0 : okL (su_lst (S.1 0) (S.2.1 0))) (ok1 : okL (su_lst (S.1 1) (S.2.1 1))) (x : Int32) (y : Int32) (z : Int32) (kk : Nat) (v : Int32) (L0 L1 : List Nat) (hr9 : R_compare (S.1 0) (S.2.1 0) (S.1 1) (S.2.1 1) x y z kk v L0 L1) :
    Met l yL_compare (wsH yL_compare cL_compare 6 (some .int) ([((0 : Nat), (12 : Nat), (15 : Nat), (13 : Nat)), ((0 : Nat), (12 : Nat), (19 : Nat), (15 : Nat))])) suRmW (su_prx D (su_T cI cL cZ) sz ((oo, .inl (cL, 1, .inr (.inl f))) :: clsW ad cI cL cZ S) [.ref (ad 0), .int x, .int y, .int z, .ref oo]) (su_qi D (va_A ((oo, .inl (cL, 1, .inr (.inl f))) :: clsW ad cI cL cZ S) sz) (fun (r : Int32) (u : CS × (Nat → Int64)) => r = nI kk ∧ (kk = 0 → u.2 0 = v.toInt64) ∧ su_lst (u.1.1 0) (u.1.2.1 0) = L0 ∧ su_lst (u.1.1 1) (u.1.2.1 1) = L1) (fun (u : CS × (Nat → Int64)) => (oo, .inl (cL, 1, .inr (.inl u.2))) :: clsW ad cI cL cZ u.1)) 1 6 (va_A ((oo, .inl (cL, 1, .inr (.inl f))) :: clsW ad cI cL cZ S) sz) := by
  refine su_metH (y := yL_compare) (av := [.ref (ad 0), .int x, .int y, .int z, .ref oo]) (Qf := fun A => su_qi D A (fun (r : Int32) (u : CS × (Nat → Int64)) => r = nI kk ∧ (kk = 0 → u.2 0 = v.toInt64) ∧ su_lst (u.1.1 0) (u.1.2.1 0) = L0 ∧ su_lst (u.1.1 1) (u.1.2.1 1) = L1) (fun (u : CS × (Nat → Int64)) => (oo, .inl (cL, 1, .inr (.inl u.2))) :: clsW ad cI cL cZ u.1)) (cc := cL_compare) (maxL := 6) (ret := (some .int)) (hh := ([((0 : Nat), (12 : Nat), (15 : Nat), (13 : Nat)), ((0 : Nat), (12 : Nat), (19 : Nat), (15 : Nat))])) (by decide) (Nat.le_of_ble_eq_true rfl) ?_
  intro p e s m args below meth c R Q A H locs ls hx hb hr hlocks hin hml hown hts hN hE htab hP hK hD hA hS hRm hQ hl
  have hown : s.vm.findClass RL = some m.cls := hown
  have hl : lv_has ls 6 [(0, .ref (ad 0)), (1, .int x), (2, .int y), (3, .int z), (4, .ref oo)] := hl
  have hR1 : 9 ≤ R.frames := by rw [hRm]; exact Nat.le_of_ble_eq_true rfl
  have hR2 : 320 ≤ R.locals := by rw [hRm]; exact Nat.le_of_ble_eq_true rfl
  have hR3 : 1 ≤ R.cells := by rw [hRm]; exact Nat.le_of_ble_eq_true rfl
  have hR4 : 6 ≤ R.slots := by rw [hRm]; exact Nat.le_of_ble_eq_true rfl
  refine lv_aload hx hb dL_compare_0 (lv_at hl 4 rfl) ?_
  refine lv_iconst (v := nI 0) hx hb dL_compare_2 (by decide) ?_
  refine lv_aload_n hx hb dL_compare_3 rfl (lv_at hl 0 rfl) ?_
  refine lv_iload_n hx hb dL_compare_4 rfl (lv_at hl 1 rfl) ?_
  refine lv_iload_n hx hb dL_compare_5 rfl (lv_at hl 2 rfl) ?_
  refine lv_iload_n hx hb dL_compare_6 rfl (lv_at hl 3 rfl) ?_
  refine su_cHi (wr := [(oo, .inl (cL, 1, .inr (.inl f)))]) (vx_runV (As := [.int x, .int y, .int z]) (rest := [.int (nI 0), .ref oo]) ⟨hx, hb, hml, hown, hts⟩ (K_compare l hfl D cI cL cZ H.size ad S ok0 ok1 x y z kk v L0 L1 hr9) (cwV 3 hts (lw_gV q_874 q_875 q_876 q_31 q_877) rfl rfl rfl (by decide +kernel) ⟨Nat.le_trans (Nat.le_of_ble_eq_true rfl) hR1, Nat.le_trans (Nat.le_of_ble_eq_true rfl) hR2⟩) (su_pvx hE hS hA hN hK hP hD [1, 2, 3, 4, 5, 6, 7, 8, 9, 10, 11, 12, 13, 14, 15, 16, 17, 18, 19, 20, 21, 22, 23, 24, 25, 26, 27, 28, 29, 30, 31, 32, 33, 34, 35, 36, 37, 38, 39, 40, 41, 42, 43, 44, 45, 46, 47, 48, 49, 50, 51, 52, 53, 54, 55, 56, 57, 58, 59, 60, 61, 62, 63, 64, 65, 66, 67, 68, 69] [0, 1, 2] rfl rfl rfl (ci := 9) (q0 := 0) rfl rfl rfl) rfl rfl hl.1 rfl (lv_room (Nat.le_of_ble_eq_true rfl)) dL_compare_7 ⟨Nat.le_trans (Nat.le_of_ble_eq_true rfl) hR3, Nat.le_trans (Nat.le_of_ble_eq_true rfl) hR4⟩) hP hD hS hA [1, 2, 3, 4, 5, 6, 7, 8, 9, 10, 11, 12, 13, 14, 15, 16, 17, 18, 19, 20, 21, 22, 23, 24, 25, 26, 27, 28, 29, 30, 31, 32, 33, 34, 35, 36, 37, 38, 39, 40, 41, 42, 43, 44, 45, 46, 47, 48, 49, 50, 51, 52, 53, 54, 55, 56, 57, 58, 59, 60, 61, 62, 63, 64, 65, 66, 67, 68, 69] [0] rfl rfl (by decide) (by decide) (fun E ce q9 u H locs hw hP hD hS hce hcv hcl => ?_) (fun r u H locs hw hP hD hS => ?_)
  · have hP : va_P D vwCl ((oo, .inl (cL, 1, .inr (.inl f))) :: clsW ad cI cL cZ u) H := hP
    have hD : va_D A ((oo, .inl (cL, 1, .inr (.inl f))) :: clsW ad cI cL cZ u) := hD
    rcases su_m2 hw.1 with ⟨rfl, rfl⟩ | ⟨rfl, rfl⟩
    · refine vx_catch (own := RL) (name := "java/lang/IndexOutOfBoundsException") hown [] ⟨0, 12, 15, 13⟩ [⟨0, 12, 19, 15⟩] (htab.trans rfl) (fun _ h => absurd h List.not_mem_nil) (by decide) (by decide) (hts _ q_446) (va_Nw.use (A := args) rfl (hN _ q_459)) hce hcv hcl ?_
      refine lv_astore (lv' := [(5, .ref q9), (0, .ref (ad 0)), (1, .int x), (2, .int y), (3, .int z), (4, .ref oo)]) hx hb dL_compare_15 hl (by decide) rfl (fun ls hl => ?_)
      refine lv_iconst (v := nI 1) hx hb dL_compare_17 (by decide) ?_
      rw [hQ]
      refine vx_ret ?_
      exact su_ei hx hb hr hlocks hS dL_compare_18 (u, f) (⟨rfl, fun q => absurd q (by decide), hw.2.1, hw.2.2⟩) hP hD
    · refine vx_catch (own := RL) (name := "java/lang/IllegalArgumentException") hown [⟨0, 12, 15, 13⟩] ⟨0, 12, 19, 15⟩ [] (htab.trans rfl) (List.forall_mem_cons.mpr ⟨Or.inr ⟨by decide, "java/lang/IndexOutOfBoundsException", hts _ q_446, hE.2.2.2 ("java/lang/IllegalArgumentException", "java/lang/IndexOutOfBoundsException") (by decide +kernel)⟩, fun _ h => absurd h List.not_mem_nil⟩) (by decide) (by decide) (hts _ q_447) (va_Nw.use (A := args) rfl (hN _ q_535)) hce hcv hcl ?_
      refine lv_astore (lv' := [(5, .ref q9), (0, .ref (ad 0)), (1, .int x), (2, .int y), (3, .int z), (4, .ref oo)]) hx hb dL_compare_19 hl (by decide) rfl (fun ls hl => ?_)
      refine lv_iconst (v := nI 2) hx hb dL_compare_21 (by decide) ?_
      rw [hQ]
      refine vx_ret ?_
      exact su_ei hx hb hr hlocks hS dL_compare_22 (u, f) (⟨rfl, fun q => absurd q (by decide), hw.2.1, hw.2.2⟩) hP hD
  · have hP : va_P D vwCl ((oo, .inl (cL, 1, .inr (.inl f))) :: clsW ad cI cL cZ u) H := hP
    have hD : va_D A ((oo, .inl (cL, 1, .inr (.inl f))) :: clsW ad cI cL cZ u) := hD
    refine lv_i2l (v := r.toInt64) hx hb dL_compare_10 rfl ?_
    refine su_last hx hb hK hP hD hS 0 1 rfl rfl (i := 0) (by decide) (by decide) (fun _ => r.toInt64) (fun j hj => by first | rfl | (rw [show j = 0 by omega]; first | rfl | exact if_pos rfl)) dL_compare_11 (fun H locs hP hD hS => ?_)
    refine lv_goto (tgt := 23) hx hb dL_compare_12 (by decide) ?_
    refine lv_iconst (v := nI 0) hx hb dL_compare_23 (by decide) ?_
    rw [hQ]
    refine vx_ret ?_
    exact su_ei hx hb hr hlocks hS dL_compare_24 (u, fun _ => r.toInt64) (⟨by rw [hw.1.1], fun _ => by show _ = _; rw [← hw.1.2], hw.2.1, hw.2.2⟩) hP hD
