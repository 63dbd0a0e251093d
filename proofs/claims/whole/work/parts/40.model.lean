set_option maxHeartbeats 4000000 in
set_option maxRecDepth 100000 in
theorem m_in (l : Launch) (D : va_G) (cI cL cZ : ClassId) (sz : Nat) (cA : ClassId) (cB : ClassId) (x : Int32) (y : Int32) (z : Int32) :
    Met l yX11_in (ws_ yX11_in cX11_in 3 (some .boolean)) { frames := 0, cells := 0, slots := 0, locals := 0 } (su_pre D (su_T5 cI cL cZ cA cB) sz [] [.int x, .int y, .int z]) (su_qi D (va_A [] sz) (fun (r : Int32) (uu : Unit) => r = bI (inI x y z)) (fun (uu : Unit) => [])) 0 0 (va_A [] sz) := by
  refine su_met (y := yX11_in) (av := [.int x, .int y, .int z]) (Qf := fun A => su_qi D A (fun (r : Int32) (uu : Unit) => r = bI (inI x y z)) (fun (uu : Unit) => [])) (cc := cX11_in) (maxL := 3) (ret := (some .boolean)) (by decide) (Nat.le_of_ble_eq_true rfl) ?_
  intro p e s m args below meth c R Q A H locs ls hx hb hr hlocks hin hml hown hts hN hP hK hD hA hS hRm hQ hl
  have hown : s.vm.findClass RX11 = some m.cls := hown
  have hl : lv_has ls 3 [(0, .int x), (1, .int y), (2, .int z)] := hl
  have hR3 : 0 ≤ R.cells := by rw [hRm]; exact Nat.le_of_ble_eq_true rfl
  have hR4 : 0 ≤ R.slots := by rw [hRm]; exact Nat.le_of_ble_eq_true rfl
  refine lv_iload_n hx hb dX11_in_0 rfl (lv_at hl 0 rfl) ?_
  refine lv_iload_n hx hb dX11_in_1 rfl (lv_at hl 1 rfl) ?_
  refine lv_icmp_lt (tgt := 14) hx hb dX11_in_2 (by decide) (fun c2 => ?_) (fun c2 => ?_)
  · refine lv_iconst (v := nI 0) hx hb dX11_in_14 (by decide) ?_
    rw [hQ]
    exact su_ez hx hb hr hlocks hS dX11_in_15 (by decide) () (by first | exact inI_1 c2 c7 | exact inI_0a c2 | exact inI_0b c7) hP hD
  · refine lv_iload_n hx hb dX11_in_5 rfl (lv_at hl 0 rfl) ?_
    refine lv_iload_n hx hb dX11_in_6 rfl (lv_at hl 2 rfl) ?_
    refine lv_icmp_gt (tgt := 14) hx hb dX11_in_7 (by decide) (fun c7 => ?_) (fun c7 => ?_)
    · refine lv_iconst (v := nI 0) hx hb dX11_in_14 (by decide) ?_
      rw [hQ]
      exact su_ez hx hb hr hlocks hS dX11_in_15 (by decide) () (by first | exact inI_1 c2 c7 | exact inI_0a c2 | exact inI_0b c7) hP hD
    · refine lv_iconst (v := nI 1) hx hb dX11_in_10 (by decide) ?_
      refine lv_goto (tgt := 15) hx hb dX11_in_11 (by decide) ?_
      rw [hQ]
      exact su_ez hx hb hr hlocks hS dX11_in_15 (by decide) () (by first | exact inI_1 c2 c7 | exact inI_0a c2 | exact inI_0b c7) hP hD
set_option maxHeartbeats 4000000 in
set_option maxRecDepth 100000 in
theorem m_isHoard (l : Launch) (D : va_G) (cI cL cZ : ClassId) (sz : Nat) (cA : ClassId) (cB : ClassId) (x : Int32) :
    Met l yX11_isHoard (ws_ yX11_isHoard cX11_isHoard 1 (some .boolean)) { frames := 1, cells := 0, slots := 0, locals := 28 } (su_pre D (su_T5 cI cL cZ cA cB) sz [] [.int x]) (su_qi D (va_A [] sz) (fun (r : Int32) (uu : Unit) => r = bI (inI x (nI 0) (nI 1))) (fun (uu : Unit) => [])) 0 0 (va_A [] sz) := by
  refine su_met (y := yX11_isHoard) (av := [.int x]) (Qf := fun A => su_qi D A (fun (r : Int32) (uu : Unit) => r = bI (inI x (nI 0) (nI 1))) (fun (uu : Unit) => [])) (cc := cX11_isHoard) (maxL := 1) (ret := (some .boolean)) (by decide) (Nat.le_of_ble_eq_true rfl) ?_
  intro p e s m args below meth c R Q A H locs ls hx hb hr hlocks hin hml hown hts hN hP hK hD hA hS hRm hQ hl
  have hown : s.vm.findClass RX11 = some m.cls := hown
  have hl : lv_has ls 1 [(0, .int x)] := hl
  have hR1 : 1 ≤ R.frames := by rw [hRm]; exact Nat.le_of_ble_eq_true rfl
  have hR2 : 28 ≤ R.locals := by rw [hRm]; exact Nat.le_of_ble_eq_true rfl
  have hR3 : 0 ≤ R.cells := by rw [hRm]; exact Nat.le_of_ble_eq_true rfl
  have hR4 : 0 ≤ R.slots := by rw [hRm]; exact Nat.le_of_ble_eq_true rfl
  refine lv_iload_n hx hb dX11_isHoard_0 rfl (lv_at hl 0 rfl) ?_
  refine lv_iconst (v := nI 0) hx hb dX11_isHoard_1 (by decide) ?_
  refine lv_iconst (v := nI 1) hx hb dX11_isHoard_2 (by decide) ?_
  refine su_ci (wr := []) (va_runS (As := [.int x, .int (nI 0), .int (nI 1)]) (rest := []) ⟨hx, hb, hml, hown, hts⟩ (m_in l D cI cL cZ H.size (cA) (cB) (x) (nI 0) (nI 1) ) (va_cwS 3 hts (lw_gS q_1033 q_1034 q_42 q_1035) rfl rfl rfl (by decide +kernel) ⟨Nat.le_trans (Nat.le_of_ble_eq_true rfl) hR1, Nat.le_trans (Nat.le_of_ble_eq_true rfl) hR2⟩) (su_ps hN hK hP hD [] [0, 1, 2, 3, 4] rfl rfl rfl) rfl rfl hl.1 rfl (lv_room (Nat.le_of_ble_eq_true rfl)) dX11_isHoard_3 ⟨Nat.le_trans (Nat.le_of_ble_eq_true rfl) hR3, Nat.le_trans (Nat.le_of_ble_eq_true rfl) hR4⟩) hP hD hS hA [] [] rfl rfl (by decide) (by decide) (fun r uu H locs hw hP hD hS => ?_)
  obtain rfl : r = bI (inI x (nI 0) (nI 1)) := hw
  have hP : va_P D vwCl [] H := hP
  have hD : va_D A [] := hD
  rw [hQ]
  exact su_ez hx hb hr hlocks hS dX11_isHoard_6 (bI_01 _) () (rfl) hP hD
set_option maxHeartbeats 4000000 in
set_option maxRecDepth 100000 in
theorem m_noT (l : Launch) (D : va_G) (cI cL cZ : ClassId) (sz : Nat) (cA : ClassId) (cB : ClassId) (mm : Nat) (nu : Nat) (zz : Nat) (on : Nat) (sm : Nat) (fw : Nat) (tw : Int32) (wh : Nat) :
    Met l yX11_no (ws_ yX11_no cX11_no 3 (some .boolean)) { frames := 0, cells := 0, slots := 0, locals := 0 } (su_pre D (su_T5 cI cL cZ cA cB) sz [(mm, .inr (10, [.ref nu, .ref zz, .ref on, .ref sm, .ref fw, .int tw]))] [.ref mm, .int (bI true), .int (nI wh)]) (su_qi D (va_A [(mm, .inr (10, [.ref nu, .ref zz, .ref on, .ref sm, .ref fw, .int tw]))] sz) (fun (r : Int32) (uu : Unit) => r = bI false) (fun (uu : Unit) => [(mm, .inr (10, [.ref nu, .ref zz, .ref on, .ref sm, .ref fw, .int (nI 0)]))])) 0 0 (va_A [(mm, .inr (10, [.ref nu, .ref zz, .ref on, .ref sm, .ref fw, .int tw]))] sz) := by
  refine su_met (y := yX11_no) (av := [.ref mm, .int (bI true), .int (nI wh)]) (Qf := fun A => su_qi D A (fun (r : Int32) (uu : Unit) => r = bI false) (fun (uu : Unit) => [(mm, .inr (10, [.ref nu, .ref zz, .ref on, .ref sm, .ref fw, .int (nI 0)]))])) (cc := cX11_no) (maxL := 3) (ret := (some .boolean)) (by decide) (Nat.le_of_ble_eq_true rfl) ?_
  intro p e s m args below meth c R Q A H locs ls hx hb hr hlocks hin hml hown hts hN hP hK hD hA hS hRm hQ hl
  have hown : s.vm.findClass RX11 = some m.cls := hown
  have hl : lv_has ls 3 [(0, .ref mm), (1, .int (bI true)), (2, .int (nI wh))] := hl
  have hR3 : 0 ≤ R.cells := by rw [hRm]; exact Nat.le_of_ble_eq_true rfl
  have hR4 : 0 ≤ R.slots := by rw [hRm]; exact Nat.le_of_ble_eq_true rfl
  have k_1004 := hts _ q_1004
  refine lv_aload_n hx hb dX11_no_0 rfl (lv_at hl 0 rfl) ?_
  refine lv_iload_n hx hb dX11_no_1 rfl (lv_at hl 1 rfl) ?_
  refine lv_if_eq (tgt := 9) hx hb dX11_no_2 (by decide) (fun c2 => ?_) (fun c2 => ?_)
  · have c2 : true = false := bI_e c2
    exact absurd c2 (by decide)
  · have c2 : true = true := bI_n c2
    refine lv_iconst (v := nI 0) hx hb dX11_no_5 (by decide) ?_
    refine lv_goto (tgt := 10) hx hb dX11_no_6 (by decide) ?_
    refine va_put (D := D) (ci := 10) (v := .int (nI 0)) (ty := .int) (C := RX11) (T := TX11) (N := 6) hx hb hts in_X11 tyX11 tyX11_ok nmX11 hown hK hP hD hS 0 rfl rfl 5 (by decide) k_1004 (fun _ h9 => h9) rfl (by decide +kernel) rfl rfl (Nat.le_of_ble_eq_true rfl) dX11_no_10 (fun H locs hP hD hS => ?_)
    have hP : va_P D vwCl [(mm, .inr (10, [.ref nu, .ref zz, .ref on, .ref sm, .ref fw, .int (nI 0)]))] H := hP
    have hD : va_D A [(mm, .inr (10, [.ref nu, .ref zz, .ref on, .ref sm, .ref fw, .int (nI 0)]))] := hD
    refine lv_iload_n hx hb dX11_no_13 rfl (lv_at hl 1 rfl) ?_
    refine lv_if_ne (tgt := 21) hx hb dX11_no_14 (by decide) (fun c14 => ?_) (fun c14 => ?_)
    · have c14 : true = true := bI_n c14
      refine lv_iconst (v := nI 0) hx hb dX11_no_21 (by decide) ?_
      rw [hQ]
      exact su_ez hx hb hr hlocks hS dX11_no_22 (by decide) () (by decide) hP hD
    · have c14 : true = false := bI_e c14
      exact absurd c14 (by decide)
set_option maxHeartbeats 4000000 in
set_option maxRecDepth 100000 in
theorem m_noF (l : Launch) (D : va_G) (cI cL cZ : ClassId) (sz : Nat) (cA : ClassId) (cB : ClassId) (mm : Nat) (nu : Nat) (zz : Nat) (on : Nat) (sm : Nat) (fw : Nat) (tw : Int32) (wh : Nat) :
    Met l yX11_no (ws_ yX11_no cX11_no 3 (some .boolean)) { frames := 0, cells := 0, slots := 0, locals := 0 } (su_pre D (su_T5 cI cL cZ cA cB) sz [(mm, .inr (10, [.ref nu, .ref zz, .ref on, .ref sm, .ref fw, .int tw]))] [.ref mm, .int (bI false), .int (nI wh)]) (su_qi D (va_A [(mm, .inr (10, [.ref nu, .ref zz, .ref on, .ref sm, .ref fw, .int tw]))] sz) (fun (r : Int32) (uu : Unit) => r = bI true) (fun (uu : Unit) => [(mm, .inr (10, [.ref nu, .ref zz, .ref on, .ref sm, .ref fw, .int (nI wh)]))])) 0 0 (va_A [(mm, .inr (10, [.ref nu, .ref zz, .ref on, .ref sm, .ref fw, .int tw]))] sz) := by
  refine su_met (y := yX11_no) (av := [.ref mm, .int (bI false), .int (nI wh)]) (Qf := fun A => su_qi D A (fun (r : Int32) (uu : Unit) => r = bI true) (fun (uu : Unit) => [(mm, .inr (10, [.ref nu, .ref zz, .ref on, .ref sm, .ref fw, .int (nI wh)]))])) (cc := cX11_no) (maxL := 3) (ret := (some .boolean)) (by decide) (Nat.le_of_ble_eq_true rfl) ?_
  intro p e s m args below meth c R Q A H locs ls hx hb hr hlocks hin hml hown hts hN hP hK hD hA hS hRm hQ hl
  have hown : s.vm.findClass RX11 = some m.cls := hown
  have hl : lv_has ls 3 [(0, .ref mm), (1, .int (bI false)), (2, .int (nI wh))] := hl
  have hR3 : 0 ≤ R.cells := by rw [hRm]; exact Nat.le_of_ble_eq_true rfl
  have hR4 : 0 ≤ R.slots := by rw [hRm]; exact Nat.le_of_ble_eq_true rfl
  have k_1004 := hts _ q_1004
  refine lv_aload_n hx hb dX11_no_0 rfl (lv_at hl 0 rfl) ?_
  refine lv_iload_n hx hb dX11_no_1 rfl (lv_at hl 1 rfl) ?_
  refine lv_if_eq (tgt := 9) hx hb dX11_no_2 (by decide) (fun c2 => ?_) (fun c2 => ?_)
  · have c2 : false = false := bI_e c2
    refine lv_iload_n hx hb dX11_no_9 rfl (lv_at hl 2 rfl) ?_
    refine va_put (D := D) (ci := 10) (v := .int (nI wh)) (ty := .int) (C := RX11) (T := TX11) (N := 6) hx hb hts in_X11 tyX11 tyX11_ok nmX11 hown hK hP hD hS 0 rfl rfl 5 (by decide) k_1004 (fun _ h9 => h9) rfl (by decide +kernel) rfl rfl (Nat.le_of_ble_eq_true rfl) dX11_no_10 (fun H locs hP hD hS => ?_)
    have hP : va_P D vwCl [(mm, .inr (10, [.ref nu, .ref zz, .ref on, .ref sm, .ref fw, .int (nI wh)]))] H := hP
    have hD : va_D A [(mm, .inr (10, [.ref nu, .ref zz, .ref on, .ref sm, .ref fw, .int (nI wh)]))] := hD
    refine lv_iload_n hx hb dX11_no_13 rfl (lv_at hl 1 rfl) ?_
    refine lv_if_ne (tgt := 21) hx hb dX11_no_14 (by decide) (fun c14 => ?_) (fun c14 => ?_)
    · have c14 : false = true := bI_n c14
      exact absurd c14 (by decide)
    · have c14 : false = false := bI_e c14
      refine lv_iconst (v := nI 1) hx hb dX11_no_17 (by decide) ?_
      refine lv_goto (tgt := 22) hx hb dX11_no_18 (by decide) ?_
      rw [hQ]
      exact su_ez hx hb hr hlocks hS dX11_no_22 (by decide) () (by decide) hP hD
  · have c2 : false = true := bI_n c2
    exact absurd c2 (by decide)
set_option maxHeartbeats 4000000 in
set_option maxRecDepth 100000 in
theorem m_above (l : Launch) (D : va_G) (cI cL cZ : ClassId) (sz : Nat) (cA : ClassId) (cB : ClassId) (a : Nat) (f : Nat → Nat) (hf : ∀ s, f s < 2 ^ 63) :
    Met l yX11_above (ws_ yX11_above cX11_above 7 (some .int)) { frames := 0, cells := 0, slots := 0, locals := 0 } (su_pre D (su_T5 cI cL cZ cA cB) sz [(a, .inl (cL, 301, .inr (.inl (fL f))))] [.ref a]) (su_qi D (va_A [(a, .inl (cL, 301, .inr (.inl (fL f))))] sz) (fun (r : Int32) (uu : Unit) => r = nI (su_ct (fun s => decide (0 < f s)) 301)) (fun (uu : Unit) => [(a, .inl (cL, 301, .inr (.inl (fL f))))])) 0 0 (va_A [(a, .inl (cL, 301, .inr (.inl (fL f))))] sz) := by
  refine su_met (y := yX11_above) (av := [.ref a]) (Qf := fun A => su_qi D A (fun (r : Int32) (uu : Unit) => r = nI (su_ct (fun s => decide (0 < f s)) 301)) (fun (uu : Unit) => [(a, .inl (cL, 301, .inr (.inl (fL f))))])) (cc := cX11_above) (maxL := 7) (ret := (some .int)) (by decide) (Nat.le_of_ble_eq_true rfl) ?_
  intro p e s m args below meth c R Q A H locs ls hx hb hr hlocks hin hml hown hts hN hP hK hD hA hS hRm hQ hl
  have hown : s.vm.findClass RX11 = some m.cls := hown
  have hl : lv_has ls 7 [(0, .ref a)] := hl
  have hR3 : 0 ≤ R.cells := by rw [hRm]; exact Nat.le_of_ble_eq_true rfl
  have hR4 : 0 ≤ R.slots := by rw [hRm]; exact Nat.le_of_ble_eq_true rfl
  refine lv_iconst (v := nI 0) hx hb dX11_above_0 (by decide) ?_
  refine lv_istore_n (lv' := [(1, .int (nI 0)), (0, .ref a)]) hx hb dX11_above_1 rfl hl (by decide) rfl (fun ls hl => ?_)
  refine lv_aload_n hx hb dX11_above_2 rfl (lv_at hl 1 rfl) ?_
  refine lv_astore_n (lv' := [(2, .ref a), (1, .int (nI 0)), (0, .ref a)]) hx hb dX11_above_3 rfl hl (by decide) rfl (fun ls hl => ?_)
  refine lv_aload_n hx hb dX11_above_4 rfl (lv_at hl 0 rfl) ?_
  refine va_alen hx hb hK hP 0 1 rfl rfl (v := nI 301) rfl dX11_above_5 ?_
  refine lv_istore_n (lv' := [(3, .int (nI 301)), (2, .ref a), (1, .int (nI 0)), (0, .ref a)]) hx hb dX11_above_6 rfl hl (by decide) rfl (fun ls hl => ?_)
  refine lv_iconst (v := nI 0) hx hb dX11_above_7 (by decide) ?_
  refine lv_istore (lv' := [(4, .int (nI 0)), (3, .int (nI 301)), (2, .ref a), (1, .int (nI 0)), (0, .ref a)]) hx hb dX11_above_8 hl (by decide) rfl (fun ls hl => ?_)
  have loop10 : ∀ (k10 : Nat) (i : Nat), (i ≤ 301) → 301 - i < k10 → ∀ (H : Heap) (locs : List Loc), va_P D vwCl [(a, .inl (cL, 301, .inr (.inl (fL f))))] H → va_D A [(a, .inl (cL, 301, .inr (.inl (fL f))))] → va_S A s.heap H locs → ∀ ls : Array Slot, lv_has ls 7 [(4, .int (nI i)), (3, .int (nI 301)), (2, .ref a), (1, .int (nI (su_ct (fun s => decide (0 < f s)) i))), (0, .ref a)] → W p l e R s m args below meth c H locs 0 0 Q (F0 m 10 ls []) := by
    intro k10
    induction k10 with
    | zero => intro i hi hk; exact absurd hk (Nat.not_lt_zero _)
    | succ k10 ih10 =>
      intro i hi hk10 H locs hP hD hS ls hl
      refine lv_iload hx hb dX11_above_10 (lv_at hl 0 rfl) ?_
      refine lv_iload_n hx hb dX11_above_12 rfl (lv_at hl 1 rfl) ?_
      refine lv_icmp_ge (tgt := 43) hx hb dX11_above_13 (by decide) (fun c13 => ?_) (fun c13 => ?_)
      · have c13 : 301 ≤ i := su_ge (by omega) (by omega) c13
        refine lv_iload_n hx hb dX11_above_43 rfl (lv_at hl 3 rfl) ?_
        rw [hQ]
        exact su_ei hx hb hr hlocks hS dX11_above_44 () (by rw [show i = 301 by omega]) hP hD
      · have c13 : i < 301 := su_nge (by omega) (by omega) c13
        refine lv_aload_n hx hb dX11_above_16 rfl (lv_at hl 2 rfl) ?_
        refine lv_iload hx hb dX11_above_17 (lv_at hl 0 rfl) ?_
        refine su_lald hx hb hK hP 0 1 rfl rfl (i := i) (by omega) (by decide) (lN (f i)) (rfl) dX11_above_19 ?_
        refine lv_lstore (lv' := [(5, .long (lN (f i))), (4, .int (nI i)), (3, .int (nI 301)), (2, .ref a), (1, .int (nI (su_ct (fun s => decide (0 < f s)) i))), (0, .ref a)]) hx hb dX11_above_20 hl (by decide) rfl (fun ls hl => ?_)
        refine lv_iload_n hx hb dX11_above_22 rfl (lv_at hl 4 rfl) ?_
        refine lv_lload hx hb dX11_above_23 (lv_at hl 0 rfl) ?_
        refine lv_lconst (v := lN 0) hx hb dX11_above_25 (by decide) ?_
        refine W.lcmp hx hb dX11_above_26 ?_
        refine su_eqi (bI (decide (0 < f i))) (su_lcp (hf i)) ?_
        refine lv_if_le (tgt := 34) hx hb dX11_above_27 (by decide) (fun c27 => ?_) (fun c27 => ?_)
        · have c27 := bI_le0 c27
          refine lv_iconst (v := nI 0) hx hb dX11_above_34 (by decide) ?_
          refine lv_iadd hx hb dX11_above_35 ?_
          refine su_eqi (nI (su_ct (fun s => decide (0 < f s)) i)) (nI_add _ _) ?_
          refine lv_istore_n (lv' := [(1, .int (nI (su_ct (fun s => decide (0 < f s)) i))), (5, .long (lN (f i))), (4, .int (nI i)), (3, .int (nI 301)), (2, .ref a), (0, .ref a)]) hx hb dX11_above_36 rfl hl (by decide) rfl (fun ls hl => ?_)
          refine lv_iinc (v := nI (i + 1)) (lv' := [(4, .int (nI (i + 1))), (1, .int (nI (su_ct (fun s => decide (0 < f s)) i))), (5, .long (lN (f i))), (3, .int (nI 301)), (2, .ref a), (0, .ref a)]) hx hb dX11_above_37 hl (k := 2) rfl (su_inc _) (by decide) rfl (fun ls hl => ?_)
          refine lv_goto (tgt := 10) hx hb dX11_above_40 (by decide) ?_
          have hl : lv_has ls 7 [(4, .int (nI (i + 1))), (1, .int (nI (su_ct (fun s => decide (0 < f s)) (i + 1)))), (5, .long (lN (f i))), (3, .int (nI 301)), (2, .ref a), (0, .ref a)] := by rw [show (nI (su_ct (fun s => decide (0 < f s)) (i + 1))) = (nI (su_ct (fun s => decide (0 < f s)) i)) from (by first | rw [← su_ct_1 c27] | rw [← su_ct_0 c27])]; exact hl
          exact ih10 (i + 1) (by omega) (by omega) _ _ hP hD hS _ (lv_sub hl [0, 3, 4, 1, 5] rfl)
        · have c27 := bI_nle0 c27
          refine lv_iconst (v := nI 1) hx hb dX11_above_30 (by decide) ?_
          refine lv_goto (tgt := 35) hx hb dX11_above_31 (by decide) ?_
          refine lv_iadd hx hb dX11_above_35 ?_
          refine su_eqi (nI ((su_ct (fun s => decide (0 < f s)) i) + 1)) (nI_add _ _) ?_
          refine lv_istore_n (lv' := [(1, .int (nI ((su_ct (fun s => decide (0 < f s)) i) + 1))), (5, .long (lN (f i))), (4, .int (nI i)), (3, .int (nI 301)), (2, .ref a), (0, .ref a)]) hx hb dX11_above_36 rfl hl (by decide) rfl (fun ls hl => ?_)
          refine lv_iinc (v := nI (i + 1)) (lv' := [(4, .int (nI (i + 1))), (1, .int (nI ((su_ct (fun s => decide (0 < f s)) i) + 1))), (5, .long (lN (f i))), (3, .int (nI 301)), (2, .ref a), (0, .ref a)]) hx hb dX11_above_37 hl (k := 2) rfl (su_inc _) (by decide) rfl (fun ls hl => ?_)
          refine lv_goto (tgt := 10) hx hb dX11_above_40 (by decide) ?_
          have hl : lv_has ls 7 [(4, .int (nI (i + 1))), (1, .int (nI (su_ct (fun s => decide (0 < f s)) (i + 1)))), (5, .long (lN (f i))), (3, .int (nI 301)), (2, .ref a), (0, .ref a)] := by rw [show (nI (su_ct (fun s => decide (0 < f s)) (i + 1))) = (nI ((su_ct (fun s => decide (0 < f s)) i) + 1)) from (by first | rw [← su_ct_1 c27] | rw [← su_ct_0 c27])]; exact hl
          exact ih10 (i + 1) (by omega) (by omega) _ _ hP hD hS _ (lv_sub hl [0, 3, 4, 1, 5] rfl)
  exact loop10 ((301 - (0)) + 1) (0) (by omega) (by omega) _ _ hP hD hS _ (lv_sub hl [0, 1, 2, 3, 4] rfl)
set_option maxHeartbeats 4000000 in
set_option maxRecDepth 100000 in
theorem m_sumOfAll0 (l : Launch) (D : va_G) (cI cL cZ : ClassId) (sz : Nat) (cA : ClassId) (cB : ClassId) (mm : Nat) (nu : Nat) (na : Nat) (nc : Nat) (zz : Nat) (on : Nat) (oa : Nat) (oc : Nat) (sm : Nat) (fw : Nat) (g : Nat → Nat) (n : Nat) (gb : Nat → Nat) (nb : Nat) (tw : Int32) (u0 : Nat → Int64) (u1 : Nat → Int64) (us : Nat → Int64) (uf : Nat → Int32) (hn : n ≤ 20) (hnb : nb ≤ 20) :
    Met l yX11_sumOfAll (ws_ yX11_sumOfAll cX11_sumOfAll 4 (some .int)) { frames := 0, cells := 0, slots := 0, locals := 0 } (su_pre D (su_T5 cI cL cZ cA cB) sz [(mm, .inr (10, [.ref nu, .ref zz, .ref on, .ref sm, .ref fw, .int tw])), (nu, .inl (cA, 2, .inr (.inr (.inr (.inr (rf2 na nc)))))), (na, .inl (cI, 20, .inl (fN g))), (nc, .inl (cI, 20, .inl (fN gb))), (zz, .inl (cI, 2, .inl (fN (sz2 n nb)))), (on, .inl (cB, 2, .inr (.inr (.inr (.inr (rf2 oa oc)))))), (oa, .inl (cL, 301, .inr (.inl u0))), (oc, .inl (cL, 301, .inr (.inl u1))), (sm, .inl (cL, 301, .inr (.inl us))), (fw, .inl (cI, 301, .inl uf))] [.ref mm, .int (nI 0)]) (su_qi D (va_A [(mm, .inr (10, [.ref nu, .ref zz, .ref on, .ref sm, .ref fw, .int tw])), (nu, .inl (cA, 2, .inr (.inr (.inr (.inr (rf2 na nc)))))), (na, .inl (cI, 20, .inl (fN g))), (nc, .inl (cI, 20, .inl (fN gb))), (zz, .inl (cI, 2, .inl (fN (sz2 n nb)))), (on, .inl (cB, 2, .inr (.inr (.inr (.inr (rf2 oa oc)))))), (oa, .inl (cL, 301, .inr (.inl u0))), (oc, .inl (cL, 301, .inr (.inl u1))), (sm, .inl (cL, 301, .inr (.inl us))), (fw, .inl (cI, 301, .inl uf))] sz) (fun (r : Int32) (uu : Unit) => r = nI (su_sm g n)) (fun (uu : Unit) => [(mm, .inr (10, [.ref nu, .ref zz, .ref on, .ref sm, .ref fw, .int tw])), (nu, .inl (cA, 2, .inr (.inr (.inr (.inr (rf2 na nc)))))), (na, .inl (cI, 20, .inl (fN g))), (nc, .inl (cI, 20, .inl (fN gb))), (zz, .inl (cI, 2, .inl (fN (sz2 n nb)))), (on, .inl (cB, 2, .inr (.inr (.inr (.inr (rf2 oa oc)))))), (oa, .inl (cL, 301, .inr (.inl u0))), (oc, .inl (cL, 301, .inr (.inl u1))), (sm, .inl (cL, 301, .inr (.inl us))), (fw, .inl (cI, 301, .inl uf))])) 0 0 (va_A [(mm, .inr (10, [.ref nu, .ref zz, .ref on, .ref sm, .ref fw, .int tw])), (nu, .inl (cA, 2, .inr (.inr (.inr (.inr (rf2 na nc)))))), (na, .inl (cI, 20, .inl (fN g))), (nc, .inl (cI, 20, .inl (fN gb))), (zz, .inl (cI, 2, .inl (fN (sz2 n nb)))), (on, .inl (cB, 2, .inr (.inr (.inr (.inr (rf2 oa oc)))))), (oa, .inl (cL, 301, .inr (.inl u0))), (oc, .inl (cL, 301, .inr (.inl u1))), (sm, .inl (cL, 301, .inr (.inl us))), (fw, .inl (cI, 301, .inl uf))] sz) := by
  refine su_met (y := yX11_sumOfAll) (av := [.ref mm, .int (nI 0)]) (Qf := fun A => su_qi D A (fun (r : Int32) (uu : Unit) => r = nI (su_sm g n)) (fun (uu : Unit) => [(mm, .inr (10, [.ref nu, .ref zz, .ref on, .ref sm, .ref fw, .int tw])), (nu, .inl (cA, 2, .inr (.inr (.inr (.inr (rf2 na nc)))))), (na, .inl (cI, 20, .inl (fN g))), (nc, .inl (cI, 20, .inl (fN gb))), (zz, .inl (cI, 2, .inl (fN (sz2 n nb)))), (on, .inl (cB, 2, .inr (.inr (.inr (.inr (rf2 oa oc)))))), (oa, .inl (cL, 301, .inr (.inl u0))), (oc, .inl (cL, 301, .inr (.inl u1))), (sm, .inl (cL, 301, .inr (.inl us))), (fw, .inl (cI, 301, .inl uf))])) (cc := cX11_sumOfAll) (maxL := 4) (ret := (some .int)) (by decide) (Nat.le_of_ble_eq_true rfl) ?_
  intro p e s m args below meth c R Q A H locs ls hx hb hr hlocks hin hml hown hts hN hP hK hD hA hS hRm hQ hl
  have hown : s.vm.findClass RX11 = some m.cls := hown
  have hl : lv_has ls 4 [(0, .ref mm), (1, .int (nI 0))] := hl
  have hR3 : 0 ≤ R.cells := by rw [hRm]; exact Nat.le_of_ble_eq_true rfl
  have hR4 : 0 ≤ R.slots := by rw [hRm]; exact Nat.le_of_ble_eq_true rfl
  have k_1000 := hts _ q_1000
  have k_999 := hts _ q_999
  refine lv_iconst (v := nI 0) hx hb dX11_sumOfAll_0 (by decide) ?_
  refine lv_istore_n (lv' := [(2, .int (nI 0)), (0, .ref mm), (1, .int (nI 0))]) hx hb dX11_sumOfAll_1 rfl hl (by decide) rfl (fun ls hl => ?_)
  refine lv_iconst (v := nI 0) hx hb dX11_sumOfAll_2 (by decide) ?_
  refine lv_istore_n (lv' := [(3, .int (nI 0)), (2, .int (nI 0)), (0, .ref mm), (1, .int (nI 0))]) hx hb dX11_sumOfAll_3 rfl hl (by decide) rfl (fun ls hl => ?_)
  have loop4 : ∀ (k4 : Nat) (i : Nat), (i ≤ n) → n - i < k4 → ∀ (H : Heap) (locs : List Loc), va_P D vwCl [(mm, .inr (10, [.ref nu, .ref zz, .ref on, .ref sm, .ref fw, .int tw])), (nu, .inl (cA, 2, .inr (.inr (.inr (.inr (rf2 na nc)))))), (na, .inl (cI, 20, .inl (fN g))), (nc, .inl (cI, 20, .inl (fN gb))), (zz, .inl (cI, 2, .inl (fN (sz2 n nb)))), (on, .inl (cB, 2, .inr (.inr (.inr (.inr (rf2 oa oc)))))), (oa, .inl (cL, 301, .inr (.inl u0))), (oc, .inl (cL, 301, .inr (.inl u1))), (sm, .inl (cL, 301, .inr (.inl us))), (fw, .inl (cI, 301, .inl uf))] H → va_D A [(mm, .inr (10, [.ref nu, .ref zz, .ref on, .ref sm, .ref fw, .int tw])), (nu, .inl (cA, 2, .inr (.inr (.inr (.inr (rf2 na nc)))))), (na, .inl (cI, 20, .inl (fN g))), (nc, .inl (cI, 20, .inl (fN gb))), (zz, .inl (cI, 2, .inl (fN (sz2 n nb)))), (on, .inl (cB, 2, .inr (.inr (.inr (.inr (rf2 oa oc)))))), (oa, .inl (cL, 301, .inr (.inl u0))), (oc, .inl (cL, 301, .inr (.inl u1))), (sm, .inl (cL, 301, .inr (.inl us))), (fw, .inl (cI, 301, .inl uf))] → va_S A s.heap H locs → ∀ ls : Array Slot, lv_has ls 4 [(3, .int (nI i)), (2, .int (nI (su_sm g i))), (0, .ref mm), (1, .int (nI 0))] → W p l e R s m args below meth c H locs 0 0 Q (F0 m 4 ls []) := by
    intro k4
    induction k4 with
    | zero => intro i hi hk; exact absurd hk (Nat.not_lt_zero _)
    | succ k4 ih4 =>
      intro i hi hk4 H locs hP hD hS ls hl
      refine lv_iload_n hx hb dX11_sumOfAll_4 rfl (lv_at hl 0 rfl) ?_
      refine lv_aload_n hx hb dX11_sumOfAll_5 rfl (lv_at hl 2 rfl) ?_
      refine va_get (D := D) (ci := 10) (v := .ref zz) (C := RX11) (T := TX11) (N := 6) hx hb hts in_X11 hown hK hP 0 rfl rfl 1 (by decide) k_1000 (fun _ h9 => h9) rfl dX11_sumOfAll_6 ?_
      refine lv_iload_n hx hb dX11_sumOfAll_9 rfl (lv_at hl 3 rfl) ?_
      refine su_iald hx hb hK hP 4 0 rfl rfl (i := 0) (by decide) (by decide) (nI n) (rfl) dX11_sumOfAll_10 ?_
      refine lv_icmp_ge (tgt := 31) hx hb dX11_sumOfAll_11 (by decide) (fun c11 => ?_) (fun c11 => ?_)
      · have c11 : n ≤ i := su_ge (by omega) (by omega) c11
        refine lv_iload_n hx hb dX11_sumOfAll_31 rfl (lv_at hl 1 rfl) ?_
        rw [hQ]
        exact su_ei hx hb hr hlocks hS dX11_sumOfAll_32 () (by rw [show i = n by omega]) hP hD
      · have c11 : i < n := su_nge (by omega) (by omega) c11
        refine lv_iload_n hx hb dX11_sumOfAll_14 rfl (lv_at hl 1 rfl) ?_
        refine lv_aload_n hx hb dX11_sumOfAll_15 rfl (lv_at hl 2 rfl) ?_
        refine va_get (D := D) (ci := 10) (v := .ref nu) (C := RX11) (T := TX11) (N := 6) hx hb hts in_X11 hown hK hP 0 rfl rfl 0 (by decide) k_999 (fun _ h9 => h9) rfl dX11_sumOfAll_16 ?_
        refine lv_iload_n hx hb dX11_sumOfAll_19 rfl (lv_at hl 3 rfl) ?_
        refine su_aald hx hb hK hP 1 3 rfl rfl (i := 0) (by decide) (by decide) (na) rfl dX11_sumOfAll_20 ?_
        refine lv_iload_n hx hb dX11_sumOfAll_21 rfl (lv_at hl 0 rfl) ?_
        refine su_iald hx hb hK hP 2 0 rfl rfl (i := i) (by omega) (by decide) (nI (g i)) (rfl) dX11_sumOfAll_22 ?_
        refine lv_iadd hx hb dX11_sumOfAll_23 ?_
        refine su_eqi (nI (su_sm g i + (g i))) (nI_add _ _) ?_
        refine lv_istore_n (lv' := [(2, .int (nI (su_sm g i + (g i)))), (3, .int (nI i)), (0, .ref mm), (1, .int (nI 0))]) hx hb dX11_sumOfAll_24 rfl hl (by decide) rfl (fun ls hl => ?_)
        refine lv_iinc (v := nI (i + 1)) (lv' := [(3, .int (nI (i + 1))), (2, .int (nI (su_sm g i + (g i)))), (0, .ref mm), (1, .int (nI 0))]) hx hb dX11_sumOfAll_25 hl (k := 1) rfl (su_inc _) (by decide) rfl (fun ls hl => ?_)
        refine lv_goto (tgt := 4) hx hb dX11_sumOfAll_28 (by decide) ?_
        exact ih4 (i + 1) (by omega) (by omega) _ _ hP hD hS _ (lv_sub hl [0, 1, 2, 3] rfl)
  exact loop4 ((n - (0)) + 1) (0) (by omega) (by omega) _ _ hP hD hS _ (lv_sub hl [0, 1, 2, 3] rfl)
set_option maxHeartbeats 4000000 in
set_option maxRecDepth 100000 in
theorem m_count0o (l : Launch) (D : va_G) (cI cL cZ : ClassId) (sz : Nat) (cA : ClassId) (cB : ClassId) (mm : Nat) (nu : Nat) (na : Nat) (nc : Nat) (zz : Nat) (on : Nat) (oa : Nat) (oc : Nat) (sm : Nat) (fw : Nat) (g : Nat → Nat) (n : Nat) (gb : Nat → Nat) (nb : Nat) (tw : Int32) (u0 : Nat → Int64) (u1 : Nat → Int64) (us : Nat → Int64) (uf : Nat → Int32) (v : Nat) (hn : n ≤ 20) (hnb : nb ≤ 20) (hg : ∀ k, k < n → 1 ≤ g k ∧ g k ≤ 300) (hgb : ∀ k, k < nb → 1 ≤ gb k ∧ gb k ≤ 300) (hv : v < 2 ^ 31) :
    Met l yX11_count (ws_ yX11_count cX11_count 7 none) { frames := 0, cells := 0, slots := 0, locals := 0 } (su_pre D (su_T5 cI cL cZ cA cB) sz [(mm, .inr (10, [.ref nu, .ref zz, .ref on, .ref sm, .ref fw, .int tw])), (nu, .inl (cA, 2, .inr (.inr (.inr (.inr (rf2 na nc)))))), (na, .inl (cI, 20, .inl (fN g))), (nc, .inl (cI, 20, .inl (fN gb))), (zz, .inl (cI, 2, .inl (fN (sz2 n nb)))), (on, .inl (cB, 2, .inr (.inr (.inr (.inr (rf2 oa oc)))))), (oa, .inl (cL, 301, .inr (.inl u0))), (oc, .inl (cL, 301, .inr (.inl u1))), (sm, .inl (cL, 301, .inr (.inl us))), (fw, .inl (cI, 301, .inl uf))] [.ref mm, .ref oa, .int (nI 0), .int (nI v)]) (su_qv D (va_A [(mm, .inr (10, [.ref nu, .ref zz, .ref on, .ref sm, .ref fw, .int tw])), (nu, .inl (cA, 2, .inr (.inr (.inr (.inr (rf2 na nc)))))), (na, .inl (cI, 20, .inl (fN g))), (nc, .inl (cI, 20, .inl (fN gb))), (zz, .inl (cI, 2, .inl (fN (sz2 n nb)))), (on, .inl (cB, 2, .inr (.inr (.inr (.inr (rf2 oa oc)))))), (oa, .inl (cL, 301, .inr (.inl u0))), (oc, .inl (cL, 301, .inr (.inl u1))), (sm, .inl (cL, 301, .inr (.inl us))), (fw, .inl (cI, 301, .inl uf))] sz) (fun (uu : Unit) => True) (fun (uu : Unit) => [(mm, .inr (10, [.ref nu, .ref zz, .ref on, .ref sm, .ref fw, .int tw])), (nu, .inl (cA, 2, .inr (.inr (.inr (.inr (rf2 na nc)))))), (na, .inl (cI, 20, .inl (fN g))), (nc, .inl (cI, 20, .inl (fN gb))), (zz, .inl (cI, 2, .inl (fN (sz2 n nb)))), (on, .inl (cB, 2, .inr (.inr (.inr (.inr (rf2 oa oc)))))), (oa, .inl (cL, 301, .inr (.inl (fL (ctP g v n))))), (oc, .inl (cL, 301, .inr (.inl u1))), (sm, .inl (cL, 301, .inr (.inl us))), (fw, .inl (cI, 301, .inl uf))])) 0 0 (va_A [(mm, .inr (10, [.ref nu, .ref zz, .ref on, .ref sm, .ref fw, .int tw])), (nu, .inl (cA, 2, .inr (.inr (.inr (.inr (rf2 na nc)))))), (na, .inl (cI, 20, .inl (fN g))), (nc, .inl (cI, 20, .inl (fN gb))), (zz, .inl (cI, 2, .inl (fN (sz2 n nb)))), (on, .inl (cB, 2, .inr (.inr (.inr (.inr (rf2 oa oc)))))), (oa, .inl (cL, 301, .inr (.inl u0))), (oc, .inl (cL, 301, .inr (.inl u1))), (sm, .inl (cL, 301, .inr (.inl us))), (fw, .inl (cI, 301, .inl uf))] sz) := by
  refine su_met (y := yX11_count) (av := [.ref mm, .ref oa, .int (nI 0), .int (nI v)]) (Qf := fun A => su_qv D A (fun (uu : Unit) => True) (fun (uu : Unit) => [(mm, .inr (10, [.ref nu, .ref zz, .ref on, .ref sm, .ref fw, .int tw])), (nu, .inl (cA, 2, .inr (.inr (.inr (.inr (rf2 na nc)))))), (na, .inl (cI, 20, .inl (fN g))), (nc, .inl (cI, 20, .inl (fN gb))), (zz, .inl (cI, 2, .inl (fN (sz2 n nb)))), (on, .inl (cB, 2, .inr (.inr (.inr (.inr (rf2 oa oc)))))), (oa, .inl (cL, 301, .inr (.inl (fL (ctP g v n))))), (oc, .inl (cL, 301, .inr (.inl u1))), (sm, .inl (cL, 301, .inr (.inl us))), (fw, .inl (cI, 301, .inl uf))])) (cc := cX11_count) (maxL := 7) (ret := none) (by decide) (Nat.le_of_ble_eq_true rfl) ?_
  intro p e s m args below meth c R Q A H locs ls hx hb hr hlocks hin hml hown hts hN hP hK hD hA hS hRm hQ hl
  have hown : s.vm.findClass RX11 = some m.cls := hown
  have hl : lv_has ls 7 [(0, .ref mm), (1, .ref oa), (2, .int (nI 0)), (3, .int (nI v))] := hl
  have hR3 : 0 ≤ R.cells := by rw [hRm]; exact Nat.le_of_ble_eq_true rfl
  have hR4 : 0 ≤ R.slots := by rw [hRm]; exact Nat.le_of_ble_eq_true rfl
  have k_1000 := hts _ q_1000
  have k_999 := hts _ q_999
  refine lv_iconst (v := nI 1) hx hb dX11_count_0 (by decide) ?_
  refine lv_istore (lv' := [(4, .int (nI 1)), (0, .ref mm), (1, .ref oa), (2, .int (nI 0)), (3, .int (nI v))]) hx hb dX11_count_1 hl (by decide) rfl (fun ls hl => ?_)
  have loop3 : ∀ (k3 : Nat) (j : Nat), (1 ≤ j) → (j ≤ 301) → 301 - j < k3 → ∀ (H : Heap) (locs : List Loc), va_P D vwCl [(mm, .inr (10, [.ref nu, .ref zz, .ref on, .ref sm, .ref fw, .int tw])), (nu, .inl (cA, 2, .inr (.inr (.inr (.inr (rf2 na nc)))))), (na, .inl (cI, 20, .inl (fN g))), (nc, .inl (cI, 20, .inl (fN gb))), (zz, .inl (cI, 2, .inl (fN (sz2 n nb)))), (on, .inl (cB, 2, .inr (.inr (.inr (.inr (rf2 oa oc)))))), (oa, .inl (cL, 301, .inr (.inl (zf u0 j)))), (oc, .inl (cL, 301, .inr (.inl u1))), (sm, .inl (cL, 301, .inr (.inl us))), (fw, .inl (cI, 301, .inl uf))] H → va_D A [(mm, .inr (10, [.ref nu, .ref zz, .ref on, .ref sm, .ref fw, .int tw])), (nu, .inl (cA, 2, .inr (.inr (.inr (.inr (rf2 na nc)))))), (na, .inl (cI, 20, .inl (fN g))), (nc, .inl (cI, 20, .inl (fN gb))), (zz, .inl (cI, 2, .inl (fN (sz2 n nb)))), (on, .inl (cB, 2, .inr (.inr (.inr (.inr (rf2 oa oc)))))), (oa, .inl (cL, 301, .inr (.inl (zf u0 j)))), (oc, .inl (cL, 301, .inr (.inl u1))), (sm, .inl (cL, 301, .inr (.inl us))), (fw, .inl (cI, 301, .inl uf))] → va_S A s.heap H locs → ∀ ls : Array Slot, lv_has ls 7 [(4, .int (nI j)), (0, .ref mm), (1, .ref oa), (2, .int (nI 0)), (3, .int (nI v))] → W p l e R s m args below meth c H locs 0 0 Q (F0 m 3 ls []) := by
    intro k3
    induction k3 with
    | zero => intro j hj hj2 hk; exact absurd hk (Nat.not_lt_zero _)
    | succ k3 ih3 =>
      intro j hj hj2 hk3 H locs hP hD hS ls hl
      refine lv_iload hx hb dX11_count_3 (lv_at hl 0 rfl) ?_
      refine lv_sipush (v := nI 300) hx hb dX11_count_5 (by decide) ?_
      refine lv_icmp_gt (tgt := 22) hx hb dX11_count_8 (by decide) (fun c8 => ?_) (fun c8 => ?_)
      · have c8 : 300 < j := su_lt (by omega) (by omega) c8
        refine lv_aload_n hx hb dX11_count_22 rfl (lv_at hl 2 rfl) ?_
        refine lv_iconst (v := nI 0) hx hb dX11_count_23 (by decide) ?_
        refine lv_lconst (v := lN 1) hx hb dX11_count_24 (by decide) ?_
        refine su_last hx hb hK hP hD hS 6 1 rfl rfl (i := 0) (by decide) (by decide) (fL f0W) (fun j hj => zfN (by omega) hj) dX11_count_25 (fun H locs hP hD hS => ?_)
        have hP : va_P D vwCl [(mm, .inr (10, [.ref nu, .ref zz, .ref on, .ref sm, .ref fw, .int tw])), (nu, .inl (cA, 2, .inr (.inr (.inr (.inr (rf2 na nc)))))), (na, .inl (cI, 20, .inl (fN g))), (nc, .inl (cI, 20, .inl (fN gb))), (zz, .inl (cI, 2, .inl (fN (sz2 n nb)))), (on, .inl (cB, 2, .inr (.inr (.inr (.inr (rf2 oa oc)))))), (oa, .inl (cL, 301, .inr (.inl (fL f0W)))), (oc, .inl (cL, 301, .inr (.inl u1))), (sm, .inl (cL, 301, .inr (.inl us))), (fw, .inl (cI, 301, .inl uf))] H := hP
        have hD : va_D A [(mm, .inr (10, [.ref nu, .ref zz, .ref on, .ref sm, .ref fw, .int tw])), (nu, .inl (cA, 2, .inr (.inr (.inr (.inr (rf2 na nc)))))), (na, .inl (cI, 20, .inl (fN g))), (nc, .inl (cI, 20, .inl (fN gb))), (zz, .inl (cI, 2, .inl (fN (sz2 n nb)))), (on, .inl (cB, 2, .inr (.inr (.inr (.inr (rf2 oa oc)))))), (oa, .inl (cL, 301, .inr (.inl (fL f0W)))), (oc, .inl (cL, 301, .inr (.inl u1))), (sm, .inl (cL, 301, .inr (.inl us))), (fw, .inl (cI, 301, .inl uf))] := hD
        refine lv_iconst (v := nI 0) hx hb dX11_count_26 (by decide) ?_
        refine lv_istore (lv' := [(4, .int (nI 0)), (0, .ref mm), (1, .ref oa), (2, .int (nI 0)), (3, .int (nI v))]) hx hb dX11_count_27 hl (by decide) rfl (fun ls hl => ?_)
        have loop29 : ∀ (k29 : Nat) (i : Nat), (i ≤ n) → n - i < k29 → ∀ (H : Heap) (locs : List Loc), va_P D vwCl [(mm, .inr (10, [.ref nu, .ref zz, .ref on, .ref sm, .ref fw, .int tw])), (nu, .inl (cA, 2, .inr (.inr (.inr (.inr (rf2 na nc)))))), (na, .inl (cI, 20, .inl (fN g))), (nc, .inl (cI, 20, .inl (fN gb))), (zz, .inl (cI, 2, .inl (fN (sz2 n nb)))), (on, .inl (cB, 2, .inr (.inr (.inr (.inr (rf2 oa oc)))))), (oa, .inl (cL, 301, .inr (.inl (fL (ctP g v i))))), (oc, .inl (cL, 301, .inr (.inl u1))), (sm, .inl (cL, 301, .inr (.inl us))), (fw, .inl (cI, 301, .inl uf))] H → va_D A [(mm, .inr (10, [.ref nu, .ref zz, .ref on, .ref sm, .ref fw, .int tw])), (nu, .inl (cA, 2, .inr (.inr (.inr (.inr (rf2 na nc)))))), (na, .inl (cI, 20, .inl (fN g))), (nc, .inl (cI, 20, .inl (fN gb))), (zz, .inl (cI, 2, .inl (fN (sz2 n nb)))), (on, .inl (cB, 2, .inr (.inr (.inr (.inr (rf2 oa oc)))))), (oa, .inl (cL, 301, .inr (.inl (fL (ctP g v i))))), (oc, .inl (cL, 301, .inr (.inl u1))), (sm, .inl (cL, 301, .inr (.inl us))), (fw, .inl (cI, 301, .inl uf))] → va_S A s.heap H locs → ∀ ls : Array Slot, lv_has ls 7 [(4, .int (nI i)), (0, .ref mm), (1, .ref oa), (2, .int (nI 0)), (3, .int (nI v))] → W p l e R s m args below meth c H locs 0 0 Q (F0 m 29 ls []) := by
          intro k29
          induction k29 with
          | zero => intro i hi hk; exact absurd hk (Nat.not_lt_zero _)
          | succ k29 ih29 =>
            intro i hi hk29 H locs hP hD hS ls hl
            refine lv_iload hx hb dX11_count_29 (lv_at hl 0 rfl) ?_
            refine lv_aload_n hx hb dX11_count_31 rfl (lv_at hl 1 rfl) ?_
            refine va_get (D := D) (ci := 10) (v := .ref zz) (C := RX11) (T := TX11) (N := 6) hx hb hts in_X11 hown hK hP 0 rfl rfl 1 (by decide) k_1000 (fun _ h9 => h9) rfl dX11_count_32 ?_
            refine lv_iload_n hx hb dX11_count_35 rfl (lv_at hl 3 rfl) ?_
            refine su_iald hx hb hK hP 4 0 rfl rfl (i := 0) (by decide) (by decide) (nI n) (rfl) dX11_count_36 ?_
            refine lv_icmp_ge (tgt := 99) hx hb dX11_count_37 (by decide) (fun c37 => ?_) (fun c37 => ?_)
            · have c37 : n ≤ i := su_ge (by omega) (by omega) c37
              obtain ⟨hP, hD⟩ := su_reL (q0 := 6) (fL (ctP g v n)) hP hD rfl (fun j _ => by rw [show n = i by omega])
              have hP : va_P D vwCl [(mm, .inr (10, [.ref nu, .ref zz, .ref on, .ref sm, .ref fw, .int tw])), (nu, .inl (cA, 2, .inr (.inr (.inr (.inr (rf2 na nc)))))), (na, .inl (cI, 20, .inl (fN g))), (nc, .inl (cI, 20, .inl (fN gb))), (zz, .inl (cI, 2, .inl (fN (sz2 n nb)))), (on, .inl (cB, 2, .inr (.inr (.inr (.inr (rf2 oa oc)))))), (oa, .inl (cL, 301, .inr (.inl (fL (ctP g v n))))), (oc, .inl (cL, 301, .inr (.inl u1))), (sm, .inl (cL, 301, .inr (.inl us))), (fw, .inl (cI, 301, .inl uf))] H := hP
              have hD : va_D A [(mm, .inr (10, [.ref nu, .ref zz, .ref on, .ref sm, .ref fw, .int tw])), (nu, .inl (cA, 2, .inr (.inr (.inr (.inr (rf2 na nc)))))), (na, .inl (cI, 20, .inl (fN g))), (nc, .inl (cI, 20, .inl (fN gb))), (zz, .inl (cI, 2, .inl (fN (sz2 n nb)))), (on, .inl (cB, 2, .inr (.inr (.inr (.inr (rf2 oa oc)))))), (oa, .inl (cL, 301, .inr (.inl (fL (ctP g v n))))), (oc, .inl (cL, 301, .inr (.inl u1))), (sm, .inl (cL, 301, .inr (.inl us))), (fw, .inl (cI, 301, .inl uf))] := hD
              rw [hQ]
              exact su_ev hx hb hr hlocks hS dX11_count_99 () (trivial) hP hD
            · have c37 : i < n := su_nge (by omega) (by omega) c37
              refine lv_aload_n hx hb dX11_count_40 rfl (lv_at hl 1 rfl) ?_
              refine va_get (D := D) (ci := 10) (v := .ref nu) (C := RX11) (T := TX11) (N := 6) hx hb hts in_X11 hown hK hP 0 rfl rfl 0 (by decide) k_999 (fun _ h9 => h9) rfl dX11_count_41 ?_
              refine lv_iload_n hx hb dX11_count_44 rfl (lv_at hl 3 rfl) ?_
              refine su_aald hx hb hK hP 1 3 rfl rfl (i := 0) (by decide) (by decide) (na) rfl dX11_count_45 ?_
              refine lv_iload hx hb dX11_count_46 (lv_at hl 0 rfl) ?_
              refine su_iald hx hb hK hP 2 0 rfl rfl (i := i) (by omega) (by decide) (nI (g i)) (rfl) dX11_count_48 ?_
              refine lv_istore (lv' := [(5, .int (nI (g i))), (4, .int (nI i)), (0, .ref mm), (1, .ref oa), (2, .int (nI 0)), (3, .int (nI v))]) hx hb dX11_count_49 hl (by decide) rfl (fun ls hl => ?_)
              have hgi := hg i c37
              refine lv_iload_n hx hb dX11_count_51 rfl (lv_at hl 5 rfl) ?_
              refine lv_iload hx hb dX11_count_52 (lv_at hl 1 rfl) ?_
              refine lv_ishr hx hb dX11_count_54 ?_
              refine su_eqi (nI (v / 2 ^ i)) (su_shB hv (by omega)) ?_
              refine lv_iconst (v := nI 2) hx hb dX11_count_55 (by decide) ?_
              refine lv_irem hx hb dX11_count_56 (by decide) ?_
              refine su_eqi (bI (v.testBit i)) (su_remB hv) ?_
              refine lv_iconst (v := nI 1) hx hb dX11_count_57 (by decide) ?_
              refine lv_icmp_ne (tgt := 93) hx hb dX11_count_58 (by decide) (fun c58 => ?_) (fun c58 => ?_)
              · have c58 := bI_ne1 c58
                refine lv_iinc (v := nI (i + 1)) (lv' := [(4, .int (nI (i + 1))), (5, .int (nI (g i))), (0, .ref mm), (1, .ref oa), (2, .int (nI 0)), (3, .int (nI v))]) hx hb dX11_count_93 hl (k := 1) rfl (su_inc _) (by decide) rfl (fun ls hl => ?_)
                refine lv_goto (tgt := 29) hx hb dX11_count_96 (by decide) ?_
                obtain ⟨hP, hD⟩ := su_reL (q0 := 6) (fL (ctP g v (i + 1))) hP hD rfl (fun j _ => by rw [ctP_0 c58])
                have hP : va_P D vwCl [(mm, .inr (10, [.ref nu, .ref zz, .ref on, .ref sm, .ref fw, .int tw])), (nu, .inl (cA, 2, .inr (.inr (.inr (.inr (rf2 na nc)))))), (na, .inl (cI, 20, .inl (fN g))), (nc, .inl (cI, 20, .inl (fN gb))), (zz, .inl (cI, 2, .inl (fN (sz2 n nb)))), (on, .inl (cB, 2, .inr (.inr (.inr (.inr (rf2 oa oc)))))), (oa, .inl (cL, 301, .inr (.inl (fL (ctP g v (i + 1)))))), (oc, .inl (cL, 301, .inr (.inl u1))), (sm, .inl (cL, 301, .inr (.inl us))), (fw, .inl (cI, 301, .inl uf))] H := hP
                have hD : va_D A [(mm, .inr (10, [.ref nu, .ref zz, .ref on, .ref sm, .ref fw, .int tw])), (nu, .inl (cA, 2, .inr (.inr (.inr (.inr (rf2 na nc)))))), (na, .inl (cI, 20, .inl (fN g))), (nc, .inl (cI, 20, .inl (fN gb))), (zz, .inl (cI, 2, .inl (fN (sz2 n nb)))), (on, .inl (cB, 2, .inr (.inr (.inr (.inr (rf2 oa oc)))))), (oa, .inl (cL, 301, .inr (.inl (fL (ctP g v (i + 1)))))), (oc, .inl (cL, 301, .inr (.inl u1))), (sm, .inl (cL, 301, .inr (.inl us))), (fw, .inl (cI, 301, .inl uf))] := hD
                exact ih29 (i + 1) (by omega) (by omega) _ _ hP hD hS _ (lv_sub hl [0, 2, 3, 4, 5] rfl)
              · have c58 := bI_eq1 c58
                refine lv_sipush (v := nI 300) hx hb dX11_count_61 (by decide) ?_
                refine lv_istore (lv' := [(6, .int (nI 300)), (5, .int (nI (g i))), (4, .int (nI i)), (0, .ref mm), (1, .ref oa), (2, .int (nI 0)), (3, .int (nI v))]) hx hb dX11_count_64 hl (by decide) rfl (fun ls hl => ?_)
                have loop66 : ∀ (k66 : Nat) (k : Nat), (k ≤ 300) → (g i ≤ k + 1) → k < k66 → ∀ (H : Heap) (locs : List Loc), va_P D vwCl [(mm, .inr (10, [.ref nu, .ref zz, .ref on, .ref sm, .ref fw, .int tw])), (nu, .inl (cA, 2, .inr (.inr (.inr (.inr (rf2 na nc)))))), (na, .inl (cI, 20, .inl (fN g))), (nc, .inl (cI, 20, .inl (fN gb))), (zz, .inl (cI, 2, .inl (fN (sz2 n nb)))), (on, .inl (cB, 2, .inr (.inr (.inr (.inr (rf2 oa oc)))))), (oa, .inl (cL, 301, .inr (.inl (fL (dnP opW (g i) (ctP g v i) k))))), (oc, .inl (cL, 301, .inr (.inl u1))), (sm, .inl (cL, 301, .inr (.inl us))), (fw, .inl (cI, 301, .inl uf))] H → va_D A [(mm, .inr (10, [.ref nu, .ref zz, .ref on, .ref sm, .ref fw, .int tw])), (nu, .inl (cA, 2, .inr (.inr (.inr (.inr (rf2 na nc)))))), (na, .inl (cI, 20, .inl (fN g))), (nc, .inl (cI, 20, .inl (fN gb))), (zz, .inl (cI, 2, .inl (fN (sz2 n nb)))), (on, .inl (cB, 2, .inr (.inr (.inr (.inr (rf2 oa oc)))))), (oa, .inl (cL, 301, .inr (.inl (fL (dnP opW (g i) (ctP g v i) k))))), (oc, .inl (cL, 301, .inr (.inl u1))), (sm, .inl (cL, 301, .inr (.inl us))), (fw, .inl (cI, 301, .inl uf))] → va_S A s.heap H locs → ∀ ls : Array Slot, lv_has ls 7 [(6, .int (nI k)), (5, .int (nI (g i))), (4, .int (nI i)), (0, .ref mm), (1, .ref oa), (2, .int (nI 0)), (3, .int (nI v))] → W p l e R s m args below meth c H locs 0 0 Q (F0 m 66 ls []) := by
                  intro k66
                  induction k66 with
                  | zero => intro k hk hk2 hk; exact absurd hk (Nat.not_lt_zero _)
                  | succ k66 ih66 =>
                    intro k hk hk2 hk66 H locs hP hD hS ls hl
                    refine lv_iload hx hb dX11_count_66 (lv_at hl 0 rfl) ?_
                    refine lv_iload hx hb dX11_count_68 (lv_at hl 1 rfl) ?_
                    refine lv_icmp_lt (tgt := 93) hx hb dX11_count_70 (by decide) (fun c70 => ?_) (fun c70 => ?_)
                    · have c70 : k < g i := su_lt (by omega) (by omega) c70
                      refine lv_iinc (v := nI (i + 1)) (lv' := [(4, .int (nI (i + 1))), (6, .int (nI k)), (5, .int (nI (g i))), (0, .ref mm), (1, .ref oa), (2, .int (nI 0)), (3, .int (nI v))]) hx hb dX11_count_93 hl (k := 2) rfl (su_inc _) (by decide) rfl (fun ls hl => ?_)
                      refine lv_goto (tgt := 29) hx hb dX11_count_96 (by decide) ?_
                      obtain ⟨hP, hD⟩ := su_reL (q0 := 6) (fL (ctP g v (i + 1))) hP hD rfl (fun j _ => by rw [ctP_1 c58]; exact congrArg lN (dnP_T c70 j))
                      have hP : va_P D vwCl [(mm, .inr (10, [.ref nu, .ref zz, .ref on, .ref sm, .ref fw, .int tw])), (nu, .inl (cA, 2, .inr (.inr (.inr (.inr (rf2 na nc)))))), (na, .inl (cI, 20, .inl (fN g))), (nc, .inl (cI, 20, .inl (fN gb))), (zz, .inl (cI, 2, .inl (fN (sz2 n nb)))), (on, .inl (cB, 2, .inr (.inr (.inr (.inr (rf2 oa oc)))))), (oa, .inl (cL, 301, .inr (.inl (fL (ctP g v (i + 1)))))), (oc, .inl (cL, 301, .inr (.inl u1))), (sm, .inl (cL, 301, .inr (.inl us))), (fw, .inl (cI, 301, .inl uf))] H := hP
                      have hD : va_D A [(mm, .inr (10, [.ref nu, .ref zz, .ref on, .ref sm, .ref fw, .int tw])), (nu, .inl (cA, 2, .inr (.inr (.inr (.inr (rf2 na nc)))))), (na, .inl (cI, 20, .inl (fN g))), (nc, .inl (cI, 20, .inl (fN gb))), (zz, .inl (cI, 2, .inl (fN (sz2 n nb)))), (on, .inl (cB, 2, .inr (.inr (.inr (.inr (rf2 oa oc)))))), (oa, .inl (cL, 301, .inr (.inl (fL (ctP g v (i + 1)))))), (oc, .inl (cL, 301, .inr (.inl u1))), (sm, .inl (cL, 301, .inr (.inl us))), (fw, .inl (cI, 301, .inl uf))] := hD
                      exact ih29 (i + 1) (by omega) (by omega) _ _ hP hD hS _ (lv_sub hl [0, 3, 4, 5, 6] rfl)
                    · have c70 : g i ≤ k := su_nlt (by omega) (by omega) c70
                      refine lv_aload_n hx hb dX11_count_73 rfl (lv_at hl 4 rfl) ?_
                      refine lv_iload hx hb dX11_count_74 (lv_at hl 0 rfl) ?_
                      refine lv_dup2_11 hx hb dX11_count_76 rfl rfl ?_
                      refine su_lald hx hb hK hP 6 1 rfl rfl (i := k) (by omega) (by decide) (lN ((dnP opW (g i) (ctP g v i) k) k)) (rfl) dX11_count_77 ?_
                      refine lv_aload_n hx hb dX11_count_78 rfl (lv_at hl 4 rfl) ?_
                      refine lv_iload hx hb dX11_count_79 (lv_at hl 0 rfl) ?_
                      refine lv_iload hx hb dX11_count_81 (lv_at hl 1 rfl) ?_
                      refine lv_isub hx hb dX11_count_83 ?_
                      refine su_eqi (nI (k - (g i))) (pk_sub (by omega)) ?_
                      refine su_lald hx hb hK hP 6 1 rfl rfl (i := (k - (g i))) (by omega) (by decide) (lN ((dnP opW (g i) (ctP g v i) k) (k - (g i)))) (rfl) dX11_count_84 ?_
                      refine lv_ladd hx hb dX11_count_85 ?_
                      refine su_eql (lN ((dnP opW (g i) (ctP g v i) k) k + ((dnP opW (g i) (ctP g v i) k) (k - (g i))))) (lN_add _ _) ?_
                      refine su_last hx hb hK hP hD hS 6 1 rfl rfl (i := k) (by omega) (by decide) (fL (va_up (dnP opW (g i) (ctP g v i) k) k ((dnP opW (g i) (ctP g v i) k) k + ((dnP opW (g i) (ctP g v i) k) (k - (g i)))))) (fun j _ => su_upL _ _ _ j) dX11_count_86 (fun H locs hP hD hS => ?_)
                      have hP : va_P D vwCl [(mm, .inr (10, [.ref nu, .ref zz, .ref on, .ref sm, .ref fw, .int tw])), (nu, .inl (cA, 2, .inr (.inr (.inr (.inr (rf2 na nc)))))), (na, .inl (cI, 20, .inl (fN g))), (nc, .inl (cI, 20, .inl (fN gb))), (zz, .inl (cI, 2, .inl (fN (sz2 n nb)))), (on, .inl (cB, 2, .inr (.inr (.inr (.inr (rf2 oa oc)))))), (oa, .inl (cL, 301, .inr (.inl (fL (va_up (dnP opW (g i) (ctP g v i) k) k ((dnP opW (g i) (ctP g v i) k) k + ((dnP opW (g i) (ctP g v i) k) (k - (g i))))))))), (oc, .inl (cL, 301, .inr (.inl u1))), (sm, .inl (cL, 301, .inr (.inl us))), (fw, .inl (cI, 301, .inl uf))] H := hP
                      have hD : va_D A [(mm, .inr (10, [.ref nu, .ref zz, .ref on, .ref sm, .ref fw, .int tw])), (nu, .inl (cA, 2, .inr (.inr (.inr (.inr (rf2 na nc)))))), (na, .inl (cI, 20, .inl (fN g))), (nc, .inl (cI, 20, .inl (fN gb))), (zz, .inl (cI, 2, .inl (fN (sz2 n nb)))), (on, .inl (cB, 2, .inr (.inr (.inr (.inr (rf2 oa oc)))))), (oa, .inl (cL, 301, .inr (.inl (fL (va_up (dnP opW (g i) (ctP g v i) k) k ((dnP opW (g i) (ctP g v i) k) k + ((dnP opW (g i) (ctP g v i) k) (k - (g i))))))))), (oc, .inl (cL, 301, .inr (.inl u1))), (sm, .inl (cL, 301, .inr (.inl us))), (fw, .inl (cI, 301, .inl uf))] := hD
                      refine lv_iinc (v := nI (k - 1)) (lv' := [(6, .int (nI (k - 1))), (5, .int (nI (g i))), (4, .int (nI i)), (0, .ref mm), (1, .ref oa), (2, .int (nI 0)), (3, .int (nI v))]) hx hb dX11_count_87 hl (k := 0) rfl (sb_m1 (by omega)) (by decide) rfl (fun ls hl => ?_)
                      refine lv_goto (tgt := 66) hx hb dX11_count_90 (by decide) ?_
                      obtain ⟨hP, hD⟩ := su_reL (q0 := 6) (fL (dnP opW (g i) (ctP g v i) (k - 1))) hP hD rfl (fun j _ => congrArg lN (dnP_S hgi.1 c70 hk j))
                      have hP : va_P D vwCl [(mm, .inr (10, [.ref nu, .ref zz, .ref on, .ref sm, .ref fw, .int tw])), (nu, .inl (cA, 2, .inr (.inr (.inr (.inr (rf2 na nc)))))), (na, .inl (cI, 20, .inl (fN g))), (nc, .inl (cI, 20, .inl (fN gb))), (zz, .inl (cI, 2, .inl (fN (sz2 n nb)))), (on, .inl (cB, 2, .inr (.inr (.inr (.inr (rf2 oa oc)))))), (oa, .inl (cL, 301, .inr (.inl (fL (dnP opW (g i) (ctP g v i) (k - 1)))))), (oc, .inl (cL, 301, .inr (.inl u1))), (sm, .inl (cL, 301, .inr (.inl us))), (fw, .inl (cI, 301, .inl uf))] H := hP
                      have hD : va_D A [(mm, .inr (10, [.ref nu, .ref zz, .ref on, .ref sm, .ref fw, .int tw])), (nu, .inl (cA, 2, .inr (.inr (.inr (.inr (rf2 na nc)))))), (na, .inl (cI, 20, .inl (fN g))), (nc, .inl (cI, 20, .inl (fN gb))), (zz, .inl (cI, 2, .inl (fN (sz2 n nb)))), (on, .inl (cB, 2, .inr (.inr (.inr (.inr (rf2 oa oc)))))), (oa, .inl (cL, 301, .inr (.inl (fL (dnP opW (g i) (ctP g v i) (k - 1)))))), (oc, .inl (cL, 301, .inr (.inl u1))), (sm, .inl (cL, 301, .inr (.inl us))), (fw, .inl (cI, 301, .inl uf))] := hD
                      exact ih66 (k - 1) (by omega) (by omega) (by omega) _ _ hP hD hS _ (lv_sub hl [0, 1, 2, 3, 4, 5, 6] rfl)
                obtain ⟨hP, hD⟩ := su_reL (q0 := 6) (fL (dnP opW (g i) (ctP g v i) (300))) hP hD rfl (fun j _ => congrArg lN (dnP_0 j))
                have hP : va_P D vwCl [(mm, .inr (10, [.ref nu, .ref zz, .ref on, .ref sm, .ref fw, .int tw])), (nu, .inl (cA, 2, .inr (.inr (.inr (.inr (rf2 na nc)))))), (na, .inl (cI, 20, .inl (fN g))), (nc, .inl (cI, 20, .inl (fN gb))), (zz, .inl (cI, 2, .inl (fN (sz2 n nb)))), (on, .inl (cB, 2, .inr (.inr (.inr (.inr (rf2 oa oc)))))), (oa, .inl (cL, 301, .inr (.inl (fL (dnP opW (g i) (ctP g v i) (300)))))), (oc, .inl (cL, 301, .inr (.inl u1))), (sm, .inl (cL, 301, .inr (.inl us))), (fw, .inl (cI, 301, .inl uf))] H := hP
                have hD : va_D A [(mm, .inr (10, [.ref nu, .ref zz, .ref on, .ref sm, .ref fw, .int tw])), (nu, .inl (cA, 2, .inr (.inr (.inr (.inr (rf2 na nc)))))), (na, .inl (cI, 20, .inl (fN g))), (nc, .inl (cI, 20, .inl (fN gb))), (zz, .inl (cI, 2, .inl (fN (sz2 n nb)))), (on, .inl (cB, 2, .inr (.inr (.inr (.inr (rf2 oa oc)))))), (oa, .inl (cL, 301, .inr (.inl (fL (dnP opW (g i) (ctP g v i) (300)))))), (oc, .inl (cL, 301, .inr (.inl u1))), (sm, .inl (cL, 301, .inr (.inl us))), (fw, .inl (cI, 301, .inl uf))] := hD
                exact loop66 (((300)) + 1) (300) (by omega) (by omega) (by omega) _ _ hP hD hS _ (lv_sub hl [0, 1, 2, 3, 4, 5, 6] rfl)
        exact loop29 ((n - (0)) + 1) (0) (by omega) (by omega) _ _ hP hD hS _ (lv_sub hl [0, 1, 2, 3, 4] rfl)
      · have c8 : j ≤ 300 := su_nlt (by omega) (by omega) c8
        refine lv_aload_n hx hb dX11_count_11 rfl (lv_at hl 2 rfl) ?_
        refine lv_iload hx hb dX11_count_12 (lv_at hl 0 rfl) ?_
        refine lv_lconst (v := lN 0) hx hb dX11_count_14 (by decide) ?_
        refine su_last hx hb hK hP hD hS 6 1 rfl rfl (i := j) (by omega) (by decide) (va_up (zf u0 j) j (lN 0)) (fun _ _ => rfl) dX11_count_15 (fun H locs hP hD hS => ?_)
        have hP : va_P D vwCl [(mm, .inr (10, [.ref nu, .ref zz, .ref on, .ref sm, .ref fw, .int tw])), (nu, .inl (cA, 2, .inr (.inr (.inr (.inr (rf2 na nc)))))), (na, .inl (cI, 20, .inl (fN g))), (nc, .inl (cI, 20, .inl (fN gb))), (zz, .inl (cI, 2, .inl (fN (sz2 n nb)))), (on, .inl (cB, 2, .inr (.inr (.inr (.inr (rf2 oa oc)))))), (oa, .inl (cL, 301, .inr (.inl (va_up (zf u0 j) j (lN 0))))), (oc, .inl (cL, 301, .inr (.inl u1))), (sm, .inl (cL, 301, .inr (.inl us))), (fw, .inl (cI, 301, .inl uf))] H := hP
        have hD : va_D A [(mm, .inr (10, [.ref nu, .ref zz, .ref on, .ref sm, .ref fw, .int tw])), (nu, .inl (cA, 2, .inr (.inr (.inr (.inr (rf2 na nc)))))), (na, .inl (cI, 20, .inl (fN g))), (nc, .inl (cI, 20, .inl (fN gb))), (zz, .inl (cI, 2, .inl (fN (sz2 n nb)))), (on, .inl (cB, 2, .inr (.inr (.inr (.inr (rf2 oa oc)))))), (oa, .inl (cL, 301, .inr (.inl (va_up (zf u0 j) j (lN 0))))), (oc, .inl (cL, 301, .inr (.inl u1))), (sm, .inl (cL, 301, .inr (.inl us))), (fw, .inl (cI, 301, .inl uf))] := hD
        refine lv_iinc (v := nI (j + 1)) (lv' := [(4, .int (nI (j + 1))), (0, .ref mm), (1, .ref oa), (2, .int (nI 0)), (3, .int (nI v))]) hx hb dX11_count_16 hl (k := 0) rfl (su_inc _) (by decide) rfl (fun ls hl => ?_)
        refine lv_goto (tgt := 3) hx hb dX11_count_19 (by decide) ?_
        obtain ⟨hP, hD⟩ := su_reL (q0 := 6) (zf u0 (j + 1)) hP hD rfl (fun k _ => zfS hj k)
        have hP : va_P D vwCl [(mm, .inr (10, [.ref nu, .ref zz, .ref on, .ref sm, .ref fw, .int tw])), (nu, .inl (cA, 2, .inr (.inr (.inr (.inr (rf2 na nc)))))), (na, .inl (cI, 20, .inl (fN g))), (nc, .inl (cI, 20, .inl (fN gb))), (zz, .inl (cI, 2, .inl (fN (sz2 n nb)))), (on, .inl (cB, 2, .inr (.inr (.inr (.inr (rf2 oa oc)))))), (oa, .inl (cL, 301, .inr (.inl (zf u0 (j + 1))))), (oc, .inl (cL, 301, .inr (.inl u1))), (sm, .inl (cL, 301, .inr (.inl us))), (fw, .inl (cI, 301, .inl uf))] H := hP
        have hD : va_D A [(mm, .inr (10, [.ref nu, .ref zz, .ref on, .ref sm, .ref fw, .int tw])), (nu, .inl (cA, 2, .inr (.inr (.inr (.inr (rf2 na nc)))))), (na, .inl (cI, 20, .inl (fN g))), (nc, .inl (cI, 20, .inl (fN gb))), (zz, .inl (cI, 2, .inl (fN (sz2 n nb)))), (on, .inl (cB, 2, .inr (.inr (.inr (.inr (rf2 oa oc)))))), (oa, .inl (cL, 301, .inr (.inl (zf u0 (j + 1))))), (oc, .inl (cL, 301, .inr (.inl u1))), (sm, .inl (cL, 301, .inr (.inl us))), (fw, .inl (cI, 301, .inl uf))] := hD
        exact ih3 (j + 1) (by omega) (by omega) (by omega) _ _ hP hD hS _ (lv_sub hl [0, 1, 2, 3, 4] rfl)
  obtain ⟨hP, hD⟩ := su_reL (q0 := 6) (zf u0 (1)) hP hD rfl (fun k _ => zf0 k)
  have hP : va_P D vwCl [(mm, .inr (10, [.ref nu, .ref zz, .ref on, .ref sm, .ref fw, .int tw])), (nu, .inl (cA, 2, .inr (.inr (.inr (.inr (rf2 na nc)))))), (na, .inl (cI, 20, .inl (fN g))), (nc, .inl (cI, 20, .inl (fN gb))), (zz, .inl (cI, 2, .inl (fN (sz2 n nb)))), (on, .inl (cB, 2, .inr (.inr (.inr (.inr (rf2 oa oc)))))), (oa, .inl (cL, 301, .inr (.inl (zf u0 (1))))), (oc, .inl (cL, 301, .inr (.inl u1))), (sm, .inl (cL, 301, .inr (.inl us))), (fw, .inl (cI, 301, .inl uf))] H := hP
  have hD : va_D A [(mm, .inr (10, [.ref nu, .ref zz, .ref on, .ref sm, .ref fw, .int tw])), (nu, .inl (cA, 2, .inr (.inr (.inr (.inr (rf2 na nc)))))), (na, .inl (cI, 20, .inl (fN g))), (nc, .inl (cI, 20, .inl (fN gb))), (zz, .inl (cI, 2, .inl (fN (sz2 n nb)))), (on, .inl (cB, 2, .inr (.inr (.inr (.inr (rf2 oa oc)))))), (oa, .inl (cL, 301, .inr (.inl (zf u0 (1))))), (oc, .inl (cL, 301, .inr (.inl u1))), (sm, .inl (cL, 301, .inr (.inl us))), (fw, .inl (cI, 301, .inl uf))] := hD
  exact loop3 ((301 - (1)) + 1) (1) (by omega) (by omega) (by omega) _ _ hP hD hS _ (lv_sub hl [0, 1, 2, 3, 4] rfl)
set_option maxHeartbeats 4000000 in
set_option maxRecDepth 100000 in
theorem m_count0s (l : Launch) (D : va_G) (cI cL cZ : ClassId) (sz : Nat) (cA : ClassId) (cB : ClassId) (mm : Nat) (nu : Nat) (na : Nat) (nc : Nat) (zz : Nat) (on : Nat) (oa : Nat) (oc : Nat) (sm : Nat) (fw : Nat) (g : Nat → Nat) (n : Nat) (gb : Nat → Nat) (nb : Nat) (tw : Int32) (u0 : Nat → Int64) (u1 : Nat → Int64) (us : Nat → Int64) (uf : Nat → Int32) (v : Nat) (hn : n ≤ 20) (hnb : nb ≤ 20) (hg : ∀ k, k < n → 1 ≤ g k ∧ g k ≤ 300) (hgb : ∀ k, k < nb → 1 ≤ gb k ∧ gb k ≤ 300) (hv : v < 2 ^ 31) :
    Met l yX11_count (ws_ yX11_count cX11_count 7 none) { frames := 0, cells := 0, slots := 0, locals := 0 } (su_pre D (su_T5 cI cL cZ cA cB) sz [(mm, .inr (10, [.ref nu, .ref zz, .ref on, .ref sm, .ref fw, .int tw])), (nu, .inl (cA, 2, .inr (.inr (.inr (.inr (rf2 na nc)))))), (na, .inl (cI, 20, .inl (fN g))), (nc, .inl (cI, 20, .inl (fN gb))), (zz, .inl (cI, 2, .inl (fN (sz2 n nb)))), (on, .inl (cB, 2, .inr (.inr (.inr (.inr (rf2 oa oc)))))), (oa, .inl (cL, 301, .inr (.inl u0))), (oc, .inl (cL, 301, .inr (.inl u1))), (sm, .inl (cL, 301, .inr (.inl us))), (fw, .inl (cI, 301, .inl uf))] [.ref mm, .ref sm, .int (nI 0), .int (nI v)]) (su_qv D (va_A [(mm, .inr (10, [.ref nu, .ref zz, .ref on, .ref sm, .ref fw, .int tw])), (nu, .inl (cA, 2, .inr (.inr (.inr (.inr (rf2 na nc)))))), (na, .inl (cI, 20, .inl (fN g))), (nc, .inl (cI, 20, .inl (fN gb))), (zz, .inl (cI, 2, .inl (fN (sz2 n nb)))), (on, .inl (cB, 2, .inr (.inr (.inr (.inr (rf2 oa oc)))))), (oa, .inl (cL, 301, .inr (.inl u0))), (oc, .inl (cL, 301, .inr (.inl u1))), (sm, .inl (cL, 301, .inr (.inl us))), (fw, .inl (cI, 301, .inl uf))] sz) (fun (uu : Unit) => True) (fun (uu : Unit) => [(mm, .inr (10, [.ref nu, .ref zz, .ref on, .ref sm, .ref fw, .int tw])), (nu, .inl (cA, 2, .inr (.inr (.inr (.inr (rf2 na nc)))))), (na, .inl (cI, 20, .inl (fN g))), (nc, .inl (cI, 20, .inl (fN gb))), (zz, .inl (cI, 2, .inl (fN (sz2 n nb)))), (on, .inl (cB, 2, .inr (.inr (.inr (.inr (rf2 oa oc)))))), (oa, .inl (cL, 301, .inr (.inl u0))), (oc, .inl (cL, 301, .inr (.inl u1))), (sm, .inl (cL, 301, .inr (.inl (fL (ctP g v n))))), (fw, .inl (cI, 301, .inl uf))])) 0 0 (va_A [(mm, .inr (10, [.ref nu, .ref zz, .ref on, .ref sm, .ref fw, .int tw])), (nu, .inl (cA, 2, .inr (.inr (.inr (.inr (rf2 na nc)))))), (na, .inl (cI, 20, .inl (fN g))), (nc, .inl (cI, 20, .inl (fN gb))), (zz, .inl (cI, 2, .inl (fN (sz2 n nb)))), (on, .inl (cB, 2, .inr (.inr (.inr (.inr (rf2 oa oc)))))), (oa, .inl (cL, 301, .inr (.inl u0))), (oc, .inl (cL, 301, .inr (.inl u1))), (sm, .inl (cL, 301, .inr (.inl us))), (fw, .inl (cI, 301, .inl uf))] sz) := by
  refine su_met (y := yX11_count) (av := [.ref mm, .ref sm, .int (nI 0), .int (nI v)]) (Qf := fun A => su_qv D A (fun (uu : Unit) => True) (fun (uu : Unit) => [(mm, .inr (10, [.ref nu, .ref zz, .ref on, .ref sm, .ref fw, .int tw])), (nu, .inl (cA, 2, .inr (.inr (.inr (.inr (rf2 na nc)))))), (na, .inl (cI, 20, .inl (fN g))), (nc, .inl (cI, 20, .inl (fN gb))), (zz, .inl (cI, 2, .inl (fN (sz2 n nb)))), (on, .inl (cB, 2, .inr (.inr (.inr (.inr (rf2 oa oc)))))), (oa, .inl (cL, 301, .inr (.inl u0))), (oc, .inl (cL, 301, .inr (.inl u1))), (sm, .inl (cL, 301, .inr (.inl (fL (ctP g v n))))), (fw, .inl (cI, 301, .inl uf))])) (cc := cX11_count) (maxL := 7) (ret := none) (by decide) (Nat.le_of_ble_eq_true rfl) ?_
  intro p e s m args below meth c R Q A H locs ls hx hb hr hlocks hin hml hown hts hN hP hK hD hA hS hRm hQ hl
  have hown : s.vm.findClass RX11 = some m.cls := hown
  have hl : lv_has ls 7 [(0, .ref mm), (1, .ref sm), (2, .int (nI 0)), (3, .int (nI v))] := hl
  have hR3 : 0 ≤ R.cells := by rw [hRm]; exact Nat.le_of_ble_eq_true rfl
  have hR4 : 0 ≤ R.slots := by rw [hRm]; exact Nat.le_of_ble_eq_true rfl
  have k_1000 := hts _ q_1000
  have k_999 := hts _ q_999
  refine lv_iconst (v := nI 1) hx hb dX11_count_0 (by decide) ?_
  refine lv_istore (lv' := [(4, .int (nI 1)), (0, .ref mm), (1, .ref sm), (2, .int (nI 0)), (3, .int (nI v))]) hx hb dX11_count_1 hl (by decide) rfl (fun ls hl => ?_)
  have loop3 : ∀ (k3 : Nat) (j : Nat), (1 ≤ j) → (j ≤ 301) → 301 - j < k3 → ∀ (H : Heap) (locs : List Loc), va_P D vwCl [(mm, .inr (10, [.ref nu, .ref zz, .ref on, .ref sm, .ref fw, .int tw])), (nu, .inl (cA, 2, .inr (.inr (.inr (.inr (rf2 na nc)))))), (na, .inl (cI, 20, .inl (fN g))), (nc, .inl (cI, 20, .inl (fN gb))), (zz, .inl (cI, 2, .inl (fN (sz2 n nb)))), (on, .inl (cB, 2, .inr (.inr (.inr (.inr (rf2 oa oc)))))), (oa, .inl (cL, 301, .inr (.inl u0))), (oc, .inl (cL, 301, .inr (.inl u1))), (sm, .inl (cL, 301, .inr (.inl (zf us j)))), (fw, .inl (cI, 301, .inl uf))] H → va_D A [(mm, .inr (10, [.ref nu, .ref zz, .ref on, .ref sm, .ref fw, .int tw])), (nu, .inl (cA, 2, .inr (.inr (.inr (.inr (rf2 na nc)))))), (na, .inl (cI, 20, .inl (fN g))), (nc, .inl (cI, 20, .inl (fN gb))), (zz, .inl (cI, 2, .inl (fN (sz2 n nb)))), (on, .inl (cB, 2, .inr (.inr (.inr (.inr (rf2 oa oc)))))), (oa, .inl (cL, 301, .inr (.inl u0))), (oc, .inl (cL, 301, .inr (.inl u1))), (sm, .inl (cL, 301, .inr (.inl (zf us j)))), (fw, .inl (cI, 301, .inl uf))] → va_S A s.heap H locs → ∀ ls : Array Slot, lv_has ls 7 [(4, .int (nI j)), (0, .ref mm), (1, .ref sm), (2, .int (nI 0)), (3, .int (nI v))] → W p l e R s m args below meth c H locs 0 0 Q (F0 m 3 ls []) := by
    intro k3
    induction k3 with
    | zero => intro j hj hj2 hk; exact absurd hk (Nat.not_lt_zero _)
    | succ k3 ih3 =>
      intro j hj hj2 hk3 H locs hP hD hS ls hl
      refine lv_iload hx hb dX11_count_3 (lv_at hl 0 rfl) ?_
      refine lv_sipush (v := nI 300) hx hb dX11_count_5 (by decide) ?_
      refine lv_icmp_gt (tgt := 22) hx hb dX11_count_8 (by decide) (fun c8 => ?_) (fun c8 => ?_)
      · have c8 : 300 < j := su_lt (by omega) (by omega) c8
        refine lv_aload_n hx hb dX11_count_22 rfl (lv_at hl 2 rfl) ?_
        refine lv_iconst (v := nI 0) hx hb dX11_count_23 (by decide) ?_
        refine lv_lconst (v := lN 1) hx hb dX11_count_24 (by decide) ?_
        refine su_last hx hb hK hP hD hS 8 1 rfl rfl (i := 0) (by decide) (by decide) (fL f0W) (fun j hj => zfN (by omega) hj) dX11_count_25 (fun H locs hP hD hS => ?_)
        have hP : va_P D vwCl [(mm, .inr (10, [.ref nu, .ref zz, .ref on, .ref sm, .ref fw, .int tw])), (nu, .inl (cA, 2, .inr (.inr (.inr (.inr (rf2 na nc)))))), (na, .inl (cI, 20, .inl (fN g))), (nc, .inl (cI, 20, .inl (fN gb))), (zz, .inl (cI, 2, .inl (fN (sz2 n nb)))), (on, .inl (cB, 2, .inr (.inr (.inr (.inr (rf2 oa oc)))))), (oa, .inl (cL, 301, .inr (.inl u0))), (oc, .inl (cL, 301, .inr (.inl u1))), (sm, .inl (cL, 301, .inr (.inl (fL f0W)))), (fw, .inl (cI, 301, .inl uf))] H := hP
        have hD : va_D A [(mm, .inr (10, [.ref nu, .ref zz, .ref on, .ref sm, .ref fw, .int tw])), (nu, .inl (cA, 2, .inr (.inr (.inr (.inr (rf2 na nc)))))), (na, .inl (cI, 20, .inl (fN g))), (nc, .inl (cI, 20, .inl (fN gb))), (zz, .inl (cI, 2, .inl (fN (sz2 n nb)))), (on, .inl (cB, 2, .inr (.inr (.inr (.inr (rf2 oa oc)))))), (oa, .inl (cL, 301, .inr (.inl u0))), (oc, .inl (cL, 301, .inr (.inl u1))), (sm, .inl (cL, 301, .inr (.inl (fL f0W)))), (fw, .inl (cI, 301, .inl uf))] := hD
        refine lv_iconst (v := nI 0) hx hb dX11_count_26 (by decide) ?_
        refine lv_istore (lv' := [(4, .int (nI 0)), (0, .ref mm), (1, .ref sm), (2, .int (nI 0)), (3, .int (nI v))]) hx hb dX11_count_27 hl (by decide) rfl (fun ls hl => ?_)
        have loop29 : ∀ (k29 : Nat) (i : Nat), (i ≤ n) → n - i < k29 → ∀ (H : Heap) (locs : List Loc), va_P D vwCl [(mm, .inr (10, [.ref nu, .ref zz, .ref on, .ref sm, .ref fw, .int tw])), (nu, .inl (cA, 2, .inr (.inr (.inr (.inr (rf2 na nc)))))), (na, .inl (cI, 20, .inl (fN g))), (nc, .inl (cI, 20, .inl (fN gb))), (zz, .inl (cI, 2, .inl (fN (sz2 n nb)))), (on, .inl (cB, 2, .inr (.inr (.inr (.inr (rf2 oa oc)))))), (oa, .inl (cL, 301, .inr (.inl u0))), (oc, .inl (cL, 301, .inr (.inl u1))), (sm, .inl (cL, 301, .inr (.inl (fL (ctP g v i))))), (fw, .inl (cI, 301, .inl uf))] H → va_D A [(mm, .inr (10, [.ref nu, .ref zz, .ref on, .ref sm, .ref fw, .int tw])), (nu, .inl (cA, 2, .inr (.inr (.inr (.inr (rf2 na nc)))))), (na, .inl (cI, 20, .inl (fN g))), (nc, .inl (cI, 20, .inl (fN gb))), (zz, .inl (cI, 2, .inl (fN (sz2 n nb)))), (on, .inl (cB, 2, .inr (.inr (.inr (.inr (rf2 oa oc)))))), (oa, .inl (cL, 301, .inr (.inl u0))), (oc, .inl (cL, 301, .inr (.inl u1))), (sm, .inl (cL, 301, .inr (.inl (fL (ctP g v i))))), (fw, .inl (cI, 301, .inl uf))] → va_S A s.heap H locs → ∀ ls : Array Slot, lv_has ls 7 [(4, .int (nI i)), (0, .ref mm), (1, .ref sm), (2, .int (nI 0)), (3, .int (nI v))] → W p l e R s m args below meth c H locs 0 0 Q (F0 m 29 ls []) := by
          intro k29
          induction k29 with
          | zero => intro i hi hk; exact absurd hk (Nat.not_lt_zero _)
          | succ k29 ih29 =>
            intro i hi hk29 H locs hP hD hS ls hl
            refine lv_iload hx hb dX11_count_29 (lv_at hl 0 rfl) ?_
            refine lv_aload_n hx hb dX11_count_31 rfl (lv_at hl 1 rfl) ?_
            refine va_get (D := D) (ci := 10) (v := .ref zz) (C := RX11) (T := TX11) (N := 6) hx hb hts in_X11 hown hK hP 0 rfl rfl 1 (by decide) k_1000 (fun _ h9 => h9) rfl dX11_count_32 ?_
            refine lv_iload_n hx hb dX11_count_35 rfl (lv_at hl 3 rfl) ?_
            refine su_iald hx hb hK hP 4 0 rfl rfl (i := 0) (by decide) (by decide) (nI n) (rfl) dX11_count_36 ?_
            refine lv_icmp_ge (tgt := 99) hx hb dX11_count_37 (by decide) (fun c37 => ?_) (fun c37 => ?_)
            · have c37 : n ≤ i := su_ge (by omega) (by omega) c37
              obtain ⟨hP, hD⟩ := su_reL (q0 := 8) (fL (ctP g v n)) hP hD rfl (fun j _ => by rw [show n = i by omega])
              have hP : va_P D vwCl [(mm, .inr (10, [.ref nu, .ref zz, .ref on, .ref sm, .ref fw, .int tw])), (nu, .inl (cA, 2, .inr (.inr (.inr (.inr (rf2 na nc)))))), (na, .inl (cI, 20, .inl (fN g))), (nc, .inl (cI, 20, .inl (fN gb))), (zz, .inl (cI, 2, .inl (fN (sz2 n nb)))), (on, .inl (cB, 2, .inr (.inr (.inr (.inr (rf2 oa oc)))))), (oa, .inl (cL, 301, .inr (.inl u0))), (oc, .inl (cL, 301, .inr (.inl u1))), (sm, .inl (cL, 301, .inr (.inl (fL (ctP g v n))))), (fw, .inl (cI, 301, .inl uf))] H := hP
              have hD : va_D A [(mm, .inr (10, [.ref nu, .ref zz, .ref on, .ref sm, .ref fw, .int tw])), (nu, .inl (cA, 2, .inr (.inr (.inr (.inr (rf2 na nc)))))), (na, .inl (cI, 20, .inl (fN g))), (nc, .inl (cI, 20, .inl (fN gb))), (zz, .inl (cI, 2, .inl (fN (sz2 n nb)))), (on, .inl (cB, 2, .inr (.inr (.inr (.inr (rf2 oa oc)))))), (oa, .inl (cL, 301, .inr (.inl u0))), (oc, .inl (cL, 301, .inr (.inl u1))), (sm, .inl (cL, 301, .inr (.inl (fL (ctP g v n))))), (fw, .inl (cI, 301, .inl uf))] := hD
              rw [hQ]
              exact su_ev hx hb hr hlocks hS dX11_count_99 () (trivial) hP hD
            · have c37 : i < n := su_nge (by omega) (by omega) c37
              refine lv_aload_n hx hb dX11_count_40 rfl (lv_at hl 1 rfl) ?_
              refine va_get (D := D) (ci := 10) (v := .ref nu) (C := RX11) (T := TX11) (N := 6) hx hb hts in_X11 hown hK hP 0 rfl rfl 0 (by decide) k_999 (fun _ h9 => h9) rfl dX11_count_41 ?_
              refine lv_iload_n hx hb dX11_count_44 rfl (lv_at hl 3 rfl) ?_
              refine su_aald hx hb hK hP 1 3 rfl rfl (i := 0) (by decide) (by decide) (na) rfl dX11_count_45 ?_
              refine lv_iload hx hb dX11_count_46 (lv_at hl 0 rfl) ?_
              refine su_iald hx hb hK hP 2 0 rfl rfl (i := i) (by omega) (by decide) (nI (g i)) (rfl) dX11_count_48 ?_
              refine lv_istore (lv' := [(5, .int (nI (g i))), (4, .int (nI i)), (0, .ref mm), (1, .ref sm), (2, .int (nI 0)), (3, .int (nI v))]) hx hb dX11_count_49 hl (by decide) rfl (fun ls hl => ?_)
              have hgi := hg i c37
              refine lv_iload_n hx hb dX11_count_51 rfl (lv_at hl 5 rfl) ?_
              refine lv_iload hx hb dX11_count_52 (lv_at hl 1 rfl) ?_
              refine lv_ishr hx hb dX11_count_54 ?_
              refine su_eqi (nI (v / 2 ^ i)) (su_shB hv (by omega)) ?_
              refine lv_iconst (v := nI 2) hx hb dX11_count_55 (by decide) ?_
              refine lv_irem hx hb dX11_count_56 (by decide) ?_
              refine su_eqi (bI (v.testBit i)) (su_remB hv) ?_
              refine lv_iconst (v := nI 1) hx hb dX11_count_57 (by decide) ?_
              refine lv_icmp_ne (tgt := 93) hx hb dX11_count_58 (by decide) (fun c58 => ?_) (fun c58 => ?_)
              · have c58 := bI_ne1 c58
                refine lv_iinc (v := nI (i + 1)) (lv' := [(4, .int (nI (i + 1))), (5, .int (nI (g i))), (0, .ref mm), (1, .ref sm), (2, .int (nI 0)), (3, .int (nI v))]) hx hb dX11_count_93 hl (k := 1) rfl (su_inc _) (by decide) rfl (fun ls hl => ?_)
                refine lv_goto (tgt := 29) hx hb dX11_count_96 (by decide) ?_
                obtain ⟨hP, hD⟩ := su_reL (q0 := 8) (fL (ctP g v (i + 1))) hP hD rfl (fun j _ => by rw [ctP_0 c58])
                have hP : va_P D vwCl [(mm, .inr (10, [.ref nu, .ref zz, .ref on, .ref sm, .ref fw, .int tw])), (nu, .inl (cA, 2, .inr (.inr (.inr (.inr (rf2 na nc)))))), (na, .inl (cI, 20, .inl (fN g))), (nc, .inl (cI, 20, .inl (fN gb))), (zz, .inl (cI, 2, .inl (fN (sz2 n nb)))), (on, .inl (cB, 2, .inr (.inr (.inr (.inr (rf2 oa oc)))))), (oa, .inl (cL, 301, .inr (.inl u0))), (oc, .inl (cL, 301, .inr (.inl u1))), (sm, .inl (cL, 301, .inr (.inl (fL (ctP g v (i + 1)))))), (fw, .inl (cI, 301, .inl uf))] H := hP
                have hD : va_D A [(mm, .inr (10, [.ref nu, .ref zz, .ref on, .ref sm, .ref fw, .int tw])), (nu, .inl (cA, 2, .inr (.inr (.inr (.inr (rf2 na nc)))))), (na, .inl (cI, 20, .inl (fN g))), (nc, .inl (cI, 20, .inl (fN gb))), (zz, .inl (cI, 2, .inl (fN (sz2 n nb)))), (on, .inl (cB, 2, .inr (.inr (.inr (.inr (rf2 oa oc)))))), (oa, .inl (cL, 301, .inr (.inl u0))), (oc, .inl (cL, 301, .inr (.inl u1))), (sm, .inl (cL, 301, .inr (.inl (fL (ctP g v (i + 1)))))), (fw, .inl (cI, 301, .inl uf))] := hD
                exact ih29 (i + 1) (by omega) (by omega) _ _ hP hD hS _ (lv_sub hl [0, 2, 3, 4, 5] rfl)
              · have c58 := bI_eq1 c58
                refine lv_sipush (v := nI 300) hx hb dX11_count_61 (by decide) ?_
                refine lv_istore (lv' := [(6, .int (nI 300)), (5, .int (nI (g i))), (4, .int (nI i)), (0, .ref mm), (1, .ref sm), (2, .int (nI 0)), (3, .int (nI v))]) hx hb dX11_count_64 hl (by decide) rfl (fun ls hl => ?_)
                have loop66 : ∀ (k66 : Nat) (k : Nat), (k ≤ 300) → (g i ≤ k + 1) → k < k66 → ∀ (H : Heap) (locs : List Loc), va_P D vwCl [(mm, .inr (10, [.ref nu, .ref zz, .ref on, .ref sm, .ref fw, .int tw])), (nu, .inl (cA, 2, .inr (.inr (.inr (.inr (rf2 na nc)))))), (na, .inl (cI, 20, .inl (fN g))), (nc, .inl (cI, 20, .inl (fN gb))), (zz, .inl (cI, 2, .inl (fN (sz2 n nb)))), (on, .inl (cB, 2, .inr (.inr (.inr (.inr (rf2 oa oc)))))), (oa, .inl (cL, 301, .inr (.inl u0))), (oc, .inl (cL, 301, .inr (.inl u1))), (sm, .inl (cL, 301, .inr (.inl (fL (dnP opW (g i) (ctP g v i) k))))), (fw, .inl (cI, 301, .inl uf))] H → va_D A [(mm, .inr (10, [.ref nu, .ref zz, .ref on, .ref sm, .ref fw, .int tw])), (nu, .inl (cA, 2, .inr (.inr (.inr (.inr (rf2 na nc)))))), (na, .inl (cI, 20, .inl (fN g))), (nc, .inl (cI, 20, .inl (fN gb))), (zz, .inl (cI, 2, .inl (fN (sz2 n nb)))), (on, .inl (cB, 2, .inr (.inr (.inr (.inr (rf2 oa oc)))))), (oa, .inl (cL, 301, .inr (.inl u0))), (oc, .inl (cL, 301, .inr (.inl u1))), (sm, .inl (cL, 301, .inr (.inl (fL (dnP opW (g i) (ctP g v i) k))))), (fw, .inl (cI, 301, .inl uf))] → va_S A s.heap H locs → ∀ ls : Array Slot, lv_has ls 7 [(6, .int (nI k)), (5, .int (nI (g i))), (4, .int (nI i)), (0, .ref mm), (1, .ref sm), (2, .int (nI 0)), (3, .int (nI v))] → W p l e R s m args below meth c H locs 0 0 Q (F0 m 66 ls []) := by
                  intro k66
                  induction k66 with
                  | zero => intro k hk hk2 hk; exact absurd hk (Nat.not_lt_zero _)
                  | succ k66 ih66 =>
                    intro k hk hk2 hk66 H locs hP hD hS ls hl
                    refine lv_iload hx hb dX11_count_66 (lv_at hl 0 rfl) ?_
                    refine lv_iload hx hb dX11_count_68 (lv_at hl 1 rfl) ?_
                    refine lv_icmp_lt (tgt := 93) hx hb dX11_count_70 (by decide) (fun c70 => ?_) (fun c70 => ?_)
                    · have c70 : k < g i := su_lt (by omega) (by omega) c70
                      refine lv_iinc (v := nI (i + 1)) (lv' := [(4, .int (nI (i + 1))), (6, .int (nI k)), (5, .int (nI (g i))), (0, .ref mm), (1, .ref sm), (2, .int (nI 0)), (3, .int (nI v))]) hx hb dX11_count_93 hl (k := 2) rfl (su_inc _) (by decide) rfl (fun ls hl => ?_)
                      refine lv_goto (tgt := 29) hx hb dX11_count_96 (by decide) ?_
                      obtain ⟨hP, hD⟩ := su_reL (q0 := 8) (fL (ctP g v (i + 1))) hP hD rfl (fun j _ => by rw [ctP_1 c58]; exact congrArg lN (dnP_T c70 j))
                      have hP : va_P D vwCl [(mm, .inr (10, [.ref nu, .ref zz, .ref on, .ref sm, .ref fw, .int tw])), (nu, .inl (cA, 2, .inr (.inr (.inr (.inr (rf2 na nc)))))), (na, .inl (cI, 20, .inl (fN g))), (nc, .inl (cI, 20, .inl (fN gb))), (zz, .inl (cI, 2, .inl (fN (sz2 n nb)))), (on, .inl (cB, 2, .inr (.inr (.inr (.inr (rf2 oa oc)))))), (oa, .inl (cL, 301, .inr (.inl u0))), (oc, .inl (cL, 301, .inr (.inl u1))), (sm, .inl (cL, 301, .inr (.inl (fL (ctP g v (i + 1)))))), (fw, .inl (cI, 301, .inl uf))] H := hP
                      have hD : va_D A [(mm, .inr (10, [.ref nu, .ref zz, .ref on, .ref sm, .ref fw, .int tw])), (nu, .inl (cA, 2, .inr (.inr (.inr (.inr (rf2 na nc)))))), (na, .inl (cI, 20, .inl (fN g))), (nc, .inl (cI, 20, .inl (fN gb))), (zz, .inl (cI, 2, .inl (fN (sz2 n nb)))), (on, .inl (cB, 2, .inr (.inr (.inr (.inr (rf2 oa oc)))))), (oa, .inl (cL, 301, .inr (.inl u0))), (oc, .inl (cL, 301, .inr (.inl u1))), (sm, .inl (cL, 301, .inr (.inl (fL (ctP g v (i + 1)))))), (fw, .inl (cI, 301, .inl uf))] := hD
                      exact ih29 (i + 1) (by omega) (by omega) _ _ hP hD hS _ (lv_sub hl [0, 3, 4, 5, 6] rfl)
                    · have c70 : g i ≤ k := su_nlt (by omega) (by omega) c70
                      refine lv_aload_n hx hb dX11_count_73 rfl (lv_at hl 4 rfl) ?_
                      refine lv_iload hx hb dX11_count_74 (lv_at hl 0 rfl) ?_
                      refine lv_dup2_11 hx hb dX11_count_76 rfl rfl ?_
                      refine su_lald hx hb hK hP 8 1 rfl rfl (i := k) (by omega) (by decide) (lN ((dnP opW (g i) (ctP g v i) k) k)) (rfl) dX11_count_77 ?_
                      refine lv_aload_n hx hb dX11_count_78 rfl (lv_at hl 4 rfl) ?_
                      refine lv_iload hx hb dX11_count_79 (lv_at hl 0 rfl) ?_
                      refine lv_iload hx hb dX11_count_81 (lv_at hl 1 rfl) ?_
                      refine lv_isub hx hb dX11_count_83 ?_
                      refine su_eqi (nI (k - (g i))) (pk_sub (by omega)) ?_
                      refine su_lald hx hb hK hP 8 1 rfl rfl (i := (k - (g i))) (by omega) (by decide) (lN ((dnP opW (g i) (ctP g v i) k) (k - (g i)))) (rfl) dX11_count_84 ?_
                      refine lv_ladd hx hb dX11_count_85 ?_
                      refine su_eql (lN ((dnP opW (g i) (ctP g v i) k) k + ((dnP opW (g i) (ctP g v i) k) (k - (g i))))) (lN_add _ _) ?_
                      refine su_last hx hb hK hP hD hS 8 1 rfl rfl (i := k) (by omega) (by decide) (fL (va_up (dnP opW (g i) (ctP g v i) k) k ((dnP opW (g i) (ctP g v i) k) k + ((dnP opW (g i) (ctP g v i) k) (k - (g i)))))) (fun j _ => su_upL _ _ _ j) dX11_count_86 (fun H locs hP hD hS => ?_)
                      have hP : va_P D vwCl [(mm, .inr (10, [.ref nu, .ref zz, .ref on, .ref sm, .ref fw, .int tw])), (nu, .inl (cA, 2, .inr (.inr (.inr (.inr (rf2 na nc)))))), (na, .inl (cI, 20, .inl (fN g))), (nc, .inl (cI, 20, .inl (fN gb))), (zz, .inl (cI, 2, .inl (fN (sz2 n nb)))), (on, .inl (cB, 2, .inr (.inr (.inr (.inr (rf2 oa oc)))))), (oa, .inl (cL, 301, .inr (.inl u0))), (oc, .inl (cL, 301, .inr (.inl u1))), (sm, .inl (cL, 301, .inr (.inl (fL (va_up (dnP opW (g i) (ctP g v i) k) k ((dnP opW (g i) (ctP g v i) k) k + ((dnP opW (g i) (ctP g v i) k) (k - (g i))))))))), (fw, .inl (cI, 301, .inl uf))] H := hP
                      have hD : va_D A [(mm, .inr (10, [.ref nu, .ref zz, .ref on, .ref sm, .ref fw, .int tw])), (nu, .inl (cA, 2, .inr (.inr (.inr (.inr (rf2 na nc)))))), (na, .inl (cI, 20, .inl (fN g))), (nc, .inl (cI, 20, .inl (fN gb))), (zz, .inl (cI, 2, .inl (fN (sz2 n nb)))), (on, .inl (cB, 2, .inr (.inr (.inr (.inr (rf2 oa oc)))))), (oa, .inl (cL, 301, .inr (.inl u0))), (oc, .inl (cL, 301, .inr (.inl u1))), (sm, .inl (cL, 301, .inr (.inl (fL (va_up (dnP opW (g i) (ctP g v i) k) k ((dnP opW (g i) (ctP g v i) k) k + ((dnP opW (g i) (ctP g v i) k) (k - (g i))))))))), (fw, .inl (cI, 301, .inl uf))] := hD
                      refine lv_iinc (v := nI (k - 1)) (lv' := [(6, .int (nI (k - 1))), (5, .int (nI (g i))), (4, .int (nI i)), (0, .ref mm), (1, .ref sm), (2, .int (nI 0)), (3, .int (nI v))]) hx hb dX11_count_87 hl (k := 0) rfl (sb_m1 (by omega)) (by decide) rfl (fun ls hl => ?_)
                      refine lv_goto (tgt := 66) hx hb dX11_count_90 (by decide) ?_
                      obtain ⟨hP, hD⟩ := su_reL (q0 := 8) (fL (dnP opW (g i) (ctP g v i) (k - 1))) hP hD rfl (fun j _ => congrArg lN (dnP_S hgi.1 c70 hk j))
                      have hP : va_P D vwCl [(mm, .inr (10, [.ref nu, .ref zz, .ref on, .ref sm, .ref fw, .int tw])), (nu, .inl (cA, 2, .inr (.inr (.inr (.inr (rf2 na nc)))))), (na, .inl (cI, 20, .inl (fN g))), (nc, .inl (cI, 20, .inl (fN gb))), (zz, .inl (cI, 2, .inl (fN (sz2 n nb)))), (on, .inl (cB, 2, .inr (.inr (.inr (.inr (rf2 oa oc)))))), (oa, .inl (cL, 301, .inr (.inl u0))), (oc, .inl (cL, 301, .inr (.inl u1))), (sm, .inl (cL, 301, .inr (.inl (fL (dnP opW (g i) (ctP g v i) (k - 1)))))), (fw, .inl (cI, 301, .inl uf))] H := hP
                      have hD : va_D A [(mm, .inr (10, [.ref nu, .ref zz, .ref on, .ref sm, .ref fw, .int tw])), (nu, .inl (cA, 2, .inr (.inr (.inr (.inr (rf2 na nc)))))), (na, .inl (cI, 20, .inl (fN g))), (nc, .inl (cI, 20, .inl (fN gb))), (zz, .inl (cI, 2, .inl (fN (sz2 n nb)))), (on, .inl (cB, 2, .inr (.inr (.inr (.inr (rf2 oa oc)))))), (oa, .inl (cL, 301, .inr (.inl u0))), (oc, .inl (cL, 301, .inr (.inl u1))), (sm, .inl (cL, 301, .inr (.inl (fL (dnP opW (g i) (ctP g v i) (k - 1)))))), (fw, .inl (cI, 301, .inl uf))] := hD
                      exact ih66 (k - 1) (by omega) (by omega) (by omega) _ _ hP hD hS _ (lv_sub hl [0, 1, 2, 3, 4, 5, 6] rfl)
                obtain ⟨hP, hD⟩ := su_reL (q0 := 8) (fL (dnP opW (g i) (ctP g v i) (300))) hP hD rfl (fun j _ => congrArg lN (dnP_0 j))
                have hP : va_P D vwCl [(mm, .inr (10, [.ref nu, .ref zz, .ref on, .ref sm, .ref fw, .int tw])), (nu, .inl (cA, 2, .inr (.inr (.inr (.inr (rf2 na nc)))))), (na, .inl (cI, 20, .inl (fN g))), (nc, .inl (cI, 20, .inl (fN gb))), (zz, .inl (cI, 2, .inl (fN (sz2 n nb)))), (on, .inl (cB, 2, .inr (.inr (.inr (.inr (rf2 oa oc)))))), (oa, .inl (cL, 301, .inr (.inl u0))), (oc, .inl (cL, 301, .inr (.inl u1))), (sm, .inl (cL, 301, .inr (.inl (fL (dnP opW (g i) (ctP g v i) (300)))))), (fw, .inl (cI, 301, .inl uf))] H := hP
                have hD : va_D A [(mm, .inr (10, [.ref nu, .ref zz, .ref on, .ref sm, .ref fw, .int tw])), (nu, .inl (cA, 2, .inr (.inr (.inr (.inr (rf2 na nc)))))), (na, .inl (cI, 20, .inl (fN g))), (nc, .inl (cI, 20, .inl (fN gb))), (zz, .inl (cI, 2, .inl (fN (sz2 n nb)))), (on, .inl (cB, 2, .inr (.inr (.inr (.inr (rf2 oa oc)))))), (oa, .inl (cL, 301, .inr (.inl u0))), (oc, .inl (cL, 301, .inr (.inl u1))), (sm, .inl (cL, 301, .inr (.inl (fL (dnP opW (g i) (ctP g v i) (300)))))), (fw, .inl (cI, 301, .inl uf))] := hD
                exact loop66 (((300)) + 1) (300) (by omega) (by omega) (by omega) _ _ hP hD hS _ (lv_sub hl [0, 1, 2, 3, 4, 5, 6] rfl)
        exact loop29 ((n - (0)) + 1) (0) (by omega) (by omega) _ _ hP hD hS _ (lv_sub hl [0, 1, 2, 3, 4] rfl)
      · have c8 : j ≤ 300 := su_nlt (by omega) (by omega) c8
        refine lv_aload_n hx hb dX11_count_11 rfl (lv_at hl 2 rfl) ?_
        refine lv_iload hx hb dX11_count_12 (lv_at hl 0 rfl) ?_
        refine lv_lconst (v := lN 0) hx hb dX11_count_14 (by decide) ?_
        refine su_last hx hb hK hP hD hS 8 1 rfl rfl (i := j) (by omega) (by decide) (va_up (zf us j) j (lN 0)) (fun _ _ => rfl) dX11_count_15 (fun H locs hP hD hS => ?_)
        have hP : va_P D vwCl [(mm, .inr (10, [.ref nu, .ref zz, .ref on, .ref sm, .ref fw, .int tw])), (nu, .inl (cA, 2, .inr (.inr (.inr (.inr (rf2 na nc)))))), (na, .inl (cI, 20, .inl (fN g))), (nc, .inl (cI, 20, .inl (fN gb))), (zz, .inl (cI, 2, .inl (fN (sz2 n nb)))), (on, .inl (cB, 2, .inr (.inr (.inr (.inr (rf2 oa oc)))))), (oa, .inl (cL, 301, .inr (.inl u0))), (oc, .inl (cL, 301, .inr (.inl u1))), (sm, .inl (cL, 301, .inr (.inl (va_up (zf us j) j (lN 0))))), (fw, .inl (cI, 301, .inl uf))] H := hP
        have hD : va_D A [(mm, .inr (10, [.ref nu, .ref zz, .ref on, .ref sm, .ref fw, .int tw])), (nu, .inl (cA, 2, .inr (.inr (.inr (.inr (rf2 na nc)))))), (na, .inl (cI, 20, .inl (fN g))), (nc, .inl (cI, 20, .inl (fN gb))), (zz, .inl (cI, 2, .inl (fN (sz2 n nb)))), (on, .inl (cB, 2, .inr (.inr (.inr (.inr (rf2 oa oc)))))), (oa, .inl (cL, 301, .inr (.inl u0))), (oc, .inl (cL, 301, .inr (.inl u1))), (sm, .inl (cL, 301, .inr (.inl (va_up (zf us j) j (lN 0))))), (fw, .inl (cI, 301, .inl uf))] := hD
        refine lv_iinc (v := nI (j + 1)) (lv' := [(4, .int (nI (j + 1))), (0, .ref mm), (1, .ref sm), (2, .int (nI 0)), (3, .int (nI v))]) hx hb dX11_count_16 hl (k := 0) rfl (su_inc _) (by decide) rfl (fun ls hl => ?_)
        refine lv_goto (tgt := 3) hx hb dX11_count_19 (by decide) ?_
        obtain ⟨hP, hD⟩ := su_reL (q0 := 8) (zf us (j + 1)) hP hD rfl (fun k _ => zfS hj k)
        have hP : va_P D vwCl [(mm, .inr (10, [.ref nu, .ref zz, .ref on, .ref sm, .ref fw, .int tw])), (nu, .inl (cA, 2, .inr (.inr (.inr (.inr (rf2 na nc)))))), (na, .inl (cI, 20, .inl (fN g))), (nc, .inl (cI, 20, .inl (fN gb))), (zz, .inl (cI, 2, .inl (fN (sz2 n nb)))), (on, .inl (cB, 2, .inr (.inr (.inr (.inr (rf2 oa oc)))))), (oa, .inl (cL, 301, .inr (.inl u0))), (oc, .inl (cL, 301, .inr (.inl u1))), (sm, .inl (cL, 301, .inr (.inl (zf us (j + 1))))), (fw, .inl (cI, 301, .inl uf))] H := hP
        have hD : va_D A [(mm, .inr (10, [.ref nu, .ref zz, .ref on, .ref sm, .ref fw, .int tw])), (nu, .inl (cA, 2, .inr (.inr (.inr (.inr (rf2 na nc)))))), (na, .inl (cI, 20, .inl (fN g))), (nc, .inl (cI, 20, .inl (fN gb))), (zz, .inl (cI, 2, .inl (fN (sz2 n nb)))), (on, .inl (cB, 2, .inr (.inr (.inr (.inr (rf2 oa oc)))))), (oa, .inl (cL, 301, .inr (.inl u0))), (oc, .inl (cL, 301, .inr (.inl u1))), (sm, .inl (cL, 301, .inr (.inl (zf us (j + 1))))), (fw, .inl (cI, 301, .inl uf))] := hD
        exact ih3 (j + 1) (by omega) (by omega) (by omega) _ _ hP hD hS _ (lv_sub hl [0, 1, 2, 3, 4] rfl)
  obtain ⟨hP, hD⟩ := su_reL (q0 := 8) (zf us (1)) hP hD rfl (fun k _ => zf0 k)
  have hP : va_P D vwCl [(mm, .inr (10, [.ref nu, .ref zz, .ref on, .ref sm, .ref fw, .int tw])), (nu, .inl (cA, 2, .inr (.inr (.inr (.inr (rf2 na nc)))))), (na, .inl (cI, 20, .inl (fN g))), (nc, .inl (cI, 20, .inl (fN gb))), (zz, .inl (cI, 2, .inl (fN (sz2 n nb)))), (on, .inl (cB, 2, .inr (.inr (.inr (.inr (rf2 oa oc)))))), (oa, .inl (cL, 301, .inr (.inl u0))), (oc, .inl (cL, 301, .inr (.inl u1))), (sm, .inl (cL, 301, .inr (.inl (zf us (1))))), (fw, .inl (cI, 301, .inl uf))] H := hP
  have hD : va_D A [(mm, .inr (10, [.ref nu, .ref zz, .ref on, .ref sm, .ref fw, .int tw])), (nu, .inl (cA, 2, .inr (.inr (.inr (.inr (rf2 na nc)))))), (na, .inl (cI, 20, .inl (fN g))), (nc, .inl (cI, 20, .inl (fN gb))), (zz, .inl (cI, 2, .inl (fN (sz2 n nb)))), (on, .inl (cB, 2, .inr (.inr (.inr (.inr (rf2 oa oc)))))), (oa, .inl (cL, 301, .inr (.inl u0))), (oc, .inl (cL, 301, .inr (.inl u1))), (sm, .inl (cL, 301, .inr (.inl (zf us (1))))), (fw, .inl (cI, 301, .inl uf))] := hD
  exact loop3 ((301 - (1)) + 1) (1) (by omega) (by omega) (by omega) _ _ hP hD hS _ (lv_sub hl [0, 1, 2, 3, 4] rfl)
set_option maxHeartbeats 4000000 in
set_option maxRecDepth 100000 in
theorem m_recounted0 (l : Launch) (D : va_G) (cI cL cZ : ClassId) (sz : Nat) (cA : ClassId) (cB : ClassId) (mm : Nat) (nu : Nat) (na : Nat) (nc : Nat) (zz : Nat) (on : Nat) (oa : Nat) (oc : Nat) (sm : Nat) (fw : Nat) (g : Nat → Nat) (n : Nat) (gb : Nat → Nat) (nb : Nat) (tw : Int32) (u0 : Nat → Int64) (u1 : Nat → Int64) (us : Nat → Int64) (uf : Nat → Int32) (hn : n ≤ 20) (hnb : nb ≤ 20) (hg : ∀ k, k < n → 1 ≤ g k ∧ g k ≤ 300) (hgb : ∀ k, k < nb → 1 ≤ gb k ∧ gb k ≤ 300) :
    Met l yX11_recounted (ws_ yX11_recounted cX11_recounted 2 (some .int)) { frames := 1, cells := 0, slots := 0, locals := 32 } (su_pre D (su_T5 cI cL cZ cA cB) sz [(mm, .inr (10, [.ref nu, .ref zz, .ref on, .ref sm, .ref fw, .int tw])), (nu, .inl (cA, 2, .inr (.inr (.inr (.inr (rf2 na nc)))))), (na, .inl (cI, 20, .inl (fN g))), (nc, .inl (cI, 20, .inl (fN gb))), (zz, .inl (cI, 2, .inl (fN (sz2 n nb)))), (on, .inl (cB, 2, .inr (.inr (.inr (.inr (rf2 oa oc)))))), (oa, .inl (cL, 301, .inr (.inl u0))), (oc, .inl (cL, 301, .inr (.inl u1))), (sm, .inl (cL, 301, .inr (.inl us))), (fw, .inl (cI, 301, .inl uf))] [.ref mm, .int (nI 0)]) (su_qi D (va_A [(mm, .inr (10, [.ref nu, .ref zz, .ref on, .ref sm, .ref fw, .int tw])), (nu, .inl (cA, 2, .inr (.inr (.inr (.inr (rf2 na nc)))))), (na, .inl (cI, 20, .inl (fN g))), (nc, .inl (cI, 20, .inl (fN gb))), (zz, .inl (cI, 2, .inl (fN (sz2 n nb)))), (on, .inl (cB, 2, .inr (.inr (.inr (.inr (rf2 oa oc)))))), (oa, .inl (cL, 301, .inr (.inl u0))), (oc, .inl (cL, 301, .inr (.inl u1))), (sm, .inl (cL, 301, .inr (.inl us))), (fw, .inl (cI, 301, .inl uf))] sz) (fun (r : Int32) (uu : Unit) => r = nI (nS g n)) (fun (uu : Unit) => [(mm, .inr (10, [.ref nu, .ref zz, .ref on, .ref sm, .ref fw, .int tw])), (nu, .inl (cA, 2, .inr (.inr (.inr (.inr (rf2 na nc)))))), (na, .inl (cI, 20, .inl (fN g))), (nc, .inl (cI, 20, .inl (fN gb))), (zz, .inl (cI, 2, .inl (fN (sz2 n nb)))), (on, .inl (cB, 2, .inr (.inr (.inr (.inr (rf2 oa oc)))))), (oa, .inl (cL, 301, .inr (.inl (fL (fiD opW f0W g n))))), (oc, .inl (cL, 301, .inr (.inl u1))), (sm, .inl (cL, 301, .inr (.inl us))), (fw, .inl (cI, 301, .inl uf))])) 0 0 (va_A [(mm, .inr (10, [.ref nu, .ref zz, .ref on, .ref sm, .ref fw, .int tw])), (nu, .inl (cA, 2, .inr (.inr (.inr (.inr (rf2 na nc)))))), (na, .inl (cI, 20, .inl (fN g))), (nc, .inl (cI, 20, .inl (fN gb))), (zz, .inl (cI, 2, .inl (fN (sz2 n nb)))), (on, .inl (cB, 2, .inr (.inr (.inr (.inr (rf2 oa oc)))))), (oa, .inl (cL, 301, .inr (.inl u0))), (oc, .inl (cL, 301, .inr (.inl u1))), (sm, .inl (cL, 301, .inr (.inl us))), (fw, .inl (cI, 301, .inl uf))] sz) := by
  refine su_met (y := yX11_recounted) (av := [.ref mm, .int (nI 0)]) (Qf := fun A => su_qi D A (fun (r : Int32) (uu : Unit) => r = nI (nS g n)) (fun (uu : Unit) => [(mm, .inr (10, [.ref nu, .ref zz, .ref on, .ref sm, .ref fw, .int tw])), (nu, .inl (cA, 2, .inr (.inr (.inr (.inr (rf2 na nc)))))), (na, .inl (cI, 20, .inl (fN g))), (nc, .inl (cI, 20, .inl (fN gb))), (zz, .inl (cI, 2, .inl (fN (sz2 n nb)))), (on, .inl (cB, 2, .inr (.inr (.inr (.inr (rf2 oa oc)))))), (oa, .inl (cL, 301, .inr (.inl (fL (fiD opW f0W g n))))), (oc, .inl (cL, 301, .inr (.inl u1))), (sm, .inl (cL, 301, .inr (.inl us))), (fw, .inl (cI, 301, .inl uf))])) (cc := cX11_recounted) (maxL := 2) (ret := (some .int)) (by decide) (Nat.le_of_ble_eq_true rfl) ?_
  intro p e s m args below meth c R Q A H locs ls hx hb hr hlocks hin hml hown hts hN hP hK hD hA hS hRm hQ hl
  have hown : s.vm.findClass RX11 = some m.cls := hown
  have hl : lv_has ls 2 [(0, .ref mm), (1, .int (nI 0))] := hl
  have hR1 : 1 ≤ R.frames := by rw [hRm]; exact Nat.le_of_ble_eq_true rfl
  have hR2 : 32 ≤ R.locals := by rw [hRm]; exact Nat.le_of_ble_eq_true rfl
  have hR3 : 0 ≤ R.cells := by rw [hRm]; exact Nat.le_of_ble_eq_true rfl
  have hR4 : 0 ≤ R.slots := by rw [hRm]; exact Nat.le_of_ble_eq_true rfl
  have k_1001 := hts _ q_1001
  have k_1000 := hts _ q_1000
  have hp20 : 2 ^ n ≤ 2 ^ 20 := Nat.pow_le_pow_right (by decide) hn
  have hp00 : 0 < 2 ^ n := Nat.two_pow_pos _
  refine lv_aload_n hx hb dX11_recounted_0 rfl (lv_at hl 0 rfl) ?_
  refine lv_aload_n hx hb dX11_recounted_1 rfl (lv_at hl 0 rfl) ?_
  refine va_get (D := D) (ci := 10) (v := .ref on) (C := RX11) (T := TX11) (N := 6) hx hb hts in_X11 hown hK hP 0 rfl rfl 2 (by decide) k_1001 (fun _ h9 => h9) rfl dX11_recounted_2 ?_
  refine lv_iload_n hx hb dX11_recounted_5 rfl (lv_at hl 1 rfl) ?_
  refine su_aald hx hb hK hP 5 4 rfl rfl (i := 0) (by decide) (by decide) (oa) rfl dX11_recounted_6 ?_
  refine lv_iload_n hx hb dX11_recounted_7 rfl (lv_at hl 1 rfl) ?_
  refine lv_iconst (v := nI 1) hx hb dX11_recounted_8 (by decide) ?_
  refine lv_aload_n hx hb dX11_recounted_9 rfl (lv_at hl 0 rfl) ?_
  refine va_get (D := D) (ci := 10) (v := .ref zz) (C := RX11) (T := TX11) (N := 6) hx hb hts in_X11 hown hK hP 0 rfl rfl 1 (by decide) k_1000 (fun _ h9 => h9) rfl dX11_recounted_10 ?_
  refine lv_iload_n hx hb dX11_recounted_13 rfl (lv_at hl 1 rfl) ?_
  refine su_iald hx hb hK hP 4 0 rfl rfl (i := 0) (by decide) (by decide) (nI n) (rfl) dX11_recounted_14 ?_
  refine lv_ishl hx hb dX11_recounted_15 ?_
  refine su_eqi (nI (2 ^ n)) (su_1shl _ hn) ?_
  refine lv_iconst (v := nI 1) hx hb dX11_recounted_16 (by decide) ?_
  refine lv_isub hx hb dX11_recounted_17 ?_
  refine su_eqi (nI ((2 ^ n) - 1)) (pk_sub (by omega)) ?_
  refine su_cv (wr := []) (va_runV (As := [.ref oa, .int (nI 0), .int (nI ((2 ^ n) - 1))]) (rest := []) ⟨hx, hb, hml, hown, hts⟩ (m_count0o l D cI cL cZ H.size (cA) (cB) (mm) (nu) (na) (nc) (zz) (on) (oa) (oc) (sm) (fw) (g) (n) (gb) (nb) (tw) (u0) (u1) (us) (uf) (2 ^ n - 1) (hn) (hnb) (hg) (hgb) (by omega)) (cwV 3 hts (lw_gV q_1052 q_1054 q_21 q_42 q_1055) rfl rfl rfl (by decide +kernel) ⟨Nat.le_trans (Nat.le_of_ble_eq_true rfl) hR1, Nat.le_trans (Nat.le_of_ble_eq_true rfl) hR2⟩) (su_pv hN hK hP hD [0, 1, 2, 3, 4, 5, 6, 7, 8, 9] [0, 1, 2, 3, 4] rfl rfl rfl (ci := 10) (q0 := 0) rfl rfl rfl) rfl rfl hl.1 rfl (lv_room (Nat.le_of_ble_eq_true rfl)) dX11_recounted_18 ⟨Nat.le_trans (Nat.le_of_ble_eq_true rfl) hR3, Nat.le_trans (Nat.le_of_ble_eq_true rfl) hR4⟩) hP hD hS hA [0, 1, 2, 3, 4, 5, 6, 7, 8, 9] [] rfl rfl (by decide) (by decide) (fun uu H locs hw hP hD hS => ?_)
  have hP : va_P D vwCl [(mm, .inr (10, [.ref nu, .ref zz, .ref on, .ref sm, .ref fw, .int tw])), (nu, .inl (cA, 2, .inr (.inr (.inr (.inr (rf2 na nc)))))), (na, .inl (cI, 20, .inl (fN g))), (nc, .inl (cI, 20, .inl (fN gb))), (zz, .inl (cI, 2, .inl (fN (sz2 n nb)))), (on, .inl (cB, 2, .inr (.inr (.inr (.inr (rf2 oa oc)))))), (oa, .inl (cL, 301, .inr (.inl (fL (ctP g (2 ^ n - 1) n))))), (oc, .inl (cL, 301, .inr (.inl u1))), (sm, .inl (cL, 301, .inr (.inl us))), (fw, .inl (cI, 301, .inl uf))] H := hP
  have hD : va_D A [(mm, .inr (10, [.ref nu, .ref zz, .ref on, .ref sm, .ref fw, .int tw])), (nu, .inl (cA, 2, .inr (.inr (.inr (.inr (rf2 na nc)))))), (na, .inl (cI, 20, .inl (fN g))), (nc, .inl (cI, 20, .inl (fN gb))), (zz, .inl (cI, 2, .inl (fN (sz2 n nb)))), (on, .inl (cB, 2, .inr (.inr (.inr (.inr (rf2 oa oc)))))), (oa, .inl (cL, 301, .inr (.inl (fL (ctP g (2 ^ n - 1) n))))), (oc, .inl (cL, 301, .inr (.inl u1))), (sm, .inl (cL, 301, .inr (.inl us))), (fw, .inl (cI, 301, .inl uf))] := hD
  obtain ⟨hP, hD⟩ := su_reL (q0 := 6) (fL (fiD opW f0W g n)) hP hD rfl (fun j _ => by rw [ctP_top])
  have hP : va_P D vwCl [(mm, .inr (10, [.ref nu, .ref zz, .ref on, .ref sm, .ref fw, .int tw])), (nu, .inl (cA, 2, .inr (.inr (.inr (.inr (rf2 na nc)))))), (na, .inl (cI, 20, .inl (fN g))), (nc, .inl (cI, 20, .inl (fN gb))), (zz, .inl (cI, 2, .inl (fN (sz2 n nb)))), (on, .inl (cB, 2, .inr (.inr (.inr (.inr (rf2 oa oc)))))), (oa, .inl (cL, 301, .inr (.inl (fL (fiD opW f0W g n))))), (oc, .inl (cL, 301, .inr (.inl u1))), (sm, .inl (cL, 301, .inr (.inl us))), (fw, .inl (cI, 301, .inl uf))] H := hP
  have hD : va_D A [(mm, .inr (10, [.ref nu, .ref zz, .ref on, .ref sm, .ref fw, .int tw])), (nu, .inl (cA, 2, .inr (.inr (.inr (.inr (rf2 na nc)))))), (na, .inl (cI, 20, .inl (fN g))), (nc, .inl (cI, 20, .inl (fN gb))), (zz, .inl (cI, 2, .inl (fN (sz2 n nb)))), (on, .inl (cB, 2, .inr (.inr (.inr (.inr (rf2 oa oc)))))), (oa, .inl (cL, 301, .inr (.inl (fL (fiD opW f0W g n))))), (oc, .inl (cL, 301, .inr (.inl u1))), (sm, .inl (cL, 301, .inr (.inl us))), (fw, .inl (cI, 301, .inl uf))] := hD
  refine lv_aload_n hx hb dX11_recounted_21 rfl (lv_at hl 0 rfl) ?_
  refine va_get (D := D) (ci := 10) (v := .ref on) (C := RX11) (T := TX11) (N := 6) hx hb hts in_X11 hown hK hP 0 rfl rfl 2 (by decide) k_1001 (fun _ h9 => h9) rfl dX11_recounted_22 ?_
  refine lv_iload_n hx hb dX11_recounted_25 rfl (lv_at hl 1 rfl) ?_
  refine su_aald hx hb hK hP 5 4 rfl rfl (i := 0) (by decide) (by decide) (oa) rfl dX11_recounted_26 ?_
  refine su_ci (wr := [(mm, .inr (10, [.ref nu, .ref zz, .ref on, .ref sm, .ref fw, .int tw])), (nu, .inl (cA, 2, .inr (.inr (.inr (.inr (rf2 na nc)))))), (na, .inl (cI, 20, .inl (fN g))), (nc, .inl (cI, 20, .inl (fN gb))), (zz, .inl (cI, 2, .inl (fN (sz2 n nb)))), (on, .inl (cB, 2, .inr (.inr (.inr (.inr (rf2 oa oc)))))), (oc, .inl (cL, 301, .inr (.inl u1))), (sm, .inl (cL, 301, .inr (.inl us))), (fw, .inl (cI, 301, .inl uf))]) (va_runS (As := [.ref oa]) (rest := []) ⟨hx, hb, hml, hown, hts⟩ (m_above l D cI cL cZ H.size (cA) (cB) (oa) (fiD opW f0W g n) (fun q9 => cW_63 hn)) (va_cwS 1 hts (lw_gS q_1056 q_1057 q_42 q_1058) rfl rfl rfl (by decide +kernel) ⟨Nat.le_trans (Nat.le_of_ble_eq_true rfl) hR1, Nat.le_trans (Nat.le_of_ble_eq_true rfl) hR2⟩) (su_ps hN hK hP hD [6] [0, 1, 2, 3, 4] rfl rfl rfl) rfl rfl hl.1 rfl (lv_room (Nat.le_of_ble_eq_true rfl)) dX11_recounted_27 ⟨Nat.le_trans (Nat.le_of_ble_eq_true rfl) hR3, Nat.le_trans (Nat.le_of_ble_eq_true rfl) hR4⟩) hP hD hS hA [6] [0, 1, 2, 3, 4, 5, 7, 8, 9] rfl rfl (by decide) (by decide) (fun r uu H locs hw hP hD hS => ?_)
  obtain rfl : r = nI (su_ct (fun s => decide (0 < (fiD opW f0W g n) s)) 301) := hw
  have hP : va_P D vwCl [(mm, .inr (10, [.ref nu, .ref zz, .ref on, .ref sm, .ref fw, .int tw])), (nu, .inl (cA, 2, .inr (.inr (.inr (.inr (rf2 na nc)))))), (na, .inl (cI, 20, .inl (fN g))), (nc, .inl (cI, 20, .inl (fN gb))), (zz, .inl (cI, 2, .inl (fN (sz2 n nb)))), (on, .inl (cB, 2, .inr (.inr (.inr (.inr (rf2 oa oc)))))), (oc, .inl (cL, 301, .inr (.inl u1))), (sm, .inl (cL, 301, .inr (.inl us))), (fw, .inl (cI, 301, .inl uf)), (oa, .inl (cL, 301, .inr (.inl (fL (fiD opW f0W g n)))))] H := hP
  have hD : va_D A [(mm, .inr (10, [.ref nu, .ref zz, .ref on, .ref sm, .ref fw, .int tw])), (nu, .inl (cA, 2, .inr (.inr (.inr (.inr (rf2 na nc)))))), (na, .inl (cI, 20, .inl (fN g))), (nc, .inl (cI, 20, .inl (fN gb))), (zz, .inl (cI, 2, .inl (fN (sz2 n nb)))), (on, .inl (cB, 2, .inr (.inr (.inr (.inr (rf2 oa oc)))))), (oc, .inl (cL, 301, .inr (.inl u1))), (sm, .inl (cL, 301, .inr (.inl us))), (fw, .inl (cI, 301, .inl uf)), (oa, .inl (cL, 301, .inr (.inl (fL (fiD opW f0W g n)))))] := hD
  refine su_eqi (nI (nS g n)) (rfl) ?_
  rw [hQ]
  exact su_ei hx hb hr hlocks hS dX11_recounted_30 () (rfl) (hP.sub [0, 1, 2, 3, 4, 5, 9, 6, 7, 8] rfl) (hD.sub [0, 1, 2, 3, 4, 5, 9, 6, 7, 8] (by decide) rfl)
set_option maxHeartbeats 4000000 in
set_option maxRecDepth 100000 in
theorem m_mark0 (l : Launch) (D : va_G) (cI cL cZ : ClassId) (sz : Nat) (cA : ClassId) (cB : ClassId) (mm : Nat) (nu : Nat) (na : Nat) (nc : Nat) (zz : Nat) (on : Nat) (oa : Nat) (oc : Nat) (sm : Nat) (fw : Nat) (g : Nat → Nat) (n : Nat) (gb : Nat → Nat) (nb : Nat) (tw : Int32) (u0 : Nat → Int64) (u1 : Nat → Int64) (us : Nat → Int64) (uf : Nat → Int32) (hn : n ≤ 20) (hnb : nb ≤ 20) (hg : ∀ k, k < n → 1 ≤ g k ∧ g k ≤ 300) (hgb : ∀ k, k < nb → 1 ≤ gb k ∧ gb k ≤ 300) :
    Met l yX11_mark (ws_ yX11_mark cX11_mark 5 none) { frames := 0, cells := 0, slots := 0, locals := 0 } (su_pre D (su_T5 cI cL cZ cA cB) sz [(mm, .inr (10, [.ref nu, .ref zz, .ref on, .ref sm, .ref fw, .int tw])), (nu, .inl (cA, 2, .inr (.inr (.inr (.inr (rf2 na nc)))))), (na, .inl (cI, 20, .inl (fN g))), (nc, .inl (cI, 20, .inl (fN gb))), (zz, .inl (cI, 2, .inl (fN (sz2 n nb)))), (on, .inl (cB, 2, .inr (.inr (.inr (.inr (rf2 oa oc)))))), (oa, .inl (cL, 301, .inr (.inl u0))), (oc, .inl (cL, 301, .inr (.inl u1))), (sm, .inl (cL, 301, .inr (.inl us))), (fw, .inl (cI, 301, .inl uf))] [.ref mm, .int (nI 0)]) (su_qv D (va_A [(mm, .inr (10, [.ref nu, .ref zz, .ref on, .ref sm, .ref fw, .int tw])), (nu, .inl (cA, 2, .inr (.inr (.inr (.inr (rf2 na nc)))))), (na, .inl (cI, 20, .inl (fN g))), (nc, .inl (cI, 20, .inl (fN gb))), (zz, .inl (cI, 2, .inl (fN (sz2 n nb)))), (on, .inl (cB, 2, .inr (.inr (.inr (.inr (rf2 oa oc)))))), (oa, .inl (cL, 301, .inr (.inl u0))), (oc, .inl (cL, 301, .inr (.inl u1))), (sm, .inl (cL, 301, .inr (.inl us))), (fw, .inl (cI, 301, .inl uf))] sz) (fun (uu : Unit) => True) (fun (uu : Unit) => [(mm, .inr (10, [.ref nu, .ref zz, .ref on, .ref sm, .ref fw, .int tw])), (nu, .inl (cA, 2, .inr (.inr (.inr (.inr (rf2 na nc)))))), (na, .inl (cI, 20, .inl (fN g))), (nc, .inl (cI, 20, .inl (fN gb))), (zz, .inl (cI, 2, .inl (fN (sz2 n nb)))), (on, .inl (cB, 2, .inr (.inr (.inr (.inr (rf2 oa oc)))))), (oa, .inl (cL, 301, .inr (.inl u0))), (oc, .inl (cL, 301, .inr (.inl u1))), (sm, .inl (cL, 301, .inr (.inl us))), (fw, .inl (cI, 301, .inl (fN (fiD opP f0W g n))))])) 0 0 (va_A [(mm, .inr (10, [.ref nu, .ref zz, .ref on, .ref sm, .ref fw, .int tw])), (nu, .inl (cA, 2, .inr (.inr (.inr (.inr (rf2 na nc)))))), (na, .inl (cI, 20, .inl (fN g))), (nc, .inl (cI, 20, .inl (fN gb))), (zz, .inl (cI, 2, .inl (fN (sz2 n nb)))), (on, .inl (cB, 2, .inr (.inr (.inr (.inr (rf2 oa oc)))))), (oa, .inl (cL, 301, .inr (.inl u0))), (oc, .inl (cL, 301, .inr (.inl u1))), (sm, .inl (cL, 301, .inr (.inl us))), (fw, .inl (cI, 301, .inl uf))] sz) := by
  refine su_met (y := yX11_mark) (av := [.ref mm, .int (nI 0)]) (Qf := fun A => su_qv D A (fun (uu : Unit) => True) (fun (uu : Unit) => [(mm, .inr (10, [.ref nu, .ref zz, .ref on, .ref sm, .ref fw, .int tw])), (nu, .inl (cA, 2, .inr (.inr (.inr (.inr (rf2 na nc)))))), (na, .inl (cI, 20, .inl (fN g))), (nc, .inl (cI, 20, .inl (fN gb))), (zz, .inl (cI, 2, .inl (fN (sz2 n nb)))), (on, .inl (cB, 2, .inr (.inr (.inr (.inr (rf2 oa oc)))))), (oa, .inl (cL, 301, .inr (.inl u0))), (oc, .inl (cL, 301, .inr (.inl u1))), (sm, .inl (cL, 301, .inr (.inl us))), (fw, .inl (cI, 301, .inl (fN (fiD opP f0W g n))))])) (cc := cX11_mark) (maxL := 5) (ret := none) (by decide) (Nat.le_of_ble_eq_true rfl) ?_
  intro p e s m args below meth c R Q A H locs ls hx hb hr hlocks hin hml hown hts hN hP hK hD hA hS hRm hQ hl
  have hown : s.vm.findClass RX11 = some m.cls := hown
  have hl : lv_has ls 5 [(0, .ref mm), (1, .int (nI 0))] := hl
  have hR3 : 0 ≤ R.cells := by rw [hRm]; exact Nat.le_of_ble_eq_true rfl
  have hR4 : 0 ≤ R.slots := by rw [hRm]; exact Nat.le_of_ble_eq_true rfl
  have k_1000 := hts _ q_1000
  have k_999 := hts _ q_999
  have k_1003 := hts _ q_1003
  refine lv_iconst (v := nI 0) hx hb dX11_mark_0 (by decide) ?_
  refine lv_istore_n (lv' := [(2, .int (nI 0)), (0, .ref mm), (1, .int (nI 0))]) hx hb dX11_mark_1 rfl hl (by decide) rfl (fun ls hl => ?_)
  have loop2 : ∀ (k2 : Nat) (j : Nat), (j ≤ 301) → 301 - j < k2 → ∀ (H : Heap) (locs : List Loc), va_P D vwCl [(mm, .inr (10, [.ref nu, .ref zz, .ref on, .ref sm, .ref fw, .int tw])), (nu, .inl (cA, 2, .inr (.inr (.inr (.inr (rf2 na nc)))))), (na, .inl (cI, 20, .inl (fN g))), (nc, .inl (cI, 20, .inl (fN gb))), (zz, .inl (cI, 2, .inl (fN (sz2 n nb)))), (on, .inl (cB, 2, .inr (.inr (.inr (.inr (rf2 oa oc)))))), (oa, .inl (cL, 301, .inr (.inl u0))), (oc, .inl (cL, 301, .inr (.inl u1))), (sm, .inl (cL, 301, .inr (.inl us))), (fw, .inl (cI, 301, .inl (su_fl (fN f0W) uf j)))] H → va_D A [(mm, .inr (10, [.ref nu, .ref zz, .ref on, .ref sm, .ref fw, .int tw])), (nu, .inl (cA, 2, .inr (.inr (.inr (.inr (rf2 na nc)))))), (na, .inl (cI, 20, .inl (fN g))), (nc, .inl (cI, 20, .inl (fN gb))), (zz, .inl (cI, 2, .inl (fN (sz2 n nb)))), (on, .inl (cB, 2, .inr (.inr (.inr (.inr (rf2 oa oc)))))), (oa, .inl (cL, 301, .inr (.inl u0))), (oc, .inl (cL, 301, .inr (.inl u1))), (sm, .inl (cL, 301, .inr (.inl us))), (fw, .inl (cI, 301, .inl (su_fl (fN f0W) uf j)))] → va_S A s.heap H locs → ∀ ls : Array Slot, lv_has ls 5 [(2, .int (nI j)), (0, .ref mm), (1, .int (nI 0))] → W p l e R s m args below meth c H locs 0 0 Q (F0 m 2 ls []) := by
    intro k2
    induction k2 with
    | zero => intro j hj2 hk; exact absurd hk (Nat.not_lt_zero _)
    | succ k2 ih2 =>
      intro j hj2 hk2 H locs hP hD hS ls hl
      refine lv_iload_n hx hb dX11_mark_2 rfl (lv_at hl 0 rfl) ?_
      refine lv_sipush (v := nI 300) hx hb dX11_mark_3 (by decide) ?_
      refine lv_icmp_gt (tgt := 30) hx hb dX11_mark_6 (by decide) (fun c6 => ?_) (fun c6 => ?_)
      · have c6 : 300 < j := su_lt (by omega) (by omega) c6
        refine lv_iconst (v := nI 0) hx hb dX11_mark_30 (by decide) ?_
        refine lv_istore_n (lv' := [(2, .int (nI 0)), (0, .ref mm), (1, .int (nI 0))]) hx hb dX11_mark_31 rfl hl (by decide) rfl (fun ls hl => ?_)
        have loop32 : ∀ (k32 : Nat) (i : Nat), (i ≤ n) → n - i < k32 → ∀ (H : Heap) (locs : List Loc), va_P D vwCl [(mm, .inr (10, [.ref nu, .ref zz, .ref on, .ref sm, .ref fw, .int tw])), (nu, .inl (cA, 2, .inr (.inr (.inr (.inr (rf2 na nc)))))), (na, .inl (cI, 20, .inl (fN g))), (nc, .inl (cI, 20, .inl (fN gb))), (zz, .inl (cI, 2, .inl (fN (sz2 n nb)))), (on, .inl (cB, 2, .inr (.inr (.inr (.inr (rf2 oa oc)))))), (oa, .inl (cL, 301, .inr (.inl u0))), (oc, .inl (cL, 301, .inr (.inl u1))), (sm, .inl (cL, 301, .inr (.inl us))), (fw, .inl (cI, 301, .inl (fN (fiD opP f0W g i))))] H → va_D A [(mm, .inr (10, [.ref nu, .ref zz, .ref on, .ref sm, .ref fw, .int tw])), (nu, .inl (cA, 2, .inr (.inr (.inr (.inr (rf2 na nc)))))), (na, .inl (cI, 20, .inl (fN g))), (nc, .inl (cI, 20, .inl (fN gb))), (zz, .inl (cI, 2, .inl (fN (sz2 n nb)))), (on, .inl (cB, 2, .inr (.inr (.inr (.inr (rf2 oa oc)))))), (oa, .inl (cL, 301, .inr (.inl u0))), (oc, .inl (cL, 301, .inr (.inl u1))), (sm, .inl (cL, 301, .inr (.inl us))), (fw, .inl (cI, 301, .inl (fN (fiD opP f0W g i))))] → va_S A s.heap H locs → ∀ ls : Array Slot, lv_has ls 5 [(2, .int (nI i)), (0, .ref mm), (1, .int (nI 0))] → W p l e R s m args below meth c H locs 0 0 Q (F0 m 32 ls []) := by
          intro k32
          induction k32 with
          | zero => intro i hi hk; exact absurd hk (Nat.not_lt_zero _)
          | succ k32 ih32 =>
            intro i hi hk32 H locs hP hD hS ls hl
            refine lv_iload_n hx hb dX11_mark_32 rfl (lv_at hl 0 rfl) ?_
            refine lv_aload_n hx hb dX11_mark_33 rfl (lv_at hl 1 rfl) ?_
            refine va_get (D := D) (ci := 10) (v := .ref zz) (C := RX11) (T := TX11) (N := 6) hx hb hts in_X11 hown hK hP 0 rfl rfl 1 (by decide) k_1000 (fun _ h9 => h9) rfl dX11_mark_34 ?_
            refine lv_iload_n hx hb dX11_mark_37 rfl (lv_at hl 2 rfl) ?_
            refine su_iald hx hb hK hP 4 0 rfl rfl (i := 0) (by decide) (by decide) (nI n) (rfl) dX11_mark_38 ?_
            refine lv_icmp_ge (tgt := 95) hx hb dX11_mark_39 (by decide) (fun c39 => ?_) (fun c39 => ?_)
            · have c39 : n ≤ i := su_ge (by omega) (by omega) c39
              obtain ⟨hP, hD⟩ := su_reI (q0 := 9) (fN (fiD opP f0W g n)) hP hD rfl (fun j _ => by rw [show n = i by omega])
              have hP : va_P D vwCl [(mm, .inr (10, [.ref nu, .ref zz, .ref on, .ref sm, .ref fw, .int tw])), (nu, .inl (cA, 2, .inr (.inr (.inr (.inr (rf2 na nc)))))), (na, .inl (cI, 20, .inl (fN g))), (nc, .inl (cI, 20, .inl (fN gb))), (zz, .inl (cI, 2, .inl (fN (sz2 n nb)))), (on, .inl (cB, 2, .inr (.inr (.inr (.inr (rf2 oa oc)))))), (oa, .inl (cL, 301, .inr (.inl u0))), (oc, .inl (cL, 301, .inr (.inl u1))), (sm, .inl (cL, 301, .inr (.inl us))), (fw, .inl (cI, 301, .inl (fN (fiD opP f0W g n))))] H := hP
              have hD : va_D A [(mm, .inr (10, [.ref nu, .ref zz, .ref on, .ref sm, .ref fw, .int tw])), (nu, .inl (cA, 2, .inr (.inr (.inr (.inr (rf2 na nc)))))), (na, .inl (cI, 20, .inl (fN g))), (nc, .inl (cI, 20, .inl (fN gb))), (zz, .inl (cI, 2, .inl (fN (sz2 n nb)))), (on, .inl (cB, 2, .inr (.inr (.inr (.inr (rf2 oa oc)))))), (oa, .inl (cL, 301, .inr (.inl u0))), (oc, .inl (cL, 301, .inr (.inl u1))), (sm, .inl (cL, 301, .inr (.inl us))), (fw, .inl (cI, 301, .inl (fN (fiD opP f0W g n))))] := hD
              rw [hQ]
              exact su_ev hx hb hr hlocks hS dX11_mark_95 () (trivial) hP hD
            · have c39 : i < n := su_nge (by omega) (by omega) c39
              refine lv_aload_n hx hb dX11_mark_42 rfl (lv_at hl 1 rfl) ?_
              refine va_get (D := D) (ci := 10) (v := .ref nu) (C := RX11) (T := TX11) (N := 6) hx hb hts in_X11 hown hK hP 0 rfl rfl 0 (by decide) k_999 (fun _ h9 => h9) rfl dX11_mark_43 ?_
              refine lv_iload_n hx hb dX11_mark_46 rfl (lv_at hl 2 rfl) ?_
              refine su_aald hx hb hK hP 1 3 rfl rfl (i := 0) (by decide) (by decide) (na) rfl dX11_mark_47 ?_
              refine lv_iload_n hx hb dX11_mark_48 rfl (lv_at hl 0 rfl) ?_
              refine su_iald hx hb hK hP 2 0 rfl rfl (i := i) (by omega) (by decide) (nI (g i)) (rfl) dX11_mark_49 ?_
              refine lv_istore_n (lv' := [(3, .int (nI (g i))), (2, .int (nI i)), (0, .ref mm), (1, .int (nI 0))]) hx hb dX11_mark_50 rfl hl (by decide) rfl (fun ls hl => ?_)
              have hgi := hg i c39
              refine lv_sipush (v := nI 300) hx hb dX11_mark_51 (by decide) ?_
              refine lv_istore (lv' := [(4, .int (nI 300)), (3, .int (nI (g i))), (2, .int (nI i)), (0, .ref mm), (1, .int (nI 0))]) hx hb dX11_mark_54 hl (by decide) rfl (fun ls hl => ?_)
              have loop56 : ∀ (k56 : Nat) (k : Nat), (k ≤ 300) → (g i ≤ k + 1) → k < k56 → ∀ (H : Heap) (locs : List Loc), va_P D vwCl [(mm, .inr (10, [.ref nu, .ref zz, .ref on, .ref sm, .ref fw, .int tw])), (nu, .inl (cA, 2, .inr (.inr (.inr (.inr (rf2 na nc)))))), (na, .inl (cI, 20, .inl (fN g))), (nc, .inl (cI, 20, .inl (fN gb))), (zz, .inl (cI, 2, .inl (fN (sz2 n nb)))), (on, .inl (cB, 2, .inr (.inr (.inr (.inr (rf2 oa oc)))))), (oa, .inl (cL, 301, .inr (.inl u0))), (oc, .inl (cL, 301, .inr (.inl u1))), (sm, .inl (cL, 301, .inr (.inl us))), (fw, .inl (cI, 301, .inl (fN (dnP opP (g i) (fiD opP f0W g i) k))))] H → va_D A [(mm, .inr (10, [.ref nu, .ref zz, .ref on, .ref sm, .ref fw, .int tw])), (nu, .inl (cA, 2, .inr (.inr (.inr (.inr (rf2 na nc)))))), (na, .inl (cI, 20, .inl (fN g))), (nc, .inl (cI, 20, .inl (fN gb))), (zz, .inl (cI, 2, .inl (fN (sz2 n nb)))), (on, .inl (cB, 2, .inr (.inr (.inr (.inr (rf2 oa oc)))))), (oa, .inl (cL, 301, .inr (.inl u0))), (oc, .inl (cL, 301, .inr (.inl u1))), (sm, .inl (cL, 301, .inr (.inl us))), (fw, .inl (cI, 301, .inl (fN (dnP opP (g i) (fiD opP f0W g i) k))))] → va_S A s.heap H locs → ∀ ls : Array Slot, lv_has ls 5 [(4, .int (nI k)), (3, .int (nI (g i))), (2, .int (nI i)), (0, .ref mm), (1, .int (nI 0))] → W p l e R s m args below meth c H locs 0 0 Q (F0 m 56 ls []) := by
                intro k56
                induction k56 with
                | zero => intro k hk hk2 hk; exact absurd hk (Nat.not_lt_zero _)
                | succ k56 ih56 =>
                  intro k hk hk2 hk56 H locs hP hD hS ls hl
                  refine lv_iload hx hb dX11_mark_56 (lv_at hl 0 rfl) ?_
                  refine lv_iload_n hx hb dX11_mark_58 rfl (lv_at hl 1 rfl) ?_
                  refine lv_icmp_lt (tgt := 89) hx hb dX11_mark_59 (by decide) (fun c59 => ?_) (fun c59 => ?_)
                  · have c59 : k < g i := su_lt (by omega) (by omega) c59
                    refine lv_iinc (v := nI (i + 1)) (lv' := [(2, .int (nI (i + 1))), (4, .int (nI k)), (3, .int (nI (g i))), (0, .ref mm), (1, .int (nI 0))]) hx hb dX11_mark_89 hl (k := 2) rfl (su_inc _) (by decide) rfl (fun ls hl => ?_)
                    refine lv_goto (tgt := 32) hx hb dX11_mark_92 (by decide) ?_
                    obtain ⟨hP, hD⟩ := su_reI (q0 := 9) (fN (fiD opP f0W g (i + 1))) hP hD rfl (fun j _ => congrArg nI (dnP_T c59 j))
                    have hP : va_P D vwCl [(mm, .inr (10, [.ref nu, .ref zz, .ref on, .ref sm, .ref fw, .int tw])), (nu, .inl (cA, 2, .inr (.inr (.inr (.inr (rf2 na nc)))))), (na, .inl (cI, 20, .inl (fN g))), (nc, .inl (cI, 20, .inl (fN gb))), (zz, .inl (cI, 2, .inl (fN (sz2 n nb)))), (on, .inl (cB, 2, .inr (.inr (.inr (.inr (rf2 oa oc)))))), (oa, .inl (cL, 301, .inr (.inl u0))), (oc, .inl (cL, 301, .inr (.inl u1))), (sm, .inl (cL, 301, .inr (.inl us))), (fw, .inl (cI, 301, .inl (fN (fiD opP f0W g (i + 1)))))] H := hP
                    have hD : va_D A [(mm, .inr (10, [.ref nu, .ref zz, .ref on, .ref sm, .ref fw, .int tw])), (nu, .inl (cA, 2, .inr (.inr (.inr (.inr (rf2 na nc)))))), (na, .inl (cI, 20, .inl (fN g))), (nc, .inl (cI, 20, .inl (fN gb))), (zz, .inl (cI, 2, .inl (fN (sz2 n nb)))), (on, .inl (cB, 2, .inr (.inr (.inr (.inr (rf2 oa oc)))))), (oa, .inl (cL, 301, .inr (.inl u0))), (oc, .inl (cL, 301, .inr (.inl u1))), (sm, .inl (cL, 301, .inr (.inl us))), (fw, .inl (cI, 301, .inl (fN (fiD opP f0W g (i + 1)))))] := hD
                    exact ih32 (i + 1) (by omega) (by omega) _ _ hP hD hS _ (lv_sub hl [0, 3, 4] rfl)
                  · have c59 : g i ≤ k := su_nlt (by omega) (by omega) c59
                    refine lv_aload_n hx hb dX11_mark_62 rfl (lv_at hl 3 rfl) ?_
                    refine va_get (D := D) (ci := 10) (v := .ref fw) (C := RX11) (T := TX11) (N := 6) hx hb hts in_X11 hown hK hP 0 rfl rfl 4 (by decide) k_1003 (fun _ h9 => h9) rfl dX11_mark_63 ?_
                    refine lv_iload hx hb dX11_mark_66 (lv_at hl 0 rfl) ?_
                    refine lv_dup2_11 hx hb dX11_mark_68 rfl rfl ?_
                    refine su_iald hx hb hK hP 9 0 rfl rfl (i := k) (by omega) (by decide) (nI ((dnP opP (g i) (fiD opP f0W g i) k) k)) (rfl) dX11_mark_69 ?_
                    refine lv_aload_n hx hb dX11_mark_70 rfl (lv_at hl 3 rfl) ?_
                    refine va_get (D := D) (ci := 10) (v := .ref fw) (C := RX11) (T := TX11) (N := 6) hx hb hts in_X11 hown hK hP 0 rfl rfl 4 (by decide) k_1003 (fun _ h9 => h9) rfl dX11_mark_71 ?_
                    refine lv_iload hx hb dX11_mark_74 (lv_at hl 0 rfl) ?_
                    refine lv_iload_n hx hb dX11_mark_76 rfl (lv_at hl 1 rfl) ?_
                    refine lv_isub hx hb dX11_mark_77 ?_
                    refine su_eqi (nI (k - (g i))) (pk_sub (by omega)) ?_
                    refine su_iald hx hb hK hP 9 0 rfl rfl (i := (k - (g i))) (by omega) (by decide) (nI ((dnP opP (g i) (fiD opP f0W g i) k) (k - (g i)))) (rfl) dX11_mark_78 ?_
                    refine lv_iconst (v := nI 1) hx hb dX11_mark_79 (by decide) ?_
                    refine lv_ishl hx hb dX11_mark_80 ?_
                    refine su_eqi (nI (dnP opP (g i) (fiD opP f0W g i) k (k - g i) * 2)) (su_shl1 _) ?_
                    refine lv_ior hx hb dX11_mark_81 ?_
                    refine su_eqi (nI (opP (dnP opP (g i) (fiD opP f0W g i) k k) (dnP opP (g i) (fiD opP f0W g i) k (k - g i)))) (su_or32 _ _) ?_
                    refine su_iast hx hb hK hP hD hS 9 0 rfl rfl (i := k) (by omega) (by decide) (fN (va_up (dnP opP (g i) (fiD opP f0W g i) k) k (opP (dnP opP (g i) (fiD opP f0W g i) k k) (dnP opP (g i) (fiD opP f0W g i) k (k - g i))))) (fun j _ => su_upN _ _ _ j) dX11_mark_82 (fun H locs hP hD hS => ?_)
                    have hP : va_P D vwCl [(mm, .inr (10, [.ref nu, .ref zz, .ref on, .ref sm, .ref fw, .int tw])), (nu, .inl (cA, 2, .inr (.inr (.inr (.inr (rf2 na nc)))))), (na, .inl (cI, 20, .inl (fN g))), (nc, .inl (cI, 20, .inl (fN gb))), (zz, .inl (cI, 2, .inl (fN (sz2 n nb)))), (on, .inl (cB, 2, .inr (.inr (.inr (.inr (rf2 oa oc)))))), (oa, .inl (cL, 301, .inr (.inl u0))), (oc, .inl (cL, 301, .inr (.inl u1))), (sm, .inl (cL, 301, .inr (.inl us))), (fw, .inl (cI, 301, .inl (fN (va_up (dnP opP (g i) (fiD opP f0W g i) k) k (opP (dnP opP (g i) (fiD opP f0W g i) k k) (dnP opP (g i) (fiD opP f0W g i) k (k - g i)))))))] H := hP
                    have hD : va_D A [(mm, .inr (10, [.ref nu, .ref zz, .ref on, .ref sm, .ref fw, .int tw])), (nu, .inl (cA, 2, .inr (.inr (.inr (.inr (rf2 na nc)))))), (na, .inl (cI, 20, .inl (fN g))), (nc, .inl (cI, 20, .inl (fN gb))), (zz, .inl (cI, 2, .inl (fN (sz2 n nb)))), (on, .inl (cB, 2, .inr (.inr (.inr (.inr (rf2 oa oc)))))), (oa, .inl (cL, 301, .inr (.inl u0))), (oc, .inl (cL, 301, .inr (.inl u1))), (sm, .inl (cL, 301, .inr (.inl us))), (fw, .inl (cI, 301, .inl (fN (va_up (dnP opP (g i) (fiD opP f0W g i) k) k (opP (dnP opP (g i) (fiD opP f0W g i) k k) (dnP opP (g i) (fiD opP f0W g i) k (k - g i)))))))] := hD
                    refine lv_iinc (v := nI (k - 1)) (lv' := [(4, .int (nI (k - 1))), (3, .int (nI (g i))), (2, .int (nI i)), (0, .ref mm), (1, .int (nI 0))]) hx hb dX11_mark_83 hl (k := 0) rfl (sb_m1 (by omega)) (by decide) rfl (fun ls hl => ?_)
                    refine lv_goto (tgt := 56) hx hb dX11_mark_86 (by decide) ?_
                    obtain ⟨hP, hD⟩ := su_reI (q0 := 9) (fN (dnP opP (g i) (fiD opP f0W g i) (k - 1))) hP hD rfl (fun j _ => congrArg nI (dnP_S hgi.1 c59 hk j))
                    have hP : va_P D vwCl [(mm, .inr (10, [.ref nu, .ref zz, .ref on, .ref sm, .ref fw, .int tw])), (nu, .inl (cA, 2, .inr (.inr (.inr (.inr (rf2 na nc)))))), (na, .inl (cI, 20, .inl (fN g))), (nc, .inl (cI, 20, .inl (fN gb))), (zz, .inl (cI, 2, .inl (fN (sz2 n nb)))), (on, .inl (cB, 2, .inr (.inr (.inr (.inr (rf2 oa oc)))))), (oa, .inl (cL, 301, .inr (.inl u0))), (oc, .inl (cL, 301, .inr (.inl u1))), (sm, .inl (cL, 301, .inr (.inl us))), (fw, .inl (cI, 301, .inl (fN (dnP opP (g i) (fiD opP f0W g i) (k - 1)))))] H := hP
                    have hD : va_D A [(mm, .inr (10, [.ref nu, .ref zz, .ref on, .ref sm, .ref fw, .int tw])), (nu, .inl (cA, 2, .inr (.inr (.inr (.inr (rf2 na nc)))))), (na, .inl (cI, 20, .inl (fN g))), (nc, .inl (cI, 20, .inl (fN gb))), (zz, .inl (cI, 2, .inl (fN (sz2 n nb)))), (on, .inl (cB, 2, .inr (.inr (.inr (.inr (rf2 oa oc)))))), (oa, .inl (cL, 301, .inr (.inl u0))), (oc, .inl (cL, 301, .inr (.inl u1))), (sm, .inl (cL, 301, .inr (.inl us))), (fw, .inl (cI, 301, .inl (fN (dnP opP (g i) (fiD opP f0W g i) (k - 1)))))] := hD
                    exact ih56 (k - 1) (by omega) (by omega) (by omega) _ _ hP hD hS _ (lv_sub hl [0, 1, 2, 3, 4] rfl)
              obtain ⟨hP, hD⟩ := su_reI (q0 := 9) (fN (dnP opP (g i) (fiD opP f0W g i) (300))) hP hD rfl (fun j _ => congrArg nI (dnP_0 j))
              have hP : va_P D vwCl [(mm, .inr (10, [.ref nu, .ref zz, .ref on, .ref sm, .ref fw, .int tw])), (nu, .inl (cA, 2, .inr (.inr (.inr (.inr (rf2 na nc)))))), (na, .inl (cI, 20, .inl (fN g))), (nc, .inl (cI, 20, .inl (fN gb))), (zz, .inl (cI, 2, .inl (fN (sz2 n nb)))), (on, .inl (cB, 2, .inr (.inr (.inr (.inr (rf2 oa oc)))))), (oa, .inl (cL, 301, .inr (.inl u0))), (oc, .inl (cL, 301, .inr (.inl u1))), (sm, .inl (cL, 301, .inr (.inl us))), (fw, .inl (cI, 301, .inl (fN (dnP opP (g i) (fiD opP f0W g i) (300)))))] H := hP
              have hD : va_D A [(mm, .inr (10, [.ref nu, .ref zz, .ref on, .ref sm, .ref fw, .int tw])), (nu, .inl (cA, 2, .inr (.inr (.inr (.inr (rf2 na nc)))))), (na, .inl (cI, 20, .inl (fN g))), (nc, .inl (cI, 20, .inl (fN gb))), (zz, .inl (cI, 2, .inl (fN (sz2 n nb)))), (on, .inl (cB, 2, .inr (.inr (.inr (.inr (rf2 oa oc)))))), (oa, .inl (cL, 301, .inr (.inl u0))), (oc, .inl (cL, 301, .inr (.inl u1))), (sm, .inl (cL, 301, .inr (.inl us))), (fw, .inl (cI, 301, .inl (fN (dnP opP (g i) (fiD opP f0W g i) (300)))))] := hD
              exact loop56 (((300)) + 1) (300) (by omega) (by omega) (by omega) _ _ hP hD hS _ (lv_sub hl [0, 1, 2, 3, 4] rfl)
        obtain ⟨hP, hD⟩ := su_reI (q0 := 9) (fN (fiD opP f0W g (0))) hP hD rfl (fun j _ => su_flN (by omega))
        have hP : va_P D vwCl [(mm, .inr (10, [.ref nu, .ref zz, .ref on, .ref sm, .ref fw, .int tw])), (nu, .inl (cA, 2, .inr (.inr (.inr (.inr (rf2 na nc)))))), (na, .inl (cI, 20, .inl (fN g))), (nc, .inl (cI, 20, .inl (fN gb))), (zz, .inl (cI, 2, .inl (fN (sz2 n nb)))), (on, .inl (cB, 2, .inr (.inr (.inr (.inr (rf2 oa oc)))))), (oa, .inl (cL, 301, .inr (.inl u0))), (oc, .inl (cL, 301, .inr (.inl u1))), (sm, .inl (cL, 301, .inr (.inl us))), (fw, .inl (cI, 301, .inl (fN (fiD opP f0W g (0)))))] H := hP
        have hD : va_D A [(mm, .inr (10, [.ref nu, .ref zz, .ref on, .ref sm, .ref fw, .int tw])), (nu, .inl (cA, 2, .inr (.inr (.inr (.inr (rf2 na nc)))))), (na, .inl (cI, 20, .inl (fN g))), (nc, .inl (cI, 20, .inl (fN gb))), (zz, .inl (cI, 2, .inl (fN (sz2 n nb)))), (on, .inl (cB, 2, .inr (.inr (.inr (.inr (rf2 oa oc)))))), (oa, .inl (cL, 301, .inr (.inl u0))), (oc, .inl (cL, 301, .inr (.inl u1))), (sm, .inl (cL, 301, .inr (.inl us))), (fw, .inl (cI, 301, .inl (fN (fiD opP f0W g (0)))))] := hD
        exact loop32 ((n - (0)) + 1) (0) (by omega) (by omega) _ _ hP hD hS _ (lv_sub hl [0, 1, 2] rfl)
      · have c6 : j ≤ 300 := su_nlt (by omega) (by omega) c6
        refine lv_aload_n hx hb dX11_mark_9 rfl (lv_at hl 1 rfl) ?_
        refine va_get (D := D) (ci := 10) (v := .ref fw) (C := RX11) (T := TX11) (N := 6) hx hb hts in_X11 hown hK hP 0 rfl rfl 4 (by decide) k_1003 (fun _ h9 => h9) rfl dX11_mark_10 ?_
        refine lv_iload_n hx hb dX11_mark_13 rfl (lv_at hl 0 rfl) ?_
        refine lv_iload_n hx hb dX11_mark_14 rfl (lv_at hl 0 rfl) ?_
        refine lv_if_ne (tgt := 22) hx hb dX11_mark_15 (by decide) (fun c15 => ?_) (fun c15 => ?_)
        · have c15 : j ≠ 0 := su_nz c15
          refine lv_iconst (v := nI 0) hx hb dX11_mark_22 (by decide) ?_
          refine su_iast hx hb hK hP hD hS 9 0 rfl rfl (i := j) (by omega) (by decide) (va_up (su_fl (fN f0W) uf j) j (nI 0)) (fun _ _ => rfl) dX11_mark_23 (fun H locs hP hD hS => ?_)
          have hP : va_P D vwCl [(mm, .inr (10, [.ref nu, .ref zz, .ref on, .ref sm, .ref fw, .int tw])), (nu, .inl (cA, 2, .inr (.inr (.inr (.inr (rf2 na nc)))))), (na, .inl (cI, 20, .inl (fN g))), (nc, .inl (cI, 20, .inl (fN gb))), (zz, .inl (cI, 2, .inl (fN (sz2 n nb)))), (on, .inl (cB, 2, .inr (.inr (.inr (.inr (rf2 oa oc)))))), (oa, .inl (cL, 301, .inr (.inl u0))), (oc, .inl (cL, 301, .inr (.inl u1))), (sm, .inl (cL, 301, .inr (.inl us))), (fw, .inl (cI, 301, .inl (va_up (su_fl (fN f0W) uf j) j (nI 0))))] H := hP
          have hD : va_D A [(mm, .inr (10, [.ref nu, .ref zz, .ref on, .ref sm, .ref fw, .int tw])), (nu, .inl (cA, 2, .inr (.inr (.inr (.inr (rf2 na nc)))))), (na, .inl (cI, 20, .inl (fN g))), (nc, .inl (cI, 20, .inl (fN gb))), (zz, .inl (cI, 2, .inl (fN (sz2 n nb)))), (on, .inl (cB, 2, .inr (.inr (.inr (.inr (rf2 oa oc)))))), (oa, .inl (cL, 301, .inr (.inl u0))), (oc, .inl (cL, 301, .inr (.inl u1))), (sm, .inl (cL, 301, .inr (.inl us))), (fw, .inl (cI, 301, .inl (va_up (su_fl (fN f0W) uf j) j (nI 0))))] := hD
          refine lv_iinc (v := nI (j + 1)) (lv' := [(2, .int (nI (j + 1))), (0, .ref mm), (1, .int (nI 0))]) hx hb dX11_mark_24 hl (k := 0) rfl (su_inc _) (by decide) rfl (fun ls hl => ?_)
          refine lv_goto (tgt := 2) hx hb dX11_mark_27 (by decide) ?_
          obtain ⟨hP, hD⟩ := su_reI (q0 := 9) (su_fl (fN f0W) uf (j + 1)) hP hD rfl (fun k _ => su_flS (by first | exact be_P1 c15 | exact be_P0 c15) k)
          have hP : va_P D vwCl [(mm, .inr (10, [.ref nu, .ref zz, .ref on, .ref sm, .ref fw, .int tw])), (nu, .inl (cA, 2, .inr (.inr (.inr (.inr (rf2 na nc)))))), (na, .inl (cI, 20, .inl (fN g))), (nc, .inl (cI, 20, .inl (fN gb))), (zz, .inl (cI, 2, .inl (fN (sz2 n nb)))), (on, .inl (cB, 2, .inr (.inr (.inr (.inr (rf2 oa oc)))))), (oa, .inl (cL, 301, .inr (.inl u0))), (oc, .inl (cL, 301, .inr (.inl u1))), (sm, .inl (cL, 301, .inr (.inl us))), (fw, .inl (cI, 301, .inl (su_fl (fN f0W) uf (j + 1))))] H := hP
          have hD : va_D A [(mm, .inr (10, [.ref nu, .ref zz, .ref on, .ref sm, .ref fw, .int tw])), (nu, .inl (cA, 2, .inr (.inr (.inr (.inr (rf2 na nc)))))), (na, .inl (cI, 20, .inl (fN g))), (nc, .inl (cI, 20, .inl (fN gb))), (zz, .inl (cI, 2, .inl (fN (sz2 n nb)))), (on, .inl (cB, 2, .inr (.inr (.inr (.inr (rf2 oa oc)))))), (oa, .inl (cL, 301, .inr (.inl u0))), (oc, .inl (cL, 301, .inr (.inl u1))), (sm, .inl (cL, 301, .inr (.inl us))), (fw, .inl (cI, 301, .inl (su_fl (fN f0W) uf (j + 1))))] := hD
          exact ih2 (j + 1) (by omega) (by omega) _ _ hP hD hS _ (lv_sub hl [0, 1, 2] rfl)
        · have c15 : j = 0 := su_z (by omega) c15
          refine lv_iconst (v := nI 1) hx hb dX11_mark_18 (by decide) ?_
          refine lv_goto (tgt := 23) hx hb dX11_mark_19 (by decide) ?_
          refine su_iast hx hb hK hP hD hS 9 0 rfl rfl (i := j) (by omega) (by decide) (va_up (su_fl (fN f0W) uf j) j (nI 1)) (fun _ _ => rfl) dX11_mark_23 (fun H locs hP hD hS => ?_)
          have hP : va_P D vwCl [(mm, .inr (10, [.ref nu, .ref zz, .ref on, .ref sm, .ref fw, .int tw])), (nu, .inl (cA, 2, .inr (.inr (.inr (.inr (rf2 na nc)))))), (na, .inl (cI, 20, .inl (fN g))), (nc, .inl (cI, 20, .inl (fN gb))), (zz, .inl (cI, 2, .inl (fN (sz2 n nb)))), (on, .inl (cB, 2, .inr (.inr (.inr (.inr (rf2 oa oc)))))), (oa, .inl (cL, 301, .inr (.inl u0))), (oc, .inl (cL, 301, .inr (.inl u1))), (sm, .inl (cL, 301, .inr (.inl us))), (fw, .inl (cI, 301, .inl (va_up (su_fl (fN f0W) uf j) j (nI 1))))] H := hP
          have hD : va_D A [(mm, .inr (10, [.ref nu, .ref zz, .ref on, .ref sm, .ref fw, .int tw])), (nu, .inl (cA, 2, .inr (.inr (.inr (.inr (rf2 na nc)))))), (na, .inl (cI, 20, .inl (fN g))), (nc, .inl (cI, 20, .inl (fN gb))), (zz, .inl (cI, 2, .inl (fN (sz2 n nb)))), (on, .inl (cB, 2, .inr (.inr (.inr (.inr (rf2 oa oc)))))), (oa, .inl (cL, 301, .inr (.inl u0))), (oc, .inl (cL, 301, .inr (.inl u1))), (sm, .inl (cL, 301, .inr (.inl us))), (fw, .inl (cI, 301, .inl (va_up (su_fl (fN f0W) uf j) j (nI 1))))] := hD
          refine lv_iinc (v := nI (j + 1)) (lv' := [(2, .int (nI (j + 1))), (0, .ref mm), (1, .int (nI 0))]) hx hb dX11_mark_24 hl (k := 0) rfl (su_inc _) (by decide) rfl (fun ls hl => ?_)
          refine lv_goto (tgt := 2) hx hb dX11_mark_27 (by decide) ?_
          obtain ⟨hP, hD⟩ := su_reI (q0 := 9) (su_fl (fN f0W) uf (j + 1)) hP hD rfl (fun k _ => su_flS (by first | exact be_P1 c15 | exact be_P0 c15) k)
          have hP : va_P D vwCl [(mm, .inr (10, [.ref nu, .ref zz, .ref on, .ref sm, .ref fw, .int tw])), (nu, .inl (cA, 2, .inr (.inr (.inr (.inr (rf2 na nc)))))), (na, .inl (cI, 20, .inl (fN g))), (nc, .inl (cI, 20, .inl (fN gb))), (zz, .inl (cI, 2, .inl (fN (sz2 n nb)))), (on, .inl (cB, 2, .inr (.inr (.inr (.inr (rf2 oa oc)))))), (oa, .inl (cL, 301, .inr (.inl u0))), (oc, .inl (cL, 301, .inr (.inl u1))), (sm, .inl (cL, 301, .inr (.inl us))), (fw, .inl (cI, 301, .inl (su_fl (fN f0W) uf (j + 1))))] H := hP
          have hD : va_D A [(mm, .inr (10, [.ref nu, .ref zz, .ref on, .ref sm, .ref fw, .int tw])), (nu, .inl (cA, 2, .inr (.inr (.inr (.inr (rf2 na nc)))))), (na, .inl (cI, 20, .inl (fN g))), (nc, .inl (cI, 20, .inl (fN gb))), (zz, .inl (cI, 2, .inl (fN (sz2 n nb)))), (on, .inl (cB, 2, .inr (.inr (.inr (.inr (rf2 oa oc)))))), (oa, .inl (cL, 301, .inr (.inl u0))), (oc, .inl (cL, 301, .inr (.inl u1))), (sm, .inl (cL, 301, .inr (.inl us))), (fw, .inl (cI, 301, .inl (su_fl (fN f0W) uf (j + 1))))] := hD
          exact ih2 (j + 1) (by omega) (by omega) _ _ hP hD hS _ (lv_sub hl [0, 1, 2] rfl)
  obtain ⟨hP, hD⟩ := su_reI (q0 := 9) (su_fl (fN f0W) uf (0)) hP hD rfl (fun k _ => su_fl0 k)
  have hP : va_P D vwCl [(mm, .inr (10, [.ref nu, .ref zz, .ref on, .ref sm, .ref fw, .int tw])), (nu, .inl (cA, 2, .inr (.inr (.inr (.inr (rf2 na nc)))))), (na, .inl (cI, 20, .inl (fN g))), (nc, .inl (cI, 20, .inl (fN gb))), (zz, .inl (cI, 2, .inl (fN (sz2 n nb)))), (on, .inl (cB, 2, .inr (.inr (.inr (.inr (rf2 oa oc)))))), (oa, .inl (cL, 301, .inr (.inl u0))), (oc, .inl (cL, 301, .inr (.inl u1))), (sm, .inl (cL, 301, .inr (.inl us))), (fw, .inl (cI, 301, .inl (su_fl (fN f0W) uf (0))))] H := hP
  have hD : va_D A [(mm, .inr (10, [.ref nu, .ref zz, .ref on, .ref sm, .ref fw, .int tw])), (nu, .inl (cA, 2, .inr (.inr (.inr (.inr (rf2 na nc)))))), (na, .inl (cI, 20, .inl (fN g))), (nc, .inl (cI, 20, .inl (fN gb))), (zz, .inl (cI, 2, .inl (fN (sz2 n nb)))), (on, .inl (cB, 2, .inr (.inr (.inr (.inr (rf2 oa oc)))))), (oa, .inl (cL, 301, .inr (.inl u0))), (oc, .inl (cL, 301, .inr (.inl u1))), (sm, .inl (cL, 301, .inr (.inl us))), (fw, .inl (cI, 301, .inl (su_fl (fN f0W) uf (0))))] := hD
  exact loop2 ((301 - (0)) + 1) (0) (by omega) (by omega) _ _ hP hD hS _ (lv_sub hl [0, 1, 2] rfl)
set_option maxHeartbeats 4000000 in
set_option maxRecDepth 100000 in
theorem m_tellD0 (l : Launch) (D : va_G) (cI cL cZ : ClassId) (sz : Nat) (cA : ClassId) (cB : ClassId) (mm : Nat) (nu : Nat) (na : Nat) (nc : Nat) (zz : Nat) (on : Nat) (oa : Nat) (oc : Nat) (sm : Nat) (fw : Nat) (g : Nat → Nat) (n : Nat) (gb : Nat → Nat) (nb : Nat) (tw : Int32) (u0 : Nat → Int64) (u1 : Nat → Int64) (us : Nat → Int64) (uf : Nat → Int32) (hn : n ≤ 20) (hnb : nb ≤ 20) (hg : ∀ k, k < n → 1 ≤ g k ∧ g k ≤ 300) (hgb : ∀ k, k < nb → 1 ≤ gb k ∧ gb k ≤ 300) :
    Met l yX11_tell (ws_ yX11_tell cX11_tell 6 none) { frames := 1, cells := 0, slots := 0, locals := 30 } (su_pre D (su_T5 cI cL cZ cA cB) sz [(mm, .inr (10, [.ref nu, .ref zz, .ref on, .ref sm, .ref fw, .int tw])), (nu, .inl (cA, 2, .inr (.inr (.inr (.inr (rf2 na nc)))))), (na, .inl (cI, 20, .inl (fN g))), (nc, .inl (cI, 20, .inl (fN gb))), (zz, .inl (cI, 2, .inl (fN (sz2 n nb)))), (on, .inl (cB, 2, .inr (.inr (.inr (.inr (rf2 oa oc)))))), (oa, .inl (cL, 301, .inr (.inl u0))), (oc, .inl (cL, 301, .inr (.inl u1))), (sm, .inl (cL, 301, .inr (.inl us))), (fw, .inl (cI, 301, .inl uf))] [.ref mm, .int (nI 0), .int (bI false)]) (su_qv D (va_A [(mm, .inr (10, [.ref nu, .ref zz, .ref on, .ref sm, .ref fw, .int tw])), (nu, .inl (cA, 2, .inr (.inr (.inr (.inr (rf2 na nc)))))), (na, .inl (cI, 20, .inl (fN g))), (nc, .inl (cI, 20, .inl (fN gb))), (zz, .inl (cI, 2, .inl (fN (sz2 n nb)))), (on, .inl (cB, 2, .inr (.inr (.inr (.inr (rf2 oa oc)))))), (oa, .inl (cL, 301, .inr (.inl u0))), (oc, .inl (cL, 301, .inr (.inl u1))), (sm, .inl (cL, 301, .inr (.inl us))), (fw, .inl (cI, 301, .inl uf))] sz) (fun (uu : Unit) => True) (fun (uu : Unit) => [(mm, .inr (10, [.ref nu, .ref zz, .ref on, .ref sm, .ref fw, .int tw])), (nu, .inl (cA, 2, .inr (.inr (.inr (.inr (rf2 na nc)))))), (na, .inl (cI, 20, .inl (fN g))), (nc, .inl (cI, 20, .inl (fN gb))), (zz, .inl (cI, 2, .inl (fN (sz2 n nb)))), (on, .inl (cB, 2, .inr (.inr (.inr (.inr (rf2 oa oc)))))), (oa, .inl (cL, 301, .inr (.inl u0))), (oc, .inl (cL, 301, .inr (.inl u1))), (sm, .inl (cL, 301, .inr (.inl us))), (fw, .inl (cI, 301, .inl (fwI (fiD opF f0F g n))))])) 0 0 (va_A [(mm, .inr (10, [.ref nu, .ref zz, .ref on, .ref sm, .ref fw, .int tw])), (nu, .inl (cA, 2, .inr (.inr (.inr (.inr (rf2 na nc)))))), (na, .inl (cI, 20, .inl (fN g))), (nc, .inl (cI, 20, .inl (fN gb))), (zz, .inl (cI, 2, .inl (fN (sz2 n nb)))), (on, .inl (cB, 2, .inr (.inr (.inr (.inr (rf2 oa oc)))))), (oa, .inl (cL, 301, .inr (.inl u0))), (oc, .inl (cL, 301, .inr (.inl u1))), (sm, .inl (cL, 301, .inr (.inl us))), (fw, .inl (cI, 301, .inl uf))] sz) := by
  refine su_met (y := yX11_tell) (av := [.ref mm, .int (nI 0), .int (bI false)]) (Qf := fun A => su_qv D A (fun (uu : Unit) => True) (fun (uu : Unit) => [(mm, .inr (10, [.ref nu, .ref zz, .ref on, .ref sm, .ref fw, .int tw])), (nu, .inl (cA, 2, .inr (.inr (.inr (.inr (rf2 na nc)))))), (na, .inl (cI, 20, .inl (fN g))), (nc, .inl (cI, 20, .inl (fN gb))), (zz, .inl (cI, 2, .inl (fN (sz2 n nb)))), (on, .inl (cB, 2, .inr (.inr (.inr (.inr (rf2 oa oc)))))), (oa, .inl (cL, 301, .inr (.inl u0))), (oc, .inl (cL, 301, .inr (.inl u1))), (sm, .inl (cL, 301, .inr (.inl us))), (fw, .inl (cI, 301, .inl (fwI (fiD opF f0F g n))))])) (cc := cX11_tell) (maxL := 6) (ret := none) (by decide) (Nat.le_of_ble_eq_true rfl) ?_
  intro p e s m args below meth c R Q A H locs ls hx hb hr hlocks hin hml hown hts hN hP hK hD hA hS hRm hQ hl
  have hown : s.vm.findClass RX11 = some m.cls := hown
  have hl : lv_has ls 6 [(0, .ref mm), (1, .int (nI 0)), (2, .int (bI false))] := hl
  have hR1 : 1 ≤ R.frames := by rw [hRm]; exact Nat.le_of_ble_eq_true rfl
  have hR2 : 30 ≤ R.locals := by rw [hRm]; exact Nat.le_of_ble_eq_true rfl
  have hR3 : 0 ≤ R.cells := by rw [hRm]; exact Nat.le_of_ble_eq_true rfl
  have hR4 : 0 ≤ R.slots := by rw [hRm]; exact Nat.le_of_ble_eq_true rfl
  have k_1003 := hts _ q_1003
  refine lv_iload_n hx hb dX11_tell_0 rfl (lv_at hl 2 rfl) ?_
  refine lv_if_ne (tgt := 74) hx hb dX11_tell_1 (by decide) (fun c1 => ?_) (fun c1 => ?_)
  · have c1 : false = true := bI_n c1
    exact absurd c1 (by decide)
  · have c1 : false = false := bI_e c1
    refine lv_aload_n hx hb dX11_tell_4 rfl (lv_at hl 0 rfl) ?_
    refine lv_iload_n hx hb dX11_tell_5 rfl (lv_at hl 1 rfl) ?_
    refine su_cv (wr := []) (va_runV (As := [.int (nI 0)]) (rest := []) ⟨hx, hb, hml, hown, hts⟩ (m_mark0 l D cI cL cZ H.size (cA) (cB) (mm) (nu) (na) (nc) (zz) (on) (oa) (oc) (sm) (fw) (g) (n) (gb) (nb) (tw) (u0) (u1) (us) (uf) (hn) (hnb) (hg) (hgb)) (cwV 1 hts (lw_gV q_1115 q_1117 q_25 q_42 q_1118) rfl rfl rfl (by decide +kernel) ⟨Nat.le_trans (Nat.le_of_ble_eq_true rfl) hR1, Nat.le_trans (Nat.le_of_ble_eq_true rfl) hR2⟩) (su_pv hN hK hP hD [0, 1, 2, 3, 4, 5, 6, 7, 8, 9] [0, 1, 2, 3, 4] rfl rfl rfl (ci := 10) (q0 := 0) rfl rfl rfl) rfl rfl hl.1 rfl (lv_room (Nat.le_of_ble_eq_true rfl)) dX11_tell_6 ⟨Nat.le_trans (Nat.le_of_ble_eq_true rfl) hR3, Nat.le_trans (Nat.le_of_ble_eq_true rfl) hR4⟩) hP hD hS hA [0, 1, 2, 3, 4, 5, 6, 7, 8, 9] [] rfl rfl (by decide) (by decide) (fun uu H locs hw hP hD hS => ?_)
    have hP : va_P D vwCl [(mm, .inr (10, [.ref nu, .ref zz, .ref on, .ref sm, .ref fw, .int tw])), (nu, .inl (cA, 2, .inr (.inr (.inr (.inr (rf2 na nc)))))), (na, .inl (cI, 20, .inl (fN g))), (nc, .inl (cI, 20, .inl (fN gb))), (zz, .inl (cI, 2, .inl (fN (sz2 n nb)))), (on, .inl (cB, 2, .inr (.inr (.inr (.inr (rf2 oa oc)))))), (oa, .inl (cL, 301, .inr (.inl u0))), (oc, .inl (cL, 301, .inr (.inl u1))), (sm, .inl (cL, 301, .inr (.inl us))), (fw, .inl (cI, 301, .inl (fN (fiD opP f0W g n))))] H := hP
    have hD : va_D A [(mm, .inr (10, [.ref nu, .ref zz, .ref on, .ref sm, .ref fw, .int tw])), (nu, .inl (cA, 2, .inr (.inr (.inr (.inr (rf2 na nc)))))), (na, .inl (cI, 20, .inl (fN g))), (nc, .inl (cI, 20, .inl (fN gb))), (zz, .inl (cI, 2, .inl (fN (sz2 n nb)))), (on, .inl (cB, 2, .inr (.inr (.inr (.inr (rf2 oa oc)))))), (oa, .inl (cL, 301, .inr (.inl u0))), (oc, .inl (cL, 301, .inr (.inl u1))), (sm, .inl (cL, 301, .inr (.inl us))), (fw, .inl (cI, 301, .inl (fN (fiD opP f0W g n))))] := hD
    refine lv_iconst (v := nI 0) hx hb dX11_tell_9 (by decide) ?_
    refine lv_istore_n (lv' := [(3, .int (nI 0)), (0, .ref mm), (1, .int (nI 0)), (2, .int (bI false))]) hx hb dX11_tell_10 rfl hl (by decide) rfl (fun ls hl => ?_)
    have loop11 : ∀ (k11 : Nat) (i : Nat), (i ≤ 301) → 301 - i < k11 → ∀ (H : Heap) (locs : List Loc), va_P D vwCl [(mm, .inr (10, [.ref nu, .ref zz, .ref on, .ref sm, .ref fw, .int tw])), (nu, .inl (cA, 2, .inr (.inr (.inr (.inr (rf2 na nc)))))), (na, .inl (cI, 20, .inl (fN g))), (nc, .inl (cI, 20, .inl (fN gb))), (zz, .inl (cI, 2, .inl (fN (sz2 n nb)))), (on, .inl (cB, 2, .inr (.inr (.inr (.inr (rf2 oa oc)))))), (oa, .inl (cL, 301, .inr (.inl u0))), (oc, .inl (cL, 301, .inr (.inl u1))), (sm, .inl (cL, 301, .inr (.inl us))), (fw, .inl (cI, 301, .inl (su_fl (fwI (fiD opF f0F g n)) (fN (fiD opP f0W g n)) i)))] H → va_D A [(mm, .inr (10, [.ref nu, .ref zz, .ref on, .ref sm, .ref fw, .int tw])), (nu, .inl (cA, 2, .inr (.inr (.inr (.inr (rf2 na nc)))))), (na, .inl (cI, 20, .inl (fN g))), (nc, .inl (cI, 20, .inl (fN gb))), (zz, .inl (cI, 2, .inl (fN (sz2 n nb)))), (on, .inl (cB, 2, .inr (.inr (.inr (.inr (rf2 oa oc)))))), (oa, .inl (cL, 301, .inr (.inl u0))), (oc, .inl (cL, 301, .inr (.inl u1))), (sm, .inl (cL, 301, .inr (.inl us))), (fw, .inl (cI, 301, .inl (su_fl (fwI (fiD opF f0F g n)) (fN (fiD opP f0W g n)) i)))] → va_S A s.heap H locs → ∀ ls : Array Slot, lv_has ls 6 [(3, .int (nI i)), (0, .ref mm), (1, .int (nI 0)), (2, .int (bI false))] → W p l e R s m args below meth c H locs 0 0 Q (F0 m 11 ls []) := by
      intro k11
      induction k11 with
      | zero => intro i hi hk; exact absurd hk (Nat.not_lt_zero _)
      | succ k11 ih11 =>
        intro i hi hk11 H locs hP hD hS ls hl
        refine lv_iload_n hx hb dX11_tell_11 rfl (lv_at hl 0 rfl) ?_
        refine lv_sipush (v := nI 300) hx hb dX11_tell_12 (by decide) ?_
        refine lv_icmp_gt (tgt := 73) hx hb dX11_tell_15 (by decide) (fun c15 => ?_) (fun c15 => ?_)
        · have c15 : 300 < i := su_lt (by omega) (by omega) c15
          obtain ⟨hP, hD⟩ := su_reI (q0 := 9) (fwI (fiD opF f0F g n)) hP hD rfl (fun j hj => su_flN (by omega))
          have hP : va_P D vwCl [(mm, .inr (10, [.ref nu, .ref zz, .ref on, .ref sm, .ref fw, .int tw])), (nu, .inl (cA, 2, .inr (.inr (.inr (.inr (rf2 na nc)))))), (na, .inl (cI, 20, .inl (fN g))), (nc, .inl (cI, 20, .inl (fN gb))), (zz, .inl (cI, 2, .inl (fN (sz2 n nb)))), (on, .inl (cB, 2, .inr (.inr (.inr (.inr (rf2 oa oc)))))), (oa, .inl (cL, 301, .inr (.inl u0))), (oc, .inl (cL, 301, .inr (.inl u1))), (sm, .inl (cL, 301, .inr (.inl us))), (fw, .inl (cI, 301, .inl (fwI (fiD opF f0F g n))))] H := hP
          have hD : va_D A [(mm, .inr (10, [.ref nu, .ref zz, .ref on, .ref sm, .ref fw, .int tw])), (nu, .inl (cA, 2, .inr (.inr (.inr (.inr (rf2 na nc)))))), (na, .inl (cI, 20, .inl (fN g))), (nc, .inl (cI, 20, .inl (fN gb))), (zz, .inl (cI, 2, .inl (fN (sz2 n nb)))), (on, .inl (cB, 2, .inr (.inr (.inr (.inr (rf2 oa oc)))))), (oa, .inl (cL, 301, .inr (.inl u0))), (oc, .inl (cL, 301, .inr (.inl u1))), (sm, .inl (cL, 301, .inr (.inl us))), (fw, .inl (cI, 301, .inl (fwI (fiD opF f0F g n))))] := hD
          rw [hQ]
          exact su_ev hx hb hr hlocks hS dX11_tell_73 () (trivial) hP hD
        · have c15 : i ≤ 300 := su_nlt (by omega) (by omega) c15
          have hlow := lowP_fi g n i
          have h31 : fiD opP f0W g n i < 2 ^ 31 := fiP_31 hn
          refine lv_aload_n hx hb dX11_tell_18 rfl (lv_at hl 1 rfl) ?_
          refine va_get (D := D) (ci := 10) (v := .ref fw) (C := RX11) (T := TX11) (N := 6) hx hb hts in_X11 hown hK hP 0 rfl rfl 4 (by decide) k_1003 (fun _ h9 => h9) rfl dX11_tell_19 ?_
          refine lv_iload_n hx hb dX11_tell_22 rfl (lv_at hl 0 rfl) ?_
          refine su_iald hx hb hK hP 9 0 rfl rfl (i := i) (by omega) (by decide) (nI (fiD opP f0W g n i)) (su_flA i) dX11_tell_23 ?_
          refine lv_if_ne (tgt := 31) hx hb dX11_tell_24 (by decide) (fun c24 => ?_) (fun c24 => ?_)
          · have c24 : fiD opP f0W g n i ≠ 0 := su_nz c24
            have hF := lowP_20 hlow c24 (fiP_lt g n i) hn
            refine lv_iconst (v := nI 0) hx hb dX11_tell_31 (by decide) ?_
            refine lv_istore (lv' := [(4, .int (nI 0)), (3, .int (nI i)), (0, .ref mm), (1, .int (nI 0)), (2, .int (bI false))]) hx hb dX11_tell_32 hl (by decide) rfl (fun ls hl => ?_)
            have loop34 : ∀ (k34 : Nat) (k : Nat), (k ≤ (fiD opF f0F g n) i) → (k ≤ 20) → 21 - k < k34 → ∀ (H : Heap) (locs : List Loc), va_P D vwCl [(mm, .inr (10, [.ref nu, .ref zz, .ref on, .ref sm, .ref fw, .int tw])), (nu, .inl (cA, 2, .inr (.inr (.inr (.inr (rf2 na nc)))))), (na, .inl (cI, 20, .inl (fN g))), (nc, .inl (cI, 20, .inl (fN gb))), (zz, .inl (cI, 2, .inl (fN (sz2 n nb)))), (on, .inl (cB, 2, .inr (.inr (.inr (.inr (rf2 oa oc)))))), (oa, .inl (cL, 301, .inr (.inl u0))), (oc, .inl (cL, 301, .inr (.inl u1))), (sm, .inl (cL, 301, .inr (.inl us))), (fw, .inl (cI, 301, .inl (su_fl (fwI (fiD opF f0F g n)) (fN (fiD opP f0W g n)) i)))] H → va_D A [(mm, .inr (10, [.ref nu, .ref zz, .ref on, .ref sm, .ref fw, .int tw])), (nu, .inl (cA, 2, .inr (.inr (.inr (.inr (rf2 na nc)))))), (na, .inl (cI, 20, .inl (fN g))), (nc, .inl (cI, 20, .inl (fN gb))), (zz, .inl (cI, 2, .inl (fN (sz2 n nb)))), (on, .inl (cB, 2, .inr (.inr (.inr (.inr (rf2 oa oc)))))), (oa, .inl (cL, 301, .inr (.inl u0))), (oc, .inl (cL, 301, .inr (.inl u1))), (sm, .inl (cL, 301, .inr (.inl us))), (fw, .inl (cI, 301, .inl (su_fl (fwI (fiD opF f0F g n)) (fN (fiD opP f0W g n)) i)))] → va_S A s.heap H locs → ∀ ls : Array Slot, lv_has ls 6 [(4, .int (nI k)), (3, .int (nI i)), (0, .ref mm), (1, .int (nI 0)), (2, .int (bI false))] → W p l e R s m args below meth c H locs 0 0 Q (F0 m 34 ls []) := by
              intro k34
              induction k34 with
              | zero => intro k hk hk2 hk; exact absurd hk (Nat.not_lt_zero _)
              | succ k34 ih34 =>
                intro k hk hk2 hk34 H locs hP hD hS ls hl
                refine lv_iload hx hb dX11_tell_34 (lv_at hl 0 rfl) ?_
                refine lv_if_lt (tgt := 59) hx hb dX11_tell_36 (by decide) (fun c36 => ?_) (fun c36 => ?_)
                · exact absurd c36 (nI_pos (by omega))
                · refine lv_aload_n hx hb dX11_tell_39 rfl (lv_at hl 2 rfl) ?_
                  refine va_get (D := D) (ci := 10) (v := .ref fw) (C := RX11) (T := TX11) (N := 6) hx hb hts in_X11 hown hK hP 0 rfl rfl 4 (by decide) k_1003 (fun _ h9 => h9) rfl dX11_tell_40 ?_
                  refine lv_iload_n hx hb dX11_tell_43 rfl (lv_at hl 1 rfl) ?_
                  refine su_iald hx hb hK hP 9 0 rfl rfl (i := i) (by omega) (by decide) (nI (fiD opP f0W g n i)) (su_flA i) dX11_tell_44 ?_
                  refine lv_iload hx hb dX11_tell_45 (lv_at hl 0 rfl) ?_
                  refine lv_ishr hx hb dX11_tell_47 ?_
                  refine su_eqi (nI ((fiD opP f0W g n) i / 2 ^ k)) (su_shB h31 (by omega)) ?_
                  refine lv_iconst (v := nI 2) hx hb dX11_tell_48 (by decide) ?_
                  refine lv_irem hx hb dX11_tell_49 (by decide) ?_
                  refine su_eqi (bI ((fiD opP f0W g n i).testBit k)) (su_remB h31) ?_
                  refine lv_if_ne (tgt := 59) hx hb dX11_tell_50 (by decide) (fun c50 => ?_) (fun c50 => ?_)
                  · have c50 : (fiD opP f0W g n i).testBit k = true := bI_n c50
                    refine lv_aload_n hx hb dX11_tell_59 rfl (lv_at hl 2 rfl) ?_
                    refine va_get (D := D) (ci := 10) (v := .ref fw) (C := RX11) (T := TX11) (N := 6) hx hb hts in_X11 hown hK hP 0 rfl rfl 4 (by decide) k_1003 (fun _ h9 => h9) rfl dX11_tell_60 ?_
                    refine lv_iload_n hx hb dX11_tell_63 rfl (lv_at hl 1 rfl) ?_
                    refine lv_iload hx hb dX11_tell_64 (lv_at hl 0 rfl) ?_
                    refine su_iast hx hb hK hP hD hS 9 0 rfl rfl (i := i) (by omega) (by decide) (va_up (su_fl (fwI (fiD opF f0F g n)) (fN (fiD opP f0W g n)) i) i (nI k)) (fun _ _ => rfl) dX11_tell_66 (fun H locs hP hD hS => ?_)
                    have hP : va_P D vwCl [(mm, .inr (10, [.ref nu, .ref zz, .ref on, .ref sm, .ref fw, .int tw])), (nu, .inl (cA, 2, .inr (.inr (.inr (.inr (rf2 na nc)))))), (na, .inl (cI, 20, .inl (fN g))), (nc, .inl (cI, 20, .inl (fN gb))), (zz, .inl (cI, 2, .inl (fN (sz2 n nb)))), (on, .inl (cB, 2, .inr (.inr (.inr (.inr (rf2 oa oc)))))), (oa, .inl (cL, 301, .inr (.inl u0))), (oc, .inl (cL, 301, .inr (.inl u1))), (sm, .inl (cL, 301, .inr (.inl us))), (fw, .inl (cI, 301, .inl (va_up (su_fl (fwI (fiD opF f0F g n)) (fN (fiD opP f0W g n)) i) i (nI k))))] H := hP
                    have hD : va_D A [(mm, .inr (10, [.ref nu, .ref zz, .ref on, .ref sm, .ref fw, .int tw])), (nu, .inl (cA, 2, .inr (.inr (.inr (.inr (rf2 na nc)))))), (na, .inl (cI, 20, .inl (fN g))), (nc, .inl (cI, 20, .inl (fN gb))), (zz, .inl (cI, 2, .inl (fN (sz2 n nb)))), (on, .inl (cB, 2, .inr (.inr (.inr (.inr (rf2 oa oc)))))), (oa, .inl (cL, 301, .inr (.inl u0))), (oc, .inl (cL, 301, .inr (.inl u1))), (sm, .inl (cL, 301, .inr (.inl us))), (fw, .inl (cI, 301, .inl (va_up (su_fl (fwI (fiD opF f0F g n)) (fN (fiD opP f0W g n)) i) i (nI k))))] := hD
                    refine lv_iinc (v := nI (i + 1)) (lv' := [(3, .int (nI (i + 1))), (4, .int (nI k)), (0, .ref mm), (1, .int (nI 0)), (2, .int (bI false))]) hx hb dX11_tell_67 hl (k := 1) rfl (su_inc _) (by decide) rfl (fun ls hl => ?_)
                    refine lv_goto (tgt := 11) hx hb dX11_tell_70 (by decide) ?_
                    obtain ⟨hP, hD⟩ := su_reI (q0 := 9) (su_fl (fwI (fiD opF f0F g n)) (fN (fiD opP f0W g n)) (i + 1)) hP hD rfl (fun j _ => su_flS (by first | exact fwI_0 hlow c24 | exact fwI_k hlow hk (by omega) c50) j)
                    have hP : va_P D vwCl [(mm, .inr (10, [.ref nu, .ref zz, .ref on, .ref sm, .ref fw, .int tw])), (nu, .inl (cA, 2, .inr (.inr (.inr (.inr (rf2 na nc)))))), (na, .inl (cI, 20, .inl (fN g))), (nc, .inl (cI, 20, .inl (fN gb))), (zz, .inl (cI, 2, .inl (fN (sz2 n nb)))), (on, .inl (cB, 2, .inr (.inr (.inr (.inr (rf2 oa oc)))))), (oa, .inl (cL, 301, .inr (.inl u0))), (oc, .inl (cL, 301, .inr (.inl u1))), (sm, .inl (cL, 301, .inr (.inl us))), (fw, .inl (cI, 301, .inl (su_fl (fwI (fiD opF f0F g n)) (fN (fiD opP f0W g n)) (i + 1))))] H := hP
                    have hD : va_D A [(mm, .inr (10, [.ref nu, .ref zz, .ref on, .ref sm, .ref fw, .int tw])), (nu, .inl (cA, 2, .inr (.inr (.inr (.inr (rf2 na nc)))))), (na, .inl (cI, 20, .inl (fN g))), (nc, .inl (cI, 20, .inl (fN gb))), (zz, .inl (cI, 2, .inl (fN (sz2 n nb)))), (on, .inl (cB, 2, .inr (.inr (.inr (.inr (rf2 oa oc)))))), (oa, .inl (cL, 301, .inr (.inl u0))), (oc, .inl (cL, 301, .inr (.inl u1))), (sm, .inl (cL, 301, .inr (.inl us))), (fw, .inl (cI, 301, .inl (su_fl (fwI (fiD opF f0F g n)) (fN (fiD opP f0W g n)) (i + 1))))] := hD
                    exact ih11 (i + 1) (by omega) (by omega) _ _ hP hD hS _ (lv_sub hl [0, 2, 3, 4] rfl)
                  · have c50 : (fiD opP f0W g n i).testBit k = false := bI_e c50
                    have hk9 := low_lt hk hF.2 c50
                    refine lv_iinc (v := nI (k + 1)) (lv' := [(4, .int (nI (k + 1))), (3, .int (nI i)), (0, .ref mm), (1, .int (nI 0)), (2, .int (bI false))]) hx hb dX11_tell_53 hl (k := 0) rfl (su_inc _) (by decide) rfl (fun ls hl => ?_)
                    refine lv_goto (tgt := 34) hx hb dX11_tell_56 (by decide) ?_
                    exact ih34 (k + 1) (by omega) (by omega) (by omega) _ _ hP hD hS _ (lv_sub hl [0, 1, 2, 3, 4] rfl)
            exact loop34 ((21 - (0)) + 1) (0) (Nat.zero_le _) (by omega) (by omega) _ _ hP hD hS _ (lv_sub hl [0, 1, 2, 3, 4] rfl)
          · have c24 : fiD opP f0W g n i = 0 := su_z (by omega) c24
            refine lv_iconst (v := -1) hx hb dX11_tell_27 (by decide) ?_
            refine lv_goto (tgt := 32) hx hb dX11_tell_28 (by decide) ?_
            refine lv_istore (lv' := [(4, .int (-1)), (3, .int (nI i)), (0, .ref mm), (1, .int (nI 0)), (2, .int (bI false))]) hx hb dX11_tell_32 hl (by decide) rfl (fun ls hl => ?_)
            refine lv_iload hx hb dX11_tell_34 (lv_at hl 0 rfl) ?_
            refine lv_if_lt (tgt := 59) hx hb dX11_tell_36 (by decide) (fun c36 => ?_) (fun c36 => ?_)
            · refine lv_aload_n hx hb dX11_tell_59 rfl (lv_at hl 2 rfl) ?_
              refine va_get (D := D) (ci := 10) (v := .ref fw) (C := RX11) (T := TX11) (N := 6) hx hb hts in_X11 hown hK hP 0 rfl rfl 4 (by decide) k_1003 (fun _ h9 => h9) rfl dX11_tell_60 ?_
              refine lv_iload_n hx hb dX11_tell_63 rfl (lv_at hl 1 rfl) ?_
              refine lv_iload hx hb dX11_tell_64 (lv_at hl 0 rfl) ?_
              refine su_iast hx hb hK hP hD hS 9 0 rfl rfl (i := i) (by omega) (by decide) (va_up (su_fl (fwI (fiD opF f0F g n)) (fN (fiD opP f0W g n)) i) i (-1)) (fun _ _ => rfl) dX11_tell_66 (fun H locs hP hD hS => ?_)
              have hP : va_P D vwCl [(mm, .inr (10, [.ref nu, .ref zz, .ref on, .ref sm, .ref fw, .int tw])), (nu, .inl (cA, 2, .inr (.inr (.inr (.inr (rf2 na nc)))))), (na, .inl (cI, 20, .inl (fN g))), (nc, .inl (cI, 20, .inl (fN gb))), (zz, .inl (cI, 2, .inl (fN (sz2 n nb)))), (on, .inl (cB, 2, .inr (.inr (.inr (.inr (rf2 oa oc)))))), (oa, .inl (cL, 301, .inr (.inl u0))), (oc, .inl (cL, 301, .inr (.inl u1))), (sm, .inl (cL, 301, .inr (.inl us))), (fw, .inl (cI, 301, .inl (va_up (su_fl (fwI (fiD opF f0F g n)) (fN (fiD opP f0W g n)) i) i (-1))))] H := hP
              have hD : va_D A [(mm, .inr (10, [.ref nu, .ref zz, .ref on, .ref sm, .ref fw, .int tw])), (nu, .inl (cA, 2, .inr (.inr (.inr (.inr (rf2 na nc)))))), (na, .inl (cI, 20, .inl (fN g))), (nc, .inl (cI, 20, .inl (fN gb))), (zz, .inl (cI, 2, .inl (fN (sz2 n nb)))), (on, .inl (cB, 2, .inr (.inr (.inr (.inr (rf2 oa oc)))))), (oa, .inl (cL, 301, .inr (.inl u0))), (oc, .inl (cL, 301, .inr (.inl u1))), (sm, .inl (cL, 301, .inr (.inl us))), (fw, .inl (cI, 301, .inl (va_up (su_fl (fwI (fiD opF f0F g n)) (fN (fiD opP f0W g n)) i) i (-1))))] := hD
              refine lv_iinc (v := nI (i + 1)) (lv' := [(3, .int (nI (i + 1))), (4, .int (-1)), (0, .ref mm), (1, .int (nI 0)), (2, .int (bI false))]) hx hb dX11_tell_67 hl (k := 1) rfl (su_inc _) (by decide) rfl (fun ls hl => ?_)
              refine lv_goto (tgt := 11) hx hb dX11_tell_70 (by decide) ?_
              obtain ⟨hP, hD⟩ := su_reI (q0 := 9) (su_fl (fwI (fiD opF f0F g n)) (fN (fiD opP f0W g n)) (i + 1)) hP hD rfl (fun j _ => su_flS (by first | exact fwI_0 hlow c24 | exact fwI_k hlow hk (by omega) c50) j)
              have hP : va_P D vwCl [(mm, .inr (10, [.ref nu, .ref zz, .ref on, .ref sm, .ref fw, .int tw])), (nu, .inl (cA, 2, .inr (.inr (.inr (.inr (rf2 na nc)))))), (na, .inl (cI, 20, .inl (fN g))), (nc, .inl (cI, 20, .inl (fN gb))), (zz, .inl (cI, 2, .inl (fN (sz2 n nb)))), (on, .inl (cB, 2, .inr (.inr (.inr (.inr (rf2 oa oc)))))), (oa, .inl (cL, 301, .inr (.inl u0))), (oc, .inl (cL, 301, .inr (.inl u1))), (sm, .inl (cL, 301, .inr (.inl us))), (fw, .inl (cI, 301, .inl (su_fl (fwI (fiD opF f0F g n)) (fN (fiD opP f0W g n)) (i + 1))))] H := hP
              have hD : va_D A [(mm, .inr (10, [.ref nu, .ref zz, .ref on, .ref sm, .ref fw, .int tw])), (nu, .inl (cA, 2, .inr (.inr (.inr (.inr (rf2 na nc)))))), (na, .inl (cI, 20, .inl (fN g))), (nc, .inl (cI, 20, .inl (fN gb))), (zz, .inl (cI, 2, .inl (fN (sz2 n nb)))), (on, .inl (cB, 2, .inr (.inr (.inr (.inr (rf2 oa oc)))))), (oa, .inl (cL, 301, .inr (.inl u0))), (oc, .inl (cL, 301, .inr (.inl u1))), (sm, .inl (cL, 301, .inr (.inl us))), (fw, .inl (cI, 301, .inl (su_fl (fwI (fiD opF f0F g n)) (fN (fiD opP f0W g n)) (i + 1))))] := hD
              exact ih11 (i + 1) (by omega) (by omega) _ _ hP hD hS _ (lv_sub hl [0, 2, 3, 4] rfl)
            · exact absurd (by decide) c36
    obtain ⟨hP, hD⟩ := su_reI (q0 := 9) (su_fl (fwI (fiD opF f0F g n)) (fN (fiD opP f0W g n)) (0)) hP hD rfl (fun k _ => su_fl0 k)
    have hP : va_P D vwCl [(mm, .inr (10, [.ref nu, .ref zz, .ref on, .ref sm, .ref fw, .int tw])), (nu, .inl (cA, 2, .inr (.inr (.inr (.inr (rf2 na nc)))))), (na, .inl (cI, 20, .inl (fN g))), (nc, .inl (cI, 20, .inl (fN gb))), (zz, .inl (cI, 2, .inl (fN (sz2 n nb)))), (on, .inl (cB, 2, .inr (.inr (.inr (.inr (rf2 oa oc)))))), (oa, .inl (cL, 301, .inr (.inl u0))), (oc, .inl (cL, 301, .inr (.inl u1))), (sm, .inl (cL, 301, .inr (.inl us))), (fw, .inl (cI, 301, .inl (su_fl (fwI (fiD opF f0F g n)) (fN (fiD opP f0W g n)) (0))))] H := hP
    have hD : va_D A [(mm, .inr (10, [.ref nu, .ref zz, .ref on, .ref sm, .ref fw, .int tw])), (nu, .inl (cA, 2, .inr (.inr (.inr (.inr (rf2 na nc)))))), (na, .inl (cI, 20, .inl (fN g))), (nc, .inl (cI, 20, .inl (fN gb))), (zz, .inl (cI, 2, .inl (fN (sz2 n nb)))), (on, .inl (cB, 2, .inr (.inr (.inr (.inr (rf2 oa oc)))))), (oa, .inl (cL, 301, .inr (.inl u0))), (oc, .inl (cL, 301, .inr (.inl u1))), (sm, .inl (cL, 301, .inr (.inl us))), (fw, .inl (cI, 301, .inl (su_fl (fwI (fiD opF f0F g n)) (fN (fiD opP f0W g n)) (0))))] := hD
    exact loop11 ((301 - (0)) + 1) (0) (by omega) (by omega) _ _ hP hD hS _ (lv_sub hl [0, 1, 2, 3] rfl)
set_option maxHeartbeats 4000000 in
set_option maxRecDepth 100000 in
theorem m_tellU0 (l : Launch) (D : va_G) (cI cL cZ : ClassId) (sz : Nat) (cA : ClassId) (cB : ClassId) (mm : Nat) (nu : Nat) (na : Nat) (nc : Nat) (zz : Nat) (on : Nat) (oa : Nat) (oc : Nat) (sm : Nat) (fw : Nat) (g : Nat → Nat) (n : Nat) (gb : Nat → Nat) (nb : Nat) (tw : Int32) (u0 : Nat → Int64) (u1 : Nat → Int64) (us : Nat → Int64) (uf : Nat → Int32) (hn : n ≤ 20) (hnb : nb ≤ 20) (hg : ∀ k, k < n → 1 ≤ g k ∧ g k ≤ 300) (hgb : ∀ k, k < nb → 1 ≤ gb k ∧ gb k ≤ 300) :
    Met l yX11_tell (ws_ yX11_tell cX11_tell 6 none) { frames := 0, cells := 0, slots := 0, locals := 0 } (su_pre D (su_T5 cI cL cZ cA cB) sz [(mm, .inr (10, [.ref nu, .ref zz, .ref on, .ref sm, .ref fw, .int tw])), (nu, .inl (cA, 2, .inr (.inr (.inr (.inr (rf2 na nc)))))), (na, .inl (cI, 20, .inl (fN g))), (nc, .inl (cI, 20, .inl (fN gb))), (zz, .inl (cI, 2, .inl (fN (sz2 n nb)))), (on, .inl (cB, 2, .inr (.inr (.inr (.inr (rf2 oa oc)))))), (oa, .inl (cL, 301, .inr (.inl u0))), (oc, .inl (cL, 301, .inr (.inl u1))), (sm, .inl (cL, 301, .inr (.inl us))), (fw, .inl (cI, 301, .inl uf))] [.ref mm, .int (nI 0), .int (bI true)]) (su_qv D (va_A [(mm, .inr (10, [.ref nu, .ref zz, .ref on, .ref sm, .ref fw, .int tw])), (nu, .inl (cA, 2, .inr (.inr (.inr (.inr (rf2 na nc)))))), (na, .inl (cI, 20, .inl (fN g))), (nc, .inl (cI, 20, .inl (fN gb))), (zz, .inl (cI, 2, .inl (fN (sz2 n nb)))), (on, .inl (cB, 2, .inr (.inr (.inr (.inr (rf2 oa oc)))))), (oa, .inl (cL, 301, .inr (.inl u0))), (oc, .inl (cL, 301, .inr (.inl u1))), (sm, .inl (cL, 301, .inr (.inl us))), (fw, .inl (cI, 301, .inl uf))] sz) (fun (uu : Unit) => True) (fun (uu : Unit) => [(mm, .inr (10, [.ref nu, .ref zz, .ref on, .ref sm, .ref fw, .int tw])), (nu, .inl (cA, 2, .inr (.inr (.inr (.inr (rf2 na nc)))))), (na, .inl (cI, 20, .inl (fN g))), (nc, .inl (cI, 20, .inl (fN gb))), (zz, .inl (cI, 2, .inl (fN (sz2 n nb)))), (on, .inl (cB, 2, .inr (.inr (.inr (.inr (rf2 oa oc)))))), (oa, .inl (cL, 301, .inr (.inl u0))), (oc, .inl (cL, 301, .inr (.inl u1))), (sm, .inl (cL, 301, .inr (.inl us))), (fw, .inl (cI, 301, .inl (fwI (fiU opF f0F g n))))])) 0 0 (va_A [(mm, .inr (10, [.ref nu, .ref zz, .ref on, .ref sm, .ref fw, .int tw])), (nu, .inl (cA, 2, .inr (.inr (.inr (.inr (rf2 na nc)))))), (na, .inl (cI, 20, .inl (fN g))), (nc, .inl (cI, 20, .inl (fN gb))), (zz, .inl (cI, 2, .inl (fN (sz2 n nb)))), (on, .inl (cB, 2, .inr (.inr (.inr (.inr (rf2 oa oc)))))), (oa, .inl (cL, 301, .inr (.inl u0))), (oc, .inl (cL, 301, .inr (.inl u1))), (sm, .inl (cL, 301, .inr (.inl us))), (fw, .inl (cI, 301, .inl uf))] sz) := by
  refine su_met (y := yX11_tell) (av := [.ref mm, .int (nI 0), .int (bI true)]) (Qf := fun A => su_qv D A (fun (uu : Unit) => True) (fun (uu : Unit) => [(mm, .inr (10, [.ref nu, .ref zz, .ref on, .ref sm, .ref fw, .int tw])), (nu, .inl (cA, 2, .inr (.inr (.inr (.inr (rf2 na nc)))))), (na, .inl (cI, 20, .inl (fN g))), (nc, .inl (cI, 20, .inl (fN gb))), (zz, .inl (cI, 2, .inl (fN (sz2 n nb)))), (on, .inl (cB, 2, .inr (.inr (.inr (.inr (rf2 oa oc)))))), (oa, .inl (cL, 301, .inr (.inl u0))), (oc, .inl (cL, 301, .inr (.inl u1))), (sm, .inl (cL, 301, .inr (.inl us))), (fw, .inl (cI, 301, .inl (fwI (fiU opF f0F g n))))])) (cc := cX11_tell) (maxL := 6) (ret := none) (by decide) (Nat.le_of_ble_eq_true rfl) ?_
  intro p e s m args below meth c R Q A H locs ls hx hb hr hlocks hin hml hown hts hN hP hK hD hA hS hRm hQ hl
  have hown : s.vm.findClass RX11 = some m.cls := hown
  have hl : lv_has ls 6 [(0, .ref mm), (1, .int (nI 0)), (2, .int (bI true))] := hl
  have hR3 : 0 ≤ R.cells := by rw [hRm]; exact Nat.le_of_ble_eq_true rfl
  have hR4 : 0 ≤ R.slots := by rw [hRm]; exact Nat.le_of_ble_eq_true rfl
  have k_1003 := hts _ q_1003
  have k_1000 := hts _ q_1000
  have k_999 := hts _ q_999
  have hg1 : ∀ k, k < n → 1 ≤ g k := fun k hk => (hg k hk).1
  refine lv_iload_n hx hb dX11_tell_0 rfl (lv_at hl 2 rfl) ?_
  refine lv_if_ne (tgt := 74) hx hb dX11_tell_1 (by decide) (fun c1 => ?_) (fun c1 => ?_)
  · have c1 : true = true := bI_n c1
    refine lv_aload_n hx hb dX11_tell_74 rfl (lv_at hl 0 rfl) ?_
    refine va_get (D := D) (ci := 10) (v := .ref fw) (C := RX11) (T := TX11) (N := 6) hx hb hts in_X11 hown hK hP 0 rfl rfl 4 (by decide) k_1003 (fun _ h9 => h9) rfl dX11_tell_75 ?_
    refine lv_iconst (v := nI 0) hx hb dX11_tell_78 (by decide) ?_
    refine lv_iconst (v := nI 0) hx hb dX11_tell_79 (by decide) ?_
    refine su_iast hx hb hK hP hD hS 9 0 rfl rfl (i := 0) (by decide) (by decide) (su_fl (fwI (fiU opF f0F g n)) uf 1) (fun j _ => su_flS (f := fwI (fiU opF f0F g n)) (i := 0) (g := uf) (by rw [fwI_w, oF_0 g n hg1]; rfl) j) dX11_tell_80 (fun H locs hP hD hS => ?_)
    have hP : va_P D vwCl [(mm, .inr (10, [.ref nu, .ref zz, .ref on, .ref sm, .ref fw, .int tw])), (nu, .inl (cA, 2, .inr (.inr (.inr (.inr (rf2 na nc)))))), (na, .inl (cI, 20, .inl (fN g))), (nc, .inl (cI, 20, .inl (fN gb))), (zz, .inl (cI, 2, .inl (fN (sz2 n nb)))), (on, .inl (cB, 2, .inr (.inr (.inr (.inr (rf2 oa oc)))))), (oa, .inl (cL, 301, .inr (.inl u0))), (oc, .inl (cL, 301, .inr (.inl u1))), (sm, .inl (cL, 301, .inr (.inl us))), (fw, .inl (cI, 301, .inl (su_fl (fwI (fiU opF f0F g n)) uf 1)))] H := hP
    have hD : va_D A [(mm, .inr (10, [.ref nu, .ref zz, .ref on, .ref sm, .ref fw, .int tw])), (nu, .inl (cA, 2, .inr (.inr (.inr (.inr (rf2 na nc)))))), (na, .inl (cI, 20, .inl (fN g))), (nc, .inl (cI, 20, .inl (fN gb))), (zz, .inl (cI, 2, .inl (fN (sz2 n nb)))), (on, .inl (cB, 2, .inr (.inr (.inr (.inr (rf2 oa oc)))))), (oa, .inl (cL, 301, .inr (.inl u0))), (oc, .inl (cL, 301, .inr (.inl u1))), (sm, .inl (cL, 301, .inr (.inl us))), (fw, .inl (cI, 301, .inl (su_fl (fwI (fiU opF f0F g n)) uf 1)))] := hD
    refine lv_iconst (v := nI 1) hx hb dX11_tell_81 (by decide) ?_
    refine lv_istore_n (lv' := [(3, .int (nI 1)), (0, .ref mm), (1, .int (nI 0)), (2, .int (bI true))]) hx hb dX11_tell_82 rfl hl (by decide) rfl (fun ls hl => ?_)
    have loop83 : ∀ (k83 : Nat) (i : Nat), (1 ≤ i) → (i ≤ 301) → 301 - i < k83 → ∀ (H : Heap) (locs : List Loc), va_P D vwCl [(mm, .inr (10, [.ref nu, .ref zz, .ref on, .ref sm, .ref fw, .int tw])), (nu, .inl (cA, 2, .inr (.inr (.inr (.inr (rf2 na nc)))))), (na, .inl (cI, 20, .inl (fN g))), (nc, .inl (cI, 20, .inl (fN gb))), (zz, .inl (cI, 2, .inl (fN (sz2 n nb)))), (on, .inl (cB, 2, .inr (.inr (.inr (.inr (rf2 oa oc)))))), (oa, .inl (cL, 301, .inr (.inl u0))), (oc, .inl (cL, 301, .inr (.inl u1))), (sm, .inl (cL, 301, .inr (.inl us))), (fw, .inl (cI, 301, .inl (su_fl (fwI (fiU opF f0F g n)) uf i)))] H → va_D A [(mm, .inr (10, [.ref nu, .ref zz, .ref on, .ref sm, .ref fw, .int tw])), (nu, .inl (cA, 2, .inr (.inr (.inr (.inr (rf2 na nc)))))), (na, .inl (cI, 20, .inl (fN g))), (nc, .inl (cI, 20, .inl (fN gb))), (zz, .inl (cI, 2, .inl (fN (sz2 n nb)))), (on, .inl (cB, 2, .inr (.inr (.inr (.inr (rf2 oa oc)))))), (oa, .inl (cL, 301, .inr (.inl u0))), (oc, .inl (cL, 301, .inr (.inl u1))), (sm, .inl (cL, 301, .inr (.inl us))), (fw, .inl (cI, 301, .inl (su_fl (fwI (fiU opF f0F g n)) uf i)))] → va_S A s.heap H locs → ∀ ls : Array Slot, lv_has ls 6 [(3, .int (nI i)), (0, .ref mm), (1, .int (nI 0)), (2, .int (bI true))] → W p l e R s m args below meth c H locs 0 0 Q (F0 m 83 ls []) := by
      intro k83
      induction k83 with
      | zero => intro i hi hi2 hk; exact absurd hk (Nat.not_lt_zero _)
      | succ k83 ih83 =>
        intro i hi hi2 hk83 H locs hP hD hS ls hl
        refine lv_iload_n hx hb dX11_tell_83 rfl (lv_at hl 0 rfl) ?_
        refine lv_sipush (v := nI 300) hx hb dX11_tell_84 (by decide) ?_
        refine lv_icmp_gt (tgt := 193) hx hb dX11_tell_87 (by decide) (fun c87 => ?_) (fun c87 => ?_)
        · have c87 : 300 < i := su_lt (by omega) (by omega) c87
          obtain ⟨hP, hD⟩ := su_reI (q0 := 9) (fwI (fiU opF f0F g n)) hP hD rfl (fun j hj => su_flN (by omega))
          have hP : va_P D vwCl [(mm, .inr (10, [.ref nu, .ref zz, .ref on, .ref sm, .ref fw, .int tw])), (nu, .inl (cA, 2, .inr (.inr (.inr (.inr (rf2 na nc)))))), (na, .inl (cI, 20, .inl (fN g))), (nc, .inl (cI, 20, .inl (fN gb))), (zz, .inl (cI, 2, .inl (fN (sz2 n nb)))), (on, .inl (cB, 2, .inr (.inr (.inr (.inr (rf2 oa oc)))))), (oa, .inl (cL, 301, .inr (.inl u0))), (oc, .inl (cL, 301, .inr (.inl u1))), (sm, .inl (cL, 301, .inr (.inl us))), (fw, .inl (cI, 301, .inl (fwI (fiU opF f0F g n))))] H := hP
          have hD : va_D A [(mm, .inr (10, [.ref nu, .ref zz, .ref on, .ref sm, .ref fw, .int tw])), (nu, .inl (cA, 2, .inr (.inr (.inr (.inr (rf2 na nc)))))), (na, .inl (cI, 20, .inl (fN g))), (nc, .inl (cI, 20, .inl (fN gb))), (zz, .inl (cI, 2, .inl (fN (sz2 n nb)))), (on, .inl (cB, 2, .inr (.inr (.inr (.inr (rf2 oa oc)))))), (oa, .inl (cL, 301, .inr (.inl u0))), (oc, .inl (cL, 301, .inr (.inl u1))), (sm, .inl (cL, 301, .inr (.inl us))), (fw, .inl (cI, 301, .inl (fwI (fiU opF f0F g n))))] := hD
          rw [hQ]
          exact su_ev hx hb hr hlocks hS dX11_tell_193 () (trivial) hP hD
        · have c87 : i ≤ 300 := su_nlt (by omega) (by omega) c87
          refine lv_aload_n hx hb dX11_tell_90 rfl (lv_at hl 1 rfl) ?_
          refine va_get (D := D) (ci := 10) (v := .ref fw) (C := RX11) (T := TX11) (N := 6) hx hb hts in_X11 hown hK hP 0 rfl rfl 4 (by decide) k_1003 (fun _ h9 => h9) rfl dX11_tell_91 ?_
          refine lv_iload_n hx hb dX11_tell_94 rfl (lv_at hl 0 rfl) ?_
          refine lv_iconst (v := -1) hx hb dX11_tell_95 (by decide) ?_
          refine su_iast hx hb hK hP hD hS 9 0 rfl rfl (i := i) (by omega) (by decide) (va_up (su_fl (fwI (fiU opF f0F g n)) uf i) i (wI (pm (fiU opF f0F g n) g i 0))) (fun j _ => rfl) dX11_tell_96 (fun H locs hP hD hS => ?_)
          have hP : va_P D vwCl [(mm, .inr (10, [.ref nu, .ref zz, .ref on, .ref sm, .ref fw, .int tw])), (nu, .inl (cA, 2, .inr (.inr (.inr (.inr (rf2 na nc)))))), (na, .inl (cI, 20, .inl (fN g))), (nc, .inl (cI, 20, .inl (fN gb))), (zz, .inl (cI, 2, .inl (fN (sz2 n nb)))), (on, .inl (cB, 2, .inr (.inr (.inr (.inr (rf2 oa oc)))))), (oa, .inl (cL, 301, .inr (.inl u0))), (oc, .inl (cL, 301, .inr (.inl u1))), (sm, .inl (cL, 301, .inr (.inl us))), (fw, .inl (cI, 301, .inl (va_up (su_fl (fwI (fiU opF f0F g n)) uf i) i (wI (pm (fiU opF f0F g n) g i 0)))))] H := hP
          have hD : va_D A [(mm, .inr (10, [.ref nu, .ref zz, .ref on, .ref sm, .ref fw, .int tw])), (nu, .inl (cA, 2, .inr (.inr (.inr (.inr (rf2 na nc)))))), (na, .inl (cI, 20, .inl (fN g))), (nc, .inl (cI, 20, .inl (fN gb))), (zz, .inl (cI, 2, .inl (fN (sz2 n nb)))), (on, .inl (cB, 2, .inr (.inr (.inr (.inr (rf2 oa oc)))))), (oa, .inl (cL, 301, .inr (.inl u0))), (oc, .inl (cL, 301, .inr (.inl u1))), (sm, .inl (cL, 301, .inr (.inl us))), (fw, .inl (cI, 301, .inl (va_up (su_fl (fwI (fiU opF f0F g n)) uf i) i (wI (pm (fiU opF f0F g n) g i 0)))))] := hD
          refine lv_iconst (v := nI 0) hx hb dX11_tell_97 (by decide) ?_
          refine lv_istore (lv' := [(4, .int (nI 0)), (3, .int (nI i)), (0, .ref mm), (1, .int (nI 0)), (2, .int (bI true))]) hx hb dX11_tell_98 hl (by decide) rfl (fun ls hl => ?_)
          have loop100 : ∀ (k100 : Nat) (k : Nat), (k ≤ n) → n - k < k100 → ∀ (H : Heap) (locs : List Loc), va_P D vwCl [(mm, .inr (10, [.ref nu, .ref zz, .ref on, .ref sm, .ref fw, .int tw])), (nu, .inl (cA, 2, .inr (.inr (.inr (.inr (rf2 na nc)))))), (na, .inl (cI, 20, .inl (fN g))), (nc, .inl (cI, 20, .inl (fN gb))), (zz, .inl (cI, 2, .inl (fN (sz2 n nb)))), (on, .inl (cB, 2, .inr (.inr (.inr (.inr (rf2 oa oc)))))), (oa, .inl (cL, 301, .inr (.inl u0))), (oc, .inl (cL, 301, .inr (.inl u1))), (sm, .inl (cL, 301, .inr (.inl us))), (fw, .inl (cI, 301, .inl (va_up (su_fl (fwI (fiU opF f0F g n)) uf i) i (wI (pm (fiU opF f0F g n) g i k)))))] H → va_D A [(mm, .inr (10, [.ref nu, .ref zz, .ref on, .ref sm, .ref fw, .int tw])), (nu, .inl (cA, 2, .inr (.inr (.inr (.inr (rf2 na nc)))))), (na, .inl (cI, 20, .inl (fN g))), (nc, .inl (cI, 20, .inl (fN gb))), (zz, .inl (cI, 2, .inl (fN (sz2 n nb)))), (on, .inl (cB, 2, .inr (.inr (.inr (.inr (rf2 oa oc)))))), (oa, .inl (cL, 301, .inr (.inl u0))), (oc, .inl (cL, 301, .inr (.inl u1))), (sm, .inl (cL, 301, .inr (.inl us))), (fw, .inl (cI, 301, .inl (va_up (su_fl (fwI (fiU opF f0F g n)) uf i) i (wI (pm (fiU opF f0F g n) g i k)))))] → va_S A s.heap H locs → ∀ ls : Array Slot, lv_has ls 6 [(4, .int (nI k)), (3, .int (nI i)), (0, .ref mm), (1, .int (nI 0)), (2, .int (bI true))] → W p l e R s m args below meth c H locs 0 0 Q (F0 m 100 ls []) := by
            intro k100
            induction k100 with
            | zero => intro k hk hk; exact absurd hk (Nat.not_lt_zero _)
            | succ k100 ih100 =>
              intro k hk hk100 H locs hP hD hS ls hl
              refine lv_iload hx hb dX11_tell_100 (lv_at hl 0 rfl) ?_
              refine lv_aload_n hx hb dX11_tell_102 rfl (lv_at hl 2 rfl) ?_
              refine va_get (D := D) (ci := 10) (v := .ref zz) (C := RX11) (T := TX11) (N := 6) hx hb hts in_X11 hown hK hP 0 rfl rfl 1 (by decide) k_1000 (fun _ h9 => h9) rfl dX11_tell_103 ?_
              refine lv_iload_n hx hb dX11_tell_106 rfl (lv_at hl 3 rfl) ?_
              refine su_iald hx hb hK hP 4 0 rfl rfl (i := 0) (by decide) (by decide) (nI n) (rfl) dX11_tell_107 ?_
              refine lv_icmp_ge (tgt := 187) hx hb dX11_tell_108 (by decide) (fun c108 => ?_) (fun c108 => ?_)
              · have c108 : n ≤ k := su_ge (by omega) (by omega) c108
                refine lv_iinc (v := nI (i + 1)) (lv' := [(3, .int (nI (i + 1))), (4, .int (nI k)), (0, .ref mm), (1, .int (nI 0)), (2, .int (bI true))]) hx hb dX11_tell_187 hl (k := 1) rfl (su_inc _) (by decide) rfl (fun ls hl => ?_)
                refine lv_goto (tgt := 83) hx hb dX11_tell_190 (by decide) ?_
                obtain ⟨hP, hD⟩ := su_reI (q0 := 9) (su_fl (fwI (fiU opF f0F g n)) uf (i + 1)) hP hD rfl (fun j _ => su_flS (by rw [show k = n by omega, pm_F hg (by omega) (by omega)]; rfl) j)
                have hP : va_P D vwCl [(mm, .inr (10, [.ref nu, .ref zz, .ref on, .ref sm, .ref fw, .int tw])), (nu, .inl (cA, 2, .inr (.inr (.inr (.inr (rf2 na nc)))))), (na, .inl (cI, 20, .inl (fN g))), (nc, .inl (cI, 20, .inl (fN gb))), (zz, .inl (cI, 2, .inl (fN (sz2 n nb)))), (on, .inl (cB, 2, .inr (.inr (.inr (.inr (rf2 oa oc)))))), (oa, .inl (cL, 301, .inr (.inl u0))), (oc, .inl (cL, 301, .inr (.inl u1))), (sm, .inl (cL, 301, .inr (.inl us))), (fw, .inl (cI, 301, .inl (su_fl (fwI (fiU opF f0F g n)) uf (i + 1))))] H := hP
                have hD : va_D A [(mm, .inr (10, [.ref nu, .ref zz, .ref on, .ref sm, .ref fw, .int tw])), (nu, .inl (cA, 2, .inr (.inr (.inr (.inr (rf2 na nc)))))), (na, .inl (cI, 20, .inl (fN g))), (nc, .inl (cI, 20, .inl (fN gb))), (zz, .inl (cI, 2, .inl (fN (sz2 n nb)))), (on, .inl (cB, 2, .inr (.inr (.inr (.inr (rf2 oa oc)))))), (oa, .inl (cL, 301, .inr (.inl u0))), (oc, .inl (cL, 301, .inr (.inl u1))), (sm, .inl (cL, 301, .inr (.inl us))), (fw, .inl (cI, 301, .inl (su_fl (fwI (fiU opF f0F g n)) uf (i + 1))))] := hD
                exact ih83 (i + 1) (by omega) (by omega) (by omega) _ _ hP hD hS _ (lv_sub hl [0, 2, 3, 4] rfl)
              · have c108 : k < n := su_nge (by omega) (by omega) c108
                have hgk := hg k c108
                have hpm := pm_le (fiU opF f0F g n) g i k
                refine lv_iload_n hx hb dX11_tell_111 rfl (lv_at hl 1 rfl) ?_
                refine lv_aload_n hx hb dX11_tell_112 rfl (lv_at hl 2 rfl) ?_
                refine va_get (D := D) (ci := 10) (v := .ref nu) (C := RX11) (T := TX11) (N := 6) hx hb hts in_X11 hown hK hP 0 rfl rfl 0 (by decide) k_999 (fun _ h9 => h9) rfl dX11_tell_113 ?_
                refine lv_iload_n hx hb dX11_tell_116 rfl (lv_at hl 3 rfl) ?_
                refine su_aald hx hb hK hP 1 3 rfl rfl (i := 0) (by decide) (by decide) (na) rfl dX11_tell_117 ?_
                refine lv_iload hx hb dX11_tell_118 (lv_at hl 0 rfl) ?_
                refine su_iald hx hb hK hP 2 0 rfl rfl (i := k) (by omega) (by decide) (nI (g k)) (rfl) dX11_tell_120 ?_
                refine lv_isub hx hb dX11_tell_121 ?_
                refine su_eqi (nI i - nI (g k)) (rfl) ?_
                refine lv_istore (lv' := [(5, .int (nI i - nI (g k))), (4, .int (nI k)), (3, .int (nI i)), (0, .ref mm), (1, .int (nI 0)), (2, .int (bI true))]) hx hb dX11_tell_122 hl (by decide) rfl (fun ls hl => ?_)
                refine lv_iload hx hb dX11_tell_124 (lv_at hl 0 rfl) ?_
                refine lv_if_lt (tgt := 181) hx hb dX11_tell_126 (by decide) (fun c126 => ?_) (fun c126 => ?_)
                · have c126 := (su_sublt (by omega) (by omega)).mp c126
                  refine lv_iinc (v := nI (k + 1)) (lv' := [(4, .int (nI (k + 1))), (5, .int (nI i - nI (g k))), (3, .int (nI i)), (0, .ref mm), (1, .int (nI 0)), (2, .int (bI true))]) hx hb dX11_tell_181 hl (k := 1) rfl (su_inc _) (by decide) rfl (fun ls hl => ?_)
                  refine lv_goto (tgt := 100) hx hb dX11_tell_184 (by decide) ?_
                  obtain ⟨hP, hD⟩ := su_reI (q0 := 9) (va_up (su_fl (fwI (fiU opF f0F g n)) uf i) i (wI (pm (fiU opF f0F g n) g i (k + 1)))) hP hD rfl (fun j _ => by first | rw [pm_0 c126] | rw [pm_1 (by omega)])
                  have hP : va_P D vwCl [(mm, .inr (10, [.ref nu, .ref zz, .ref on, .ref sm, .ref fw, .int tw])), (nu, .inl (cA, 2, .inr (.inr (.inr (.inr (rf2 na nc)))))), (na, .inl (cI, 20, .inl (fN g))), (nc, .inl (cI, 20, .inl (fN gb))), (zz, .inl (cI, 2, .inl (fN (sz2 n nb)))), (on, .inl (cB, 2, .inr (.inr (.inr (.inr (rf2 oa oc)))))), (oa, .inl (cL, 301, .inr (.inl u0))), (oc, .inl (cL, 301, .inr (.inl u1))), (sm, .inl (cL, 301, .inr (.inl us))), (fw, .inl (cI, 301, .inl (va_up (su_fl (fwI (fiU opF f0F g n)) uf i) i (wI (pm (fiU opF f0F g n) g i (k + 1))))))] H := hP
                  have hD : va_D A [(mm, .inr (10, [.ref nu, .ref zz, .ref on, .ref sm, .ref fw, .int tw])), (nu, .inl (cA, 2, .inr (.inr (.inr (.inr (rf2 na nc)))))), (na, .inl (cI, 20, .inl (fN g))), (nc, .inl (cI, 20, .inl (fN gb))), (zz, .inl (cI, 2, .inl (fN (sz2 n nb)))), (on, .inl (cB, 2, .inr (.inr (.inr (.inr (rf2 oa oc)))))), (oa, .inl (cL, 301, .inr (.inl u0))), (oc, .inl (cL, 301, .inr (.inl u1))), (sm, .inl (cL, 301, .inr (.inl us))), (fw, .inl (cI, 301, .inl (va_up (su_fl (fwI (fiU opF f0F g n)) uf i) i (wI (pm (fiU opF f0F g n) g i (k + 1))))))] := hD
                  exact ih100 (k + 1) (by omega) (by omega) _ _ hP hD hS _ (lv_sub hl [0, 2, 3, 4, 5] rfl)
                · have c126 : g k ≤ i := Nat.le_of_not_lt (fun q9 => c126 ((su_sublt (by omega) (by omega)).mpr q9))
                  refine lv_aload_n hx hb dX11_tell_129 rfl (lv_at hl 3 rfl) ?_
                  refine va_get (D := D) (ci := 10) (v := .ref fw) (C := RX11) (T := TX11) (N := 6) hx hb hts in_X11 hown hK hP 0 rfl rfl 4 (by decide) k_1003 (fun _ h9 => h9) rfl dX11_tell_130 ?_
                  have hsm := oF_sm g hg1 (i - g k) (by omega)
                  refine lv_iload hx hb dX11_tell_133 (lv_at hl 0 rfl) ?_
                  refine su_eqi (nI (i - g k)) (pk_sub c126) ?_
                  refine su_iald hx hb hK hP 9 0 rfl rfl (i := (i - g k)) (by omega) (by decide) (wI ((fiU opF f0F g n) (i - g k))) (by rw [va_up_lo (by omega), su_flN (by omega)]; rfl) dX11_tell_135 ?_
                  refine lv_if_lt (tgt := 181) hx hb dX11_tell_136 (by decide) (fun c136 => ?_) (fun c136 => ?_)
                  · have c136 := wI_lt c136
                    refine lv_iinc (v := nI (k + 1)) (lv' := [(4, .int (nI (k + 1))), (5, .int (nI i - nI (g k))), (3, .int (nI i)), (0, .ref mm), (1, .int (nI 0)), (2, .int (bI true))]) hx hb dX11_tell_181 hl (k := 1) rfl (su_inc _) (by decide) rfl (fun ls hl => ?_)
                    refine lv_goto (tgt := 100) hx hb dX11_tell_184 (by decide) ?_
                    obtain ⟨hP, hD⟩ := su_reI (q0 := 9) (va_up (su_fl (fwI (fiU opF f0F g n)) uf i) i (wI (pm (fiU opF f0F g n) g i (k + 1)))) hP hD rfl (fun j _ => by first | rw [pm_0 c126] | rw [pm_1 (by omega)])
                    have hP : va_P D vwCl [(mm, .inr (10, [.ref nu, .ref zz, .ref on, .ref sm, .ref fw, .int tw])), (nu, .inl (cA, 2, .inr (.inr (.inr (.inr (rf2 na nc)))))), (na, .inl (cI, 20, .inl (fN g))), (nc, .inl (cI, 20, .inl (fN gb))), (zz, .inl (cI, 2, .inl (fN (sz2 n nb)))), (on, .inl (cB, 2, .inr (.inr (.inr (.inr (rf2 oa oc)))))), (oa, .inl (cL, 301, .inr (.inl u0))), (oc, .inl (cL, 301, .inr (.inl u1))), (sm, .inl (cL, 301, .inr (.inl us))), (fw, .inl (cI, 301, .inl (va_up (su_fl (fwI (fiU opF f0F g n)) uf i) i (wI (pm (fiU opF f0F g n) g i (k + 1))))))] H := hP
                    have hD : va_D A [(mm, .inr (10, [.ref nu, .ref zz, .ref on, .ref sm, .ref fw, .int tw])), (nu, .inl (cA, 2, .inr (.inr (.inr (.inr (rf2 na nc)))))), (na, .inl (cI, 20, .inl (fN g))), (nc, .inl (cI, 20, .inl (fN gb))), (zz, .inl (cI, 2, .inl (fN (sz2 n nb)))), (on, .inl (cB, 2, .inr (.inr (.inr (.inr (rf2 oa oc)))))), (oa, .inl (cL, 301, .inr (.inl u0))), (oc, .inl (cL, 301, .inr (.inl u1))), (sm, .inl (cL, 301, .inr (.inl us))), (fw, .inl (cI, 301, .inl (va_up (su_fl (fwI (fiU opF f0F g n)) uf i) i (wI (pm (fiU opF f0F g n) g i (k + 1))))))] := hD
                    exact ih100 (k + 1) (by omega) (by omega) _ _ hP hD hS _ (lv_sub hl [0, 2, 3, 4, 5] rfl)
                  · have c136 := wI_ge c136
                    have hsm := hsm c136
                    refine lv_aload_n hx hb dX11_tell_139 rfl (lv_at hl 3 rfl) ?_
                    refine va_get (D := D) (ci := 10) (v := .ref fw) (C := RX11) (T := TX11) (N := 6) hx hb hts in_X11 hown hK hP 0 rfl rfl 4 (by decide) k_1003 (fun _ h9 => h9) rfl dX11_tell_140 ?_
                    refine lv_iload_n hx hb dX11_tell_143 rfl (lv_at hl 2 rfl) ?_
                    refine su_iald hx hb hK hP 9 0 rfl rfl (i := i) (by omega) (by decide) (wI (pm (fiU opF f0F g n) g i k)) (va_up_at) dX11_tell_144 ?_
                    refine lv_if_lt (tgt := 166) hx hb dX11_tell_145 (by decide) (fun c145 => ?_) (fun c145 => ?_)
                    · have c145 := wI_lt c145
                      refine lv_aload_n hx hb dX11_tell_166 rfl (lv_at hl 3 rfl) ?_
                      refine va_get (D := D) (ci := 10) (v := .ref fw) (C := RX11) (T := TX11) (N := 6) hx hb hts in_X11 hown hK hP 0 rfl rfl 4 (by decide) k_1003 (fun _ h9 => h9) rfl dX11_tell_167 ?_
                      refine lv_iload_n hx hb dX11_tell_170 rfl (lv_at hl 2 rfl) ?_
                      refine lv_aload_n hx hb dX11_tell_171 rfl (lv_at hl 3 rfl) ?_
                      refine va_get (D := D) (ci := 10) (v := .ref fw) (C := RX11) (T := TX11) (N := 6) hx hb hts in_X11 hown hK hP 0 rfl rfl 4 (by decide) k_1003 (fun _ h9 => h9) rfl dX11_tell_172 ?_
                      refine lv_iload hx hb dX11_tell_175 (lv_at hl 0 rfl) ?_
                      refine su_eqi (nI (i - g k)) (pk_sub c126) ?_
                      refine su_iald hx hb hK hP 9 0 rfl rfl (i := (i - g k)) (by omega) (by decide) (nI ((fiU opF f0F g n) (i - g k))) (by rw [va_up_lo (by omega), su_flN (by omega), fwI_w, wI_n c136]) dX11_tell_177 ?_
                      refine lv_iconst (v := nI 1) hx hb dX11_tell_178 (by decide) ?_
                      refine lv_iadd hx hb dX11_tell_179 ?_
                      refine su_eqi (nI (((fiU opF f0F g n) (i - g k)) + 1)) (nI_add _ _) ?_
                      refine su_iast hx hb hK hP hD hS 9 0 rfl rfl (i := i) (by omega) (by decide) (va_up (su_fl (fwI (fiU opF f0F g n)) uf i) i (wI (pm (fiU opF f0F g n) g i (k + 1)))) (fun j _ => by rw [va_upS, pm_2 c126 (by omega), wI_n (by omega)]) dX11_tell_180 (fun H locs hP hD hS => ?_)
                      have hP : va_P D vwCl [(mm, .inr (10, [.ref nu, .ref zz, .ref on, .ref sm, .ref fw, .int tw])), (nu, .inl (cA, 2, .inr (.inr (.inr (.inr (rf2 na nc)))))), (na, .inl (cI, 20, .inl (fN g))), (nc, .inl (cI, 20, .inl (fN gb))), (zz, .inl (cI, 2, .inl (fN (sz2 n nb)))), (on, .inl (cB, 2, .inr (.inr (.inr (.inr (rf2 oa oc)))))), (oa, .inl (cL, 301, .inr (.inl u0))), (oc, .inl (cL, 301, .inr (.inl u1))), (sm, .inl (cL, 301, .inr (.inl us))), (fw, .inl (cI, 301, .inl (va_up (su_fl (fwI (fiU opF f0F g n)) uf i) i (wI (pm (fiU opF f0F g n) g i (k + 1))))))] H := hP
                      have hD : va_D A [(mm, .inr (10, [.ref nu, .ref zz, .ref on, .ref sm, .ref fw, .int tw])), (nu, .inl (cA, 2, .inr (.inr (.inr (.inr (rf2 na nc)))))), (na, .inl (cI, 20, .inl (fN g))), (nc, .inl (cI, 20, .inl (fN gb))), (zz, .inl (cI, 2, .inl (fN (sz2 n nb)))), (on, .inl (cB, 2, .inr (.inr (.inr (.inr (rf2 oa oc)))))), (oa, .inl (cL, 301, .inr (.inl u0))), (oc, .inl (cL, 301, .inr (.inl u1))), (sm, .inl (cL, 301, .inr (.inl us))), (fw, .inl (cI, 301, .inl (va_up (su_fl (fwI (fiU opF f0F g n)) uf i) i (wI (pm (fiU opF f0F g n) g i (k + 1))))))] := hD
                      refine lv_iinc (v := nI (k + 1)) (lv' := [(4, .int (nI (k + 1))), (5, .int (nI i - nI (g k))), (3, .int (nI i)), (0, .ref mm), (1, .int (nI 0)), (2, .int (bI true))]) hx hb dX11_tell_181 hl (k := 1) rfl (su_inc _) (by decide) rfl (fun ls hl => ?_)
                      refine lv_goto (tgt := 100) hx hb dX11_tell_184 (by decide) ?_
                      exact ih100 (k + 1) (by omega) (by omega) _ _ hP hD hS _ (lv_sub hl [0, 2, 3, 4, 5] rfl)
                    · have c145 := wI_ge c145
                      refine lv_aload_n hx hb dX11_tell_148 rfl (lv_at hl 3 rfl) ?_
                      refine va_get (D := D) (ci := 10) (v := .ref fw) (C := RX11) (T := TX11) (N := 6) hx hb hts in_X11 hown hK hP 0 rfl rfl 4 (by decide) k_1003 (fun _ h9 => h9) rfl dX11_tell_149 ?_
                      refine lv_iload hx hb dX11_tell_152 (lv_at hl 0 rfl) ?_
                      refine su_eqi (nI (i - g k)) (pk_sub c126) ?_
                      refine su_iald hx hb hK hP 9 0 rfl rfl (i := (i - g k)) (by omega) (by decide) (nI ((fiU opF f0F g n) (i - g k))) (by rw [va_up_lo (by omega), su_flN (by omega), fwI_w, wI_n c136]) dX11_tell_154 ?_
                      refine lv_iconst (v := nI 1) hx hb dX11_tell_155 (by decide) ?_
                      refine lv_iadd hx hb dX11_tell_156 ?_
                      refine su_eqi (nI (((fiU opF f0F g n) (i - g k)) + 1)) (nI_add _ _) ?_
                      refine lv_aload_n hx hb dX11_tell_157 rfl (lv_at hl 3 rfl) ?_
                      refine va_get (D := D) (ci := 10) (v := .ref fw) (C := RX11) (T := TX11) (N := 6) hx hb hts in_X11 hown hK hP 0 rfl rfl 4 (by decide) k_1003 (fun _ h9 => h9) rfl dX11_tell_158 ?_
                      refine lv_iload_n hx hb dX11_tell_161 rfl (lv_at hl 2 rfl) ?_
                      refine su_iald hx hb hK hP 9 0 rfl rfl (i := i) (by omega) (by decide) (nI (pm (fiU opF f0F g n) g i k)) (by rw [va_up_at, wI_n c145]) dX11_tell_162 ?_
                      refine lv_icmp_ge (tgt := 181) hx hb dX11_tell_163 (by decide) (fun c163 => ?_) (fun c163 => ?_)
                      · have c163 : pm (fiU opF f0F g n) g i k ≤ ((fiU opF f0F g n) (i - g k)) + 1 := su_ge (by omega) (by omega) c163
                        refine lv_iinc (v := nI (k + 1)) (lv' := [(4, .int (nI (k + 1))), (5, .int (nI i - nI (g k))), (3, .int (nI i)), (0, .ref mm), (1, .int (nI 0)), (2, .int (bI true))]) hx hb dX11_tell_181 hl (k := 1) rfl (su_inc _) (by decide) rfl (fun ls hl => ?_)
                        refine lv_goto (tgt := 100) hx hb dX11_tell_184 (by decide) ?_
                        obtain ⟨hP, hD⟩ := su_reI (q0 := 9) (va_up (su_fl (fwI (fiU opF f0F g n)) uf i) i (wI (pm (fiU opF f0F g n) g i (k + 1)))) hP hD rfl (fun j _ => by first | rw [pm_0 c126] | rw [pm_1 (by omega)])
                        have hP : va_P D vwCl [(mm, .inr (10, [.ref nu, .ref zz, .ref on, .ref sm, .ref fw, .int tw])), (nu, .inl (cA, 2, .inr (.inr (.inr (.inr (rf2 na nc)))))), (na, .inl (cI, 20, .inl (fN g))), (nc, .inl (cI, 20, .inl (fN gb))), (zz, .inl (cI, 2, .inl (fN (sz2 n nb)))), (on, .inl (cB, 2, .inr (.inr (.inr (.inr (rf2 oa oc)))))), (oa, .inl (cL, 301, .inr (.inl u0))), (oc, .inl (cL, 301, .inr (.inl u1))), (sm, .inl (cL, 301, .inr (.inl us))), (fw, .inl (cI, 301, .inl (va_up (su_fl (fwI (fiU opF f0F g n)) uf i) i (wI (pm (fiU opF f0F g n) g i (k + 1))))))] H := hP
                        have hD : va_D A [(mm, .inr (10, [.ref nu, .ref zz, .ref on, .ref sm, .ref fw, .int tw])), (nu, .inl (cA, 2, .inr (.inr (.inr (.inr (rf2 na nc)))))), (na, .inl (cI, 20, .inl (fN g))), (nc, .inl (cI, 20, .inl (fN gb))), (zz, .inl (cI, 2, .inl (fN (sz2 n nb)))), (on, .inl (cB, 2, .inr (.inr (.inr (.inr (rf2 oa oc)))))), (oa, .inl (cL, 301, .inr (.inl u0))), (oc, .inl (cL, 301, .inr (.inl u1))), (sm, .inl (cL, 301, .inr (.inl us))), (fw, .inl (cI, 301, .inl (va_up (su_fl (fwI (fiU opF f0F g n)) uf i) i (wI (pm (fiU opF f0F g n) g i (k + 1))))))] := hD
                        exact ih100 (k + 1) (by omega) (by omega) _ _ hP hD hS _ (lv_sub hl [0, 2, 3, 4, 5] rfl)
                      · have c163 : ((fiU opF f0F g n) (i - g k)) + 1 < pm (fiU opF f0F g n) g i k := su_nge (by omega) (by omega) c163
                        refine lv_aload_n hx hb dX11_tell_166 rfl (lv_at hl 3 rfl) ?_
                        refine va_get (D := D) (ci := 10) (v := .ref fw) (C := RX11) (T := TX11) (N := 6) hx hb hts in_X11 hown hK hP 0 rfl rfl 4 (by decide) k_1003 (fun _ h9 => h9) rfl dX11_tell_167 ?_
                        refine lv_iload_n hx hb dX11_tell_170 rfl (lv_at hl 2 rfl) ?_
                        refine lv_aload_n hx hb dX11_tell_171 rfl (lv_at hl 3 rfl) ?_
                        refine va_get (D := D) (ci := 10) (v := .ref fw) (C := RX11) (T := TX11) (N := 6) hx hb hts in_X11 hown hK hP 0 rfl rfl 4 (by decide) k_1003 (fun _ h9 => h9) rfl dX11_tell_172 ?_
                        refine lv_iload hx hb dX11_tell_175 (lv_at hl 0 rfl) ?_
                        refine su_eqi (nI (i - g k)) (pk_sub c126) ?_
                        refine su_iald hx hb hK hP 9 0 rfl rfl (i := (i - g k)) (by omega) (by decide) (nI ((fiU opF f0F g n) (i - g k))) (by rw [va_up_lo (by omega), su_flN (by omega), fwI_w, wI_n c136]) dX11_tell_177 ?_
                        refine lv_iconst (v := nI 1) hx hb dX11_tell_178 (by decide) ?_
                        refine lv_iadd hx hb dX11_tell_179 ?_
                        refine su_eqi (nI (((fiU opF f0F g n) (i - g k)) + 1)) (nI_add _ _) ?_
                        refine su_iast hx hb hK hP hD hS 9 0 rfl rfl (i := i) (by omega) (by decide) (va_up (su_fl (fwI (fiU opF f0F g n)) uf i) i (wI (pm (fiU opF f0F g n) g i (k + 1)))) (fun j _ => by rw [va_upS, pm_2 c126 (by omega), wI_n (by omega)]) dX11_tell_180 (fun H locs hP hD hS => ?_)
                        have hP : va_P D vwCl [(mm, .inr (10, [.ref nu, .ref zz, .ref on, .ref sm, .ref fw, .int tw])), (nu, .inl (cA, 2, .inr (.inr (.inr (.inr (rf2 na nc)))))), (na, .inl (cI, 20, .inl (fN g))), (nc, .inl (cI, 20, .inl (fN gb))), (zz, .inl (cI, 2, .inl (fN (sz2 n nb)))), (on, .inl (cB, 2, .inr (.inr (.inr (.inr (rf2 oa oc)))))), (oa, .inl (cL, 301, .inr (.inl u0))), (oc, .inl (cL, 301, .inr (.inl u1))), (sm, .inl (cL, 301, .inr (.inl us))), (fw, .inl (cI, 301, .inl (va_up (su_fl (fwI (fiU opF f0F g n)) uf i) i (wI (pm (fiU opF f0F g n) g i (k + 1))))))] H := hP
                        have hD : va_D A [(mm, .inr (10, [.ref nu, .ref zz, .ref on, .ref sm, .ref fw, .int tw])), (nu, .inl (cA, 2, .inr (.inr (.inr (.inr (rf2 na nc)))))), (na, .inl (cI, 20, .inl (fN g))), (nc, .inl (cI, 20, .inl (fN gb))), (zz, .inl (cI, 2, .inl (fN (sz2 n nb)))), (on, .inl (cB, 2, .inr (.inr (.inr (.inr (rf2 oa oc)))))), (oa, .inl (cL, 301, .inr (.inl u0))), (oc, .inl (cL, 301, .inr (.inl u1))), (sm, .inl (cL, 301, .inr (.inl us))), (fw, .inl (cI, 301, .inl (va_up (su_fl (fwI (fiU opF f0F g n)) uf i) i (wI (pm (fiU opF f0F g n) g i (k + 1))))))] := hD
                        refine lv_iinc (v := nI (k + 1)) (lv' := [(4, .int (nI (k + 1))), (5, .int (nI i - nI (g k))), (3, .int (nI i)), (0, .ref mm), (1, .int (nI 0)), (2, .int (bI true))]) hx hb dX11_tell_181 hl (k := 1) rfl (su_inc _) (by decide) rfl (fun ls hl => ?_)
                        refine lv_goto (tgt := 100) hx hb dX11_tell_184 (by decide) ?_
                        exact ih100 (k + 1) (by omega) (by omega) _ _ hP hD hS _ (lv_sub hl [0, 2, 3, 4, 5] rfl)
          exact loop100 ((n - (0)) + 1) (0) (by omega) (by omega) _ _ hP hD hS _ (lv_sub hl [0, 1, 2, 3, 4] rfl)
    exact loop83 ((301 - (1)) + 1) (1) (by omega) (by omega) (by omega) _ _ hP hD hS _ (lv_sub hl [0, 1, 2, 3] rfl)
  · have c1 : true = false := bI_e c1
    exact absurd c1 (by decide)
set_option maxHeartbeats 4000000 in
set_option maxRecDepth 100000 in
theorem m_sumOfAll1 (l : Launch) (D : va_G) (cI cL cZ : ClassId) (sz : Nat) (cA : ClassId) (cB : ClassId) (mm : Nat) (nu : Nat) (na : Nat) (nc : Nat) (zz : Nat) (on : Nat) (oa : Nat) (oc : Nat) (sm : Nat) (fw : Nat) (g : Nat → Nat) (n : Nat) (gb : Nat → Nat) (nb : Nat) (tw : Int32) (u0 : Nat → Int64) (u1 : Nat → Int64) (us : Nat → Int64) (uf : Nat → Int32) (hn : n ≤ 20) (hnb : nb ≤ 20) :
    Met l yX11_sumOfAll (ws_ yX11_sumOfAll cX11_sumOfAll 4 (some .int)) { frames := 0, cells := 0, slots := 0, locals := 0 } (su_pre D (su_T5 cI cL cZ cA cB) sz [(mm, .inr (10, [.ref nu, .ref zz, .ref on, .ref sm, .ref fw, .int tw])), (nu, .inl (cA, 2, .inr (.inr (.inr (.inr (rf2 na nc)))))), (na, .inl (cI, 20, .inl (fN g))), (nc, .inl (cI, 20, .inl (fN gb))), (zz, .inl (cI, 2, .inl (fN (sz2 n nb)))), (on, .inl (cB, 2, .inr (.inr (.inr (.inr (rf2 oa oc)))))), (oa, .inl (cL, 301, .inr (.inl u0))), (oc, .inl (cL, 301, .inr (.inl u1))), (sm, .inl (cL, 301, .inr (.inl us))), (fw, .inl (cI, 301, .inl uf))] [.ref mm, .int (nI 1)]) (su_qi D (va_A [(mm, .inr (10, [.ref nu, .ref zz, .ref on, .ref sm, .ref fw, .int tw])), (nu, .inl (cA, 2, .inr (.inr (.inr (.inr (rf2 na nc)))))), (na, .inl (cI, 20, .inl (fN g))), (nc, .inl (cI, 20, .inl (fN gb))), (zz, .inl (cI, 2, .inl (fN (sz2 n nb)))), (on, .inl (cB, 2, .inr (.inr (.inr (.inr (rf2 oa oc)))))), (oa, .inl (cL, 301, .inr (.inl u0))), (oc, .inl (cL, 301, .inr (.inl u1))), (sm, .inl (cL, 301, .inr (.inl us))), (fw, .inl (cI, 301, .inl uf))] sz) (fun (r : Int32) (uu : Unit) => r = nI (su_sm gb nb)) (fun (uu : Unit) => [(mm, .inr (10, [.ref nu, .ref zz, .ref on, .ref sm, .ref fw, .int tw])), (nu, .inl (cA, 2, .inr (.inr (.inr (.inr (rf2 na nc)))))), (na, .inl (cI, 20, .inl (fN g))), (nc, .inl (cI, 20, .inl (fN gb))), (zz, .inl (cI, 2, .inl (fN (sz2 n nb)))), (on, .inl (cB, 2, .inr (.inr (.inr (.inr (rf2 oa oc)))))), (oa, .inl (cL, 301, .inr (.inl u0))), (oc, .inl (cL, 301, .inr (.inl u1))), (sm, .inl (cL, 301, .inr (.inl us))), (fw, .inl (cI, 301, .inl uf))])) 0 0 (va_A [(mm, .inr (10, [.ref nu, .ref zz, .ref on, .ref sm, .ref fw, .int tw])), (nu, .inl (cA, 2, .inr (.inr (.inr (.inr (rf2 na nc)))))), (na, .inl (cI, 20, .inl (fN g))), (nc, .inl (cI, 20, .inl (fN gb))), (zz, .inl (cI, 2, .inl (fN (sz2 n nb)))), (on, .inl (cB, 2, .inr (.inr (.inr (.inr (rf2 oa oc)))))), (oa, .inl (cL, 301, .inr (.inl u0))), (oc, .inl (cL, 301, .inr (.inl u1))), (sm, .inl (cL, 301, .inr (.inl us))), (fw, .inl (cI, 301, .inl uf))] sz) := by
  refine su_met (y := yX11_sumOfAll) (av := [.ref mm, .int (nI 1)]) (Qf := fun A => su_qi D A (fun (r : Int32) (uu : Unit) => r = nI (su_sm gb nb)) (fun (uu : Unit) => [(mm, .inr (10, [.ref nu, .ref zz, .ref on, .ref sm, .ref fw, .int tw])), (nu, .inl (cA, 2, .inr (.inr (.inr (.inr (rf2 na nc)))))), (na, .inl (cI, 20, .inl (fN g))), (nc, .inl (cI, 20, .inl (fN gb))), (zz, .inl (cI, 2, .inl (fN (sz2 n nb)))), (on, .inl (cB, 2, .inr (.inr (.inr (.inr (rf2 oa oc)))))), (oa, .inl (cL, 301, .inr (.inl u0))), (oc, .inl (cL, 301, .inr (.inl u1))), (sm, .inl (cL, 301, .inr (.inl us))), (fw, .inl (cI, 301, .inl uf))])) (cc := cX11_sumOfAll) (maxL := 4) (ret := (some .int)) (by decide) (Nat.le_of_ble_eq_true rfl) ?_
  intro p e s m args below meth c R Q A H locs ls hx hb hr hlocks hin hml hown hts hN hP hK hD hA hS hRm hQ hl
  have hown : s.vm.findClass RX11 = some m.cls := hown
  have hl : lv_has ls 4 [(0, .ref mm), (1, .int (nI 1))] := hl
  have hR3 : 0 ≤ R.cells := by rw [hRm]; exact Nat.le_of_ble_eq_true rfl
  have hR4 : 0 ≤ R.slots := by rw [hRm]; exact Nat.le_of_ble_eq_true rfl
  have k_1000 := hts _ q_1000
  have k_999 := hts _ q_999
  refine lv_iconst (v := nI 0) hx hb dX11_sumOfAll_0 (by decide) ?_
  refine lv_istore_n (lv' := [(2, .int (nI 0)), (0, .ref mm), (1, .int (nI 1))]) hx hb dX11_sumOfAll_1 rfl hl (by decide) rfl (fun ls hl => ?_)
  refine lv_iconst (v := nI 0) hx hb dX11_sumOfAll_2 (by decide) ?_
  refine lv_istore_n (lv' := [(3, .int (nI 0)), (2, .int (nI 0)), (0, .ref mm), (1, .int (nI 1))]) hx hb dX11_sumOfAll_3 rfl hl (by decide) rfl (fun ls hl => ?_)
  have loop4 : ∀ (k4 : Nat) (i : Nat), (i ≤ nb) → nb - i < k4 → ∀ (H : Heap) (locs : List Loc), va_P D vwCl [(mm, .inr (10, [.ref nu, .ref zz, .ref on, .ref sm, .ref fw, .int tw])), (nu, .inl (cA, 2, .inr (.inr (.inr (.inr (rf2 na nc)))))), (na, .inl (cI, 20, .inl (fN g))), (nc, .inl (cI, 20, .inl (fN gb))), (zz, .inl (cI, 2, .inl (fN (sz2 n nb)))), (on, .inl (cB, 2, .inr (.inr (.inr (.inr (rf2 oa oc)))))), (oa, .inl (cL, 301, .inr (.inl u0))), (oc, .inl (cL, 301, .inr (.inl u1))), (sm, .inl (cL, 301, .inr (.inl us))), (fw, .inl (cI, 301, .inl uf))] H → va_D A [(mm, .inr (10, [.ref nu, .ref zz, .ref on, .ref sm, .ref fw, .int tw])), (nu, .inl (cA, 2, .inr (.inr (.inr (.inr (rf2 na nc)))))), (na, .inl (cI, 20, .inl (fN g))), (nc, .inl (cI, 20, .inl (fN gb))), (zz, .inl (cI, 2, .inl (fN (sz2 n nb)))), (on, .inl (cB, 2, .inr (.inr (.inr (.inr (rf2 oa oc)))))), (oa, .inl (cL, 301, .inr (.inl u0))), (oc, .inl (cL, 301, .inr (.inl u1))), (sm, .inl (cL, 301, .inr (.inl us))), (fw, .inl (cI, 301, .inl uf))] → va_S A s.heap H locs → ∀ ls : Array Slot, lv_has ls 4 [(3, .int (nI i)), (2, .int (nI (su_sm gb i))), (0, .ref mm), (1, .int (nI 1))] → W p l e R s m args below meth c H locs 0 0 Q (F0 m 4 ls []) := by
    intro k4
    induction k4 with
    | zero => intro i hi hk; exact absurd hk (Nat.not_lt_zero _)
    | succ k4 ih4 =>
      intro i hi hk4 H locs hP hD hS ls hl
      refine lv_iload_n hx hb dX11_sumOfAll_4 rfl (lv_at hl 0 rfl) ?_
      refine lv_aload_n hx hb dX11_sumOfAll_5 rfl (lv_at hl 2 rfl) ?_
      refine va_get (D := D) (ci := 10) (v := .ref zz) (C := RX11) (T := TX11) (N := 6) hx hb hts in_X11 hown hK hP 0 rfl rfl 1 (by decide) k_1000 (fun _ h9 => h9) rfl dX11_sumOfAll_6 ?_
      refine lv_iload_n hx hb dX11_sumOfAll_9 rfl (lv_at hl 3 rfl) ?_
      refine su_iald hx hb hK hP 4 0 rfl rfl (i := 1) (by decide) (by decide) (nI nb) (rfl) dX11_sumOfAll_10 ?_
      refine lv_icmp_ge (tgt := 31) hx hb dX11_sumOfAll_11 (by decide) (fun c11 => ?_) (fun c11 => ?_)
      · have c11 : nb ≤ i := su_ge (by omega) (by omega) c11
        refine lv_iload_n hx hb dX11_sumOfAll_31 rfl (lv_at hl 1 rfl) ?_
        rw [hQ]
        exact su_ei hx hb hr hlocks hS dX11_sumOfAll_32 () (by rw [show i = nb by omega]) hP hD
      · have c11 : i < nb := su_nge (by omega) (by omega) c11
        refine lv_iload_n hx hb dX11_sumOfAll_14 rfl (lv_at hl 1 rfl) ?_
        refine lv_aload_n hx hb dX11_sumOfAll_15 rfl (lv_at hl 2 rfl) ?_
        refine va_get (D := D) (ci := 10) (v := .ref nu) (C := RX11) (T := TX11) (N := 6) hx hb hts in_X11 hown hK hP 0 rfl rfl 0 (by decide) k_999 (fun _ h9 => h9) rfl dX11_sumOfAll_16 ?_
        refine lv_iload_n hx hb dX11_sumOfAll_19 rfl (lv_at hl 3 rfl) ?_
        refine su_aald hx hb hK hP 1 3 rfl rfl (i := 1) (by decide) (by decide) (nc) rfl dX11_sumOfAll_20 ?_
        refine lv_iload_n hx hb dX11_sumOfAll_21 rfl (lv_at hl 0 rfl) ?_
        refine su_iald hx hb hK hP 3 0 rfl rfl (i := i) (by omega) (by decide) (nI (gb i)) (rfl) dX11_sumOfAll_22 ?_
        refine lv_iadd hx hb dX11_sumOfAll_23 ?_
        refine su_eqi (nI (su_sm gb i + (gb i))) (nI_add _ _) ?_
        refine lv_istore_n (lv' := [(2, .int (nI (su_sm gb i + (gb i)))), (3, .int (nI i)), (0, .ref mm), (1, .int (nI 1))]) hx hb dX11_sumOfAll_24 rfl hl (by decide) rfl (fun ls hl => ?_)
        refine lv_iinc (v := nI (i + 1)) (lv' := [(3, .int (nI (i + 1))), (2, .int (nI (su_sm gb i + (gb i)))), (0, .ref mm), (1, .int (nI 1))]) hx hb dX11_sumOfAll_25 hl (k := 1) rfl (su_inc _) (by decide) rfl (fun ls hl => ?_)
        refine lv_goto (tgt := 4) hx hb dX11_sumOfAll_28 (by decide) ?_
        exact ih4 (i + 1) (by omega) (by omega) _ _ hP hD hS _ (lv_sub hl [0, 1, 2, 3] rfl)
  exact loop4 ((nb - (0)) + 1) (0) (by omega) (by omega) _ _ hP hD hS _ (lv_sub hl [0, 1, 2, 3] rfl)
set_option maxHeartbeats 4000000 in
set_option maxRecDepth 100000 in
theorem m_count1o (l : Launch) (D : va_G) (cI cL cZ : ClassId) (sz : Nat) (cA : ClassId) (cB : ClassId) (mm : Nat) (nu : Nat) (na : Nat) (nc : Nat) (zz : Nat) (on : Nat) (oa : Nat) (oc : Nat) (sm : Nat) (fw : Nat) (g : Nat → Nat) (n : Nat) (gb : Nat → Nat) (nb : Nat) (tw : Int32) (u0 : Nat → Int64) (u1 : Nat → Int64) (us : Nat → Int64) (uf : Nat → Int32) (v : Nat) (hn : n ≤ 20) (hnb : nb ≤ 20) (hg : ∀ k, k < n → 1 ≤ g k ∧ g k ≤ 300) (hgb : ∀ k, k < nb → 1 ≤ gb k ∧ gb k ≤ 300) (hv : v < 2 ^ 31) :
    Met l yX11_count (ws_ yX11_count cX11_count 7 none) { frames := 0, cells := 0, slots := 0, locals := 0 } (su_pre D (su_T5 cI cL cZ cA cB) sz [(mm, .inr (10, [.ref nu, .ref zz, .ref on, .ref sm, .ref fw, .int tw])), (nu, .inl (cA, 2, .inr (.inr (.inr (.inr (rf2 na nc)))))), (na, .inl (cI, 20, .inl (fN g))), (nc, .inl (cI, 20, .inl (fN gb))), (zz, .inl (cI, 2, .inl (fN (sz2 n nb)))), (on, .inl (cB, 2, .inr (.inr (.inr (.inr (rf2 oa oc)))))), (oa, .inl (cL, 301, .inr (.inl u0))), (oc, .inl (cL, 301, .inr (.inl u1))), (sm, .inl (cL, 301, .inr (.inl us))), (fw, .inl (cI, 301, .inl uf))] [.ref mm, .ref oc, .int (nI 1), .int (nI v)]) (su_qv D (va_A [(mm, .inr (10, [.ref nu, .ref zz, .ref on, .ref sm, .ref fw, .int tw])), (nu, .inl (cA, 2, .inr (.inr (.inr (.inr (rf2 na nc)))))), (na, .inl (cI, 20, .inl (fN g))), (nc, .inl (cI, 20, .inl (fN gb))), (zz, .inl (cI, 2, .inl (fN (sz2 n nb)))), (on, .inl (cB, 2, .inr (.inr (.inr (.inr (rf2 oa oc)))))), (oa, .inl (cL, 301, .inr (.inl u0))), (oc, .inl (cL, 301, .inr (.inl u1))), (sm, .inl (cL, 301, .inr (.inl us))), (fw, .inl (cI, 301, .inl uf))] sz) (fun (uu : Unit) => True) (fun (uu : Unit) => [(mm, .inr (10, [.ref nu, .ref zz, .ref on, .ref sm, .ref fw, .int tw])), (nu, .inl (cA, 2, .inr (.inr (.inr (.inr (rf2 na nc)))))), (na, .inl (cI, 20, .inl (fN g))), (nc, .inl (cI, 20, .inl (fN gb))), (zz, .inl (cI, 2, .inl (fN (sz2 n nb)))), (on, .inl (cB, 2, .inr (.inr (.inr (.inr (rf2 oa oc)))))), (oa, .inl (cL, 301, .inr (.inl u0))), (oc, .inl (cL, 301, .inr (.inl (fL (ctP gb v nb))))), (sm, .inl (cL, 301, .inr (.inl us))), (fw, .inl (cI, 301, .inl uf))])) 0 0 (va_A [(mm, .inr (10, [.ref nu, .ref zz, .ref on, .ref sm, .ref fw, .int tw])), (nu, .inl (cA, 2, .inr (.inr (.inr (.inr (rf2 na nc)))))), (na, .inl (cI, 20, .inl (fN g))), (nc, .inl (cI, 20, .inl (fN gb))), (zz, .inl (cI, 2, .inl (fN (sz2 n nb)))), (on, .inl (cB, 2, .inr (.inr (.inr (.inr (rf2 oa oc)))))), (oa, .inl (cL, 301, .inr (.inl u0))), (oc, .inl (cL, 301, .inr (.inl u1))), (sm, .inl (cL, 301, .inr (.inl us))), (fw, .inl (cI, 301, .inl uf))] sz) := by
  refine su_met (y := yX11_count) (av := [.ref mm, .ref oc, .int (nI 1), .int (nI v)]) (Qf := fun A => su_qv D A (fun (uu : Unit) => True) (fun (uu : Unit) => [(mm, .inr (10, [.ref nu, .ref zz, .ref on, .ref sm, .ref fw, .int tw])), (nu, .inl (cA, 2, .inr (.inr (.inr (.inr (rf2 na nc)))))), (na, .inl (cI, 20, .inl (fN g))), (nc, .inl (cI, 20, .inl (fN gb))), (zz, .inl (cI, 2, .inl (fN (sz2 n nb)))), (on, .inl (cB, 2, .inr (.inr (.inr (.inr (rf2 oa oc)))))), (oa, .inl (cL, 301, .inr (.inl u0))), (oc, .inl (cL, 301, .inr (.inl (fL (ctP gb v nb))))), (sm, .inl (cL, 301, .inr (.inl us))), (fw, .inl (cI, 301, .inl uf))])) (cc := cX11_count) (maxL := 7) (ret := none) (by decide) (Nat.le_of_ble_eq_true rfl) ?_
  intro p e s m args below meth c R Q A H locs ls hx hb hr hlocks hin hml hown hts hN hP hK hD hA hS hRm hQ hl
  have hown : s.vm.findClass RX11 = some m.cls := hown
  have hl : lv_has ls 7 [(0, .ref mm), (1, .ref oc), (2, .int (nI 1)), (3, .int (nI v))] := hl
  have hR3 : 0 ≤ R.cells := by rw [hRm]; exact Nat.le_of_ble_eq_true rfl
  have hR4 : 0 ≤ R.slots := by rw [hRm]; exact Nat.le_of_ble_eq_true rfl
  have k_1000 := hts _ q_1000
  have k_999 := hts _ q_999
  refine lv_iconst (v := nI 1) hx hb dX11_count_0 (by decide) ?_
  refine lv_istore (lv' := [(4, .int (nI 1)), (0, .ref mm), (1, .ref oc), (2, .int (nI 1)), (3, .int (nI v))]) hx hb dX11_count_1 hl (by decide) rfl (fun ls hl => ?_)
  have loop3 : ∀ (k3 : Nat) (j : Nat), (1 ≤ j) → (j ≤ 301) → 301 - j < k3 → ∀ (H : Heap) (locs : List Loc), va_P D vwCl [(mm, .inr (10, [.ref nu, .ref zz, .ref on, .ref sm, .ref fw, .int tw])), (nu, .inl (cA, 2, .inr (.inr (.inr (.inr (rf2 na nc)))))), (na, .inl (cI, 20, .inl (fN g))), (nc, .inl (cI, 20, .inl (fN gb))), (zz, .inl (cI, 2, .inl (fN (sz2 n nb)))), (on, .inl (cB, 2, .inr (.inr (.inr (.inr (rf2 oa oc)))))), (oa, .inl (cL, 301, .inr (.inl u0))), (oc, .inl (cL, 301, .inr (.inl (zf u1 j)))), (sm, .inl (cL, 301, .inr (.inl us))), (fw, .inl (cI, 301, .inl uf))] H → va_D A [(mm, .inr (10, [.ref nu, .ref zz, .ref on, .ref sm, .ref fw, .int tw])), (nu, .inl (cA, 2, .inr (.inr (.inr (.inr (rf2 na nc)))))), (na, .inl (cI, 20, .inl (fN g))), (nc, .inl (cI, 20, .inl (fN gb))), (zz, .inl (cI, 2, .inl (fN (sz2 n nb)))), (on, .inl (cB, 2, .inr (.inr (.inr (.inr (rf2 oa oc)))))), (oa, .inl (cL, 301, .inr (.inl u0))), (oc, .inl (cL, 301, .inr (.inl (zf u1 j)))), (sm, .inl (cL, 301, .inr (.inl us))), (fw, .inl (cI, 301, .inl uf))] → va_S A s.heap H locs → ∀ ls : Array Slot, lv_has ls 7 [(4, .int (nI j)), (0, .ref mm), (1, .ref oc), (2, .int (nI 1)), (3, .int (nI v))] → W p l e R s m args below meth c H locs 0 0 Q (F0 m 3 ls []) := by
    intro k3
    induction k3 with
    | zero => intro j hj hj2 hk; exact absurd hk (Nat.not_lt_zero _)
    | succ k3 ih3 =>
      intro j hj hj2 hk3 H locs hP hD hS ls hl
      refine lv_iload hx hb dX11_count_3 (lv_at hl 0 rfl) ?_
      refine lv_sipush (v := nI 300) hx hb dX11_count_5 (by decide) ?_
      refine lv_icmp_gt (tgt := 22) hx hb dX11_count_8 (by decide) (fun c8 => ?_) (fun c8 => ?_)
      · have c8 : 300 < j := su_lt (by omega) (by omega) c8
        refine lv_aload_n hx hb dX11_count_22 rfl (lv_at hl 2 rfl) ?_
        refine lv_iconst (v := nI 0) hx hb dX11_count_23 (by decide) ?_
        refine lv_lconst (v := lN 1) hx hb dX11_count_24 (by decide) ?_
        refine su_last hx hb hK hP hD hS 7 1 rfl rfl (i := 0) (by decide) (by decide) (fL f0W) (fun j hj => zfN (by omega) hj) dX11_count_25 (fun H locs hP hD hS => ?_)
        have hP : va_P D vwCl [(mm, .inr (10, [.ref nu, .ref zz, .ref on, .ref sm, .ref fw, .int tw])), (nu, .inl (cA, 2, .inr (.inr (.inr (.inr (rf2 na nc)))))), (na, .inl (cI, 20, .inl (fN g))), (nc, .inl (cI, 20, .inl (fN gb))), (zz, .inl (cI, 2, .inl (fN (sz2 n nb)))), (on, .inl (cB, 2, .inr (.inr (.inr (.inr (rf2 oa oc)))))), (oa, .inl (cL, 301, .inr (.inl u0))), (oc, .inl (cL, 301, .inr (.inl (fL f0W)))), (sm, .inl (cL, 301, .inr (.inl us))), (fw, .inl (cI, 301, .inl uf))] H := hP
        have hD : va_D A [(mm, .inr (10, [.ref nu, .ref zz, .ref on, .ref sm, .ref fw, .int tw])), (nu, .inl (cA, 2, .inr (.inr (.inr (.inr (rf2 na nc)))))), (na, .inl (cI, 20, .inl (fN g))), (nc, .inl (cI, 20, .inl (fN gb))), (zz, .inl (cI, 2, .inl (fN (sz2 n nb)))), (on, .inl (cB, 2, .inr (.inr (.inr (.inr (rf2 oa oc)))))), (oa, .inl (cL, 301, .inr (.inl u0))), (oc, .inl (cL, 301, .inr (.inl (fL f0W)))), (sm, .inl (cL, 301, .inr (.inl us))), (fw, .inl (cI, 301, .inl uf))] := hD
        refine lv_iconst (v := nI 0) hx hb dX11_count_26 (by decide) ?_
        refine lv_istore (lv' := [(4, .int (nI 0)), (0, .ref mm), (1, .ref oc), (2, .int (nI 1)), (3, .int (nI v))]) hx hb dX11_count_27 hl (by decide) rfl (fun ls hl => ?_)
        have loop29 : ∀ (k29 : Nat) (i : Nat), (i ≤ nb) → nb - i < k29 → ∀ (H : Heap) (locs : List Loc), va_P D vwCl [(mm, .inr (10, [.ref nu, .ref zz, .ref on, .ref sm, .ref fw, .int tw])), (nu, .inl (cA, 2, .inr (.inr (.inr (.inr (rf2 na nc)))))), (na, .inl (cI, 20, .inl (fN g))), (nc, .inl (cI, 20, .inl (fN gb))), (zz, .inl (cI, 2, .inl (fN (sz2 n nb)))), (on, .inl (cB, 2, .inr (.inr (.inr (.inr (rf2 oa oc)))))), (oa, .inl (cL, 301, .inr (.inl u0))), (oc, .inl (cL, 301, .inr (.inl (fL (ctP gb v i))))), (sm, .inl (cL, 301, .inr (.inl us))), (fw, .inl (cI, 301, .inl uf))] H → va_D A [(mm, .inr (10, [.ref nu, .ref zz, .ref on, .ref sm, .ref fw, .int tw])), (nu, .inl (cA, 2, .inr (.inr (.inr (.inr (rf2 na nc)))))), (na, .inl (cI, 20, .inl (fN g))), (nc, .inl (cI, 20, .inl (fN gb))), (zz, .inl (cI, 2, .inl (fN (sz2 n nb)))), (on, .inl (cB, 2, .inr (.inr (.inr (.inr (rf2 oa oc)))))), (oa, .inl (cL, 301, .inr (.inl u0))), (oc, .inl (cL, 301, .inr (.inl (fL (ctP gb v i))))), (sm, .inl (cL, 301, .inr (.inl us))), (fw, .inl (cI, 301, .inl uf))] → va_S A s.heap H locs → ∀ ls : Array Slot, lv_has ls 7 [(4, .int (nI i)), (0, .ref mm), (1, .ref oc), (2, .int (nI 1)), (3, .int (nI v))] → W p l e R s m args below meth c H locs 0 0 Q (F0 m 29 ls []) := by
          intro k29
          induction k29 with
          | zero => intro i hi hk; exact absurd hk (Nat.not_lt_zero _)
          | succ k29 ih29 =>
            intro i hi hk29 H locs hP hD hS ls hl
            refine lv_iload hx hb dX11_count_29 (lv_at hl 0 rfl) ?_
            refine lv_aload_n hx hb dX11_count_31 rfl (lv_at hl 1 rfl) ?_
            refine va_get (D := D) (ci := 10) (v := .ref zz) (C := RX11) (T := TX11) (N := 6) hx hb hts in_X11 hown hK hP 0 rfl rfl 1 (by decide) k_1000 (fun _ h9 => h9) rfl dX11_count_32 ?_
            refine lv_iload_n hx hb dX11_count_35 rfl (lv_at hl 3 rfl) ?_
            refine su_iald hx hb hK hP 4 0 rfl rfl (i := 1) (by decide) (by decide) (nI nb) (rfl) dX11_count_36 ?_
            refine lv_icmp_ge (tgt := 99) hx hb dX11_count_37 (by decide) (fun c37 => ?_) (fun c37 => ?_)
            · have c37 : nb ≤ i := su_ge (by omega) (by omega) c37
              obtain ⟨hP, hD⟩ := su_reL (q0 := 7) (fL (ctP gb v nb)) hP hD rfl (fun j _ => by rw [show nb = i by omega])
              have hP : va_P D vwCl [(mm, .inr (10, [.ref nu, .ref zz, .ref on, .ref sm, .ref fw, .int tw])), (nu, .inl (cA, 2, .inr (.inr (.inr (.inr (rf2 na nc)))))), (na, .inl (cI, 20, .inl (fN g))), (nc, .inl (cI, 20, .inl (fN gb))), (zz, .inl (cI, 2, .inl (fN (sz2 n nb)))), (on, .inl (cB, 2, .inr (.inr (.inr (.inr (rf2 oa oc)))))), (oa, .inl (cL, 301, .inr (.inl u0))), (oc, .inl (cL, 301, .inr (.inl (fL (ctP gb v nb))))), (sm, .inl (cL, 301, .inr (.inl us))), (fw, .inl (cI, 301, .inl uf))] H := hP
              have hD : va_D A [(mm, .inr (10, [.ref nu, .ref zz, .ref on, .ref sm, .ref fw, .int tw])), (nu, .inl (cA, 2, .inr (.inr (.inr (.inr (rf2 na nc)))))), (na, .inl (cI, 20, .inl (fN g))), (nc, .inl (cI, 20, .inl (fN gb))), (zz, .inl (cI, 2, .inl (fN (sz2 n nb)))), (on, .inl (cB, 2, .inr (.inr (.inr (.inr (rf2 oa oc)))))), (oa, .inl (cL, 301, .inr (.inl u0))), (oc, .inl (cL, 301, .inr (.inl (fL (ctP gb v nb))))), (sm, .inl (cL, 301, .inr (.inl us))), (fw, .inl (cI, 301, .inl uf))] := hD
              rw [hQ]
              exact su_ev hx hb hr hlocks hS dX11_count_99 () (trivial) hP hD
            · have c37 : i < nb := su_nge (by omega) (by omega) c37
              refine lv_aload_n hx hb dX11_count_40 rfl (lv_at hl 1 rfl) ?_
              refine va_get (D := D) (ci := 10) (v := .ref nu) (C := RX11) (T := TX11) (N := 6) hx hb hts in_X11 hown hK hP 0 rfl rfl 0 (by decide) k_999 (fun _ h9 => h9) rfl dX11_count_41 ?_
              refine lv_iload_n hx hb dX11_count_44 rfl (lv_at hl 3 rfl) ?_
              refine su_aald hx hb hK hP 1 3 rfl rfl (i := 1) (by decide) (by decide) (nc) rfl dX11_count_45 ?_
              refine lv_iload hx hb dX11_count_46 (lv_at hl 0 rfl) ?_
              refine su_iald hx hb hK hP 3 0 rfl rfl (i := i) (by omega) (by decide) (nI (gb i)) (rfl) dX11_count_48 ?_
              refine lv_istore (lv' := [(5, .int (nI (gb i))), (4, .int (nI i)), (0, .ref mm), (1, .ref oc), (2, .int (nI 1)), (3, .int (nI v))]) hx hb dX11_count_49 hl (by decide) rfl (fun ls hl => ?_)
              have hgi := hgb i c37
              refine lv_iload_n hx hb dX11_count_51 rfl (lv_at hl 5 rfl) ?_
              refine lv_iload hx hb dX11_count_52 (lv_at hl 1 rfl) ?_
              refine lv_ishr hx hb dX11_count_54 ?_
              refine su_eqi (nI (v / 2 ^ i)) (su_shB hv (by omega)) ?_
              refine lv_iconst (v := nI 2) hx hb dX11_count_55 (by decide) ?_
              refine lv_irem hx hb dX11_count_56 (by decide) ?_
              refine su_eqi (bI (v.testBit i)) (su_remB hv) ?_
              refine lv_iconst (v := nI 1) hx hb dX11_count_57 (by decide) ?_
              refine lv_icmp_ne (tgt := 93) hx hb dX11_count_58 (by decide) (fun c58 => ?_) (fun c58 => ?_)
              · have c58 := bI_ne1 c58
                refine lv_iinc (v := nI (i + 1)) (lv' := [(4, .int (nI (i + 1))), (5, .int (nI (gb i))), (0, .ref mm), (1, .ref oc), (2, .int (nI 1)), (3, .int (nI v))]) hx hb dX11_count_93 hl (k := 1) rfl (su_inc _) (by decide) rfl (fun ls hl => ?_)
                refine lv_goto (tgt := 29) hx hb dX11_count_96 (by decide) ?_
                obtain ⟨hP, hD⟩ := su_reL (q0 := 7) (fL (ctP gb v (i + 1))) hP hD rfl (fun j _ => by rw [ctP_0 c58])
                have hP : va_P D vwCl [(mm, .inr (10, [.ref nu, .ref zz, .ref on, .ref sm, .ref fw, .int tw])), (nu, .inl (cA, 2, .inr (.inr (.inr (.inr (rf2 na nc)))))), (na, .inl (cI, 20, .inl (fN g))), (nc, .inl (cI, 20, .inl (fN gb))), (zz, .inl (cI, 2, .inl (fN (sz2 n nb)))), (on, .inl (cB, 2, .inr (.inr (.inr (.inr (rf2 oa oc)))))), (oa, .inl (cL, 301, .inr (.inl u0))), (oc, .inl (cL, 301, .inr (.inl (fL (ctP gb v (i + 1)))))), (sm, .inl (cL, 301, .inr (.inl us))), (fw, .inl (cI, 301, .inl uf))] H := hP
                have hD : va_D A [(mm, .inr (10, [.ref nu, .ref zz, .ref on, .ref sm, .ref fw, .int tw])), (nu, .inl (cA, 2, .inr (.inr (.inr (.inr (rf2 na nc)))))), (na, .inl (cI, 20, .inl (fN g))), (nc, .inl (cI, 20, .inl (fN gb))), (zz, .inl (cI, 2, .inl (fN (sz2 n nb)))), (on, .inl (cB, 2, .inr (.inr (.inr (.inr (rf2 oa oc)))))), (oa, .inl (cL, 301, .inr (.inl u0))), (oc, .inl (cL, 301, .inr (.inl (fL (ctP gb v (i + 1)))))), (sm, .inl (cL, 301, .inr (.inl us))), (fw, .inl (cI, 301, .inl uf))] := hD
                exact ih29 (i + 1) (by omega) (by omega) _ _ hP hD hS _ (lv_sub hl [0, 2, 3, 4, 5] rfl)
              · have c58 := bI_eq1 c58
                refine lv_sipush (v := nI 300) hx hb dX11_count_61 (by decide) ?_
                refine lv_istore (lv' := [(6, .int (nI 300)), (5, .int (nI (gb i))), (4, .int (nI i)), (0, .ref mm), (1, .ref oc), (2, .int (nI 1)), (3, .int (nI v))]) hx hb dX11_count_64 hl (by decide) rfl (fun ls hl => ?_)
                have loop66 : ∀ (k66 : Nat) (k : Nat), (k ≤ 300) → (gb i ≤ k + 1) → k < k66 → ∀ (H : Heap) (locs : List Loc), va_P D vwCl [(mm, .inr (10, [.ref nu, .ref zz, .ref on, .ref sm, .ref fw, .int tw])), (nu, .inl (cA, 2, .inr (.inr (.inr (.inr (rf2 na nc)))))), (na, .inl (cI, 20, .inl (fN g))), (nc, .inl (cI, 20, .inl (fN gb))), (zz, .inl (cI, 2, .inl (fN (sz2 n nb)))), (on, .inl (cB, 2, .inr (.inr (.inr (.inr (rf2 oa oc)))))), (oa, .inl (cL, 301, .inr (.inl u0))), (oc, .inl (cL, 301, .inr (.inl (fL (dnP opW (gb i) (ctP gb v i) k))))), (sm, .inl (cL, 301, .inr (.inl us))), (fw, .inl (cI, 301, .inl uf))] H → va_D A [(mm, .inr (10, [.ref nu, .ref zz, .ref on, .ref sm, .ref fw, .int tw])), (nu, .inl (cA, 2, .inr (.inr (.inr (.inr (rf2 na nc)))))), (na, .inl (cI, 20, .inl (fN g))), (nc, .inl (cI, 20, .inl (fN gb))), (zz, .inl (cI, 2, .inl (fN (sz2 n nb)))), (on, .inl (cB, 2, .inr (.inr (.inr (.inr (rf2 oa oc)))))), (oa, .inl (cL, 301, .inr (.inl u0))), (oc, .inl (cL, 301, .inr (.inl (fL (dnP opW (gb i) (ctP gb v i) k))))), (sm, .inl (cL, 301, .inr (.inl us))), (fw, .inl (cI, 301, .inl uf))] → va_S A s.heap H locs → ∀ ls : Array Slot, lv_has ls 7 [(6, .int (nI k)), (5, .int (nI (gb i))), (4, .int (nI i)), (0, .ref mm), (1, .ref oc), (2, .int (nI 1)), (3, .int (nI v))] → W p l e R s m args below meth c H locs 0 0 Q (F0 m 66 ls []) := by
                  intro k66
                  induction k66 with
                  | zero => intro k hk hk2 hk; exact absurd hk (Nat.not_lt_zero _)
                  | succ k66 ih66 =>
                    intro k hk hk2 hk66 H locs hP hD hS ls hl
                    refine lv_iload hx hb dX11_count_66 (lv_at hl 0 rfl) ?_
                    refine lv_iload hx hb dX11_count_68 (lv_at hl 1 rfl) ?_
                    refine lv_icmp_lt (tgt := 93) hx hb dX11_count_70 (by decide) (fun c70 => ?_) (fun c70 => ?_)
                    · have c70 : k < gb i := su_lt (by omega) (by omega) c70
                      refine lv_iinc (v := nI (i + 1)) (lv' := [(4, .int (nI (i + 1))), (6, .int (nI k)), (5, .int (nI (gb i))), (0, .ref mm), (1, .ref oc), (2, .int (nI 1)), (3, .int (nI v))]) hx hb dX11_count_93 hl (k := 2) rfl (su_inc _) (by decide) rfl (fun ls hl => ?_)
                      refine lv_goto (tgt := 29) hx hb dX11_count_96 (by decide) ?_
                      obtain ⟨hP, hD⟩ := su_reL (q0 := 7) (fL (ctP gb v (i + 1))) hP hD rfl (fun j _ => by rw [ctP_1 c58]; exact congrArg lN (dnP_T c70 j))
                      have hP : va_P D vwCl [(mm, .inr (10, [.ref nu, .ref zz, .ref on, .ref sm, .ref fw, .int tw])), (nu, .inl (cA, 2, .inr (.inr (.inr (.inr (rf2 na nc)))))), (na, .inl (cI, 20, .inl (fN g))), (nc, .inl (cI, 20, .inl (fN gb))), (zz, .inl (cI, 2, .inl (fN (sz2 n nb)))), (on, .inl (cB, 2, .inr (.inr (.inr (.inr (rf2 oa oc)))))), (oa, .inl (cL, 301, .inr (.inl u0))), (oc, .inl (cL, 301, .inr (.inl (fL (ctP gb v (i + 1)))))), (sm, .inl (cL, 301, .inr (.inl us))), (fw, .inl (cI, 301, .inl uf))] H := hP
                      have hD : va_D A [(mm, .inr (10, [.ref nu, .ref zz, .ref on, .ref sm, .ref fw, .int tw])), (nu, .inl (cA, 2, .inr (.inr (.inr (.inr (rf2 na nc)))))), (na, .inl (cI, 20, .inl (fN g))), (nc, .inl (cI, 20, .inl (fN gb))), (zz, .inl (cI, 2, .inl (fN (sz2 n nb)))), (on, .inl (cB, 2, .inr (.inr (.inr (.inr (rf2 oa oc)))))), (oa, .inl (cL, 301, .inr (.inl u0))), (oc, .inl (cL, 301, .inr (.inl (fL (ctP gb v (i + 1)))))), (sm, .inl (cL, 301, .inr (.inl us))), (fw, .inl (cI, 301, .inl uf))] := hD
                      exact ih29 (i + 1) (by omega) (by omega) _ _ hP hD hS _ (lv_sub hl [0, 3, 4, 5, 6] rfl)
                    · have c70 : gb i ≤ k := su_nlt (by omega) (by omega) c70
                      refine lv_aload_n hx hb dX11_count_73 rfl (lv_at hl 4 rfl) ?_
                      refine lv_iload hx hb dX11_count_74 (lv_at hl 0 rfl) ?_
                      refine lv_dup2_11 hx hb dX11_count_76 rfl rfl ?_
                      refine su_lald hx hb hK hP 7 1 rfl rfl (i := k) (by omega) (by decide) (lN ((dnP opW (gb i) (ctP gb v i) k) k)) (rfl) dX11_count_77 ?_
                      refine lv_aload_n hx hb dX11_count_78 rfl (lv_at hl 4 rfl) ?_
                      refine lv_iload hx hb dX11_count_79 (lv_at hl 0 rfl) ?_
                      refine lv_iload hx hb dX11_count_81 (lv_at hl 1 rfl) ?_
                      refine lv_isub hx hb dX11_count_83 ?_
                      refine su_eqi (nI (k - (gb i))) (pk_sub (by omega)) ?_
                      refine su_lald hx hb hK hP 7 1 rfl rfl (i := (k - (gb i))) (by omega) (by decide) (lN ((dnP opW (gb i) (ctP gb v i) k) (k - (gb i)))) (rfl) dX11_count_84 ?_
                      refine lv_ladd hx hb dX11_count_85 ?_
                      refine su_eql (lN ((dnP opW (gb i) (ctP gb v i) k) k + ((dnP opW (gb i) (ctP gb v i) k) (k - (gb i))))) (lN_add _ _) ?_
                      refine su_last hx hb hK hP hD hS 7 1 rfl rfl (i := k) (by omega) (by decide) (fL (va_up (dnP opW (gb i) (ctP gb v i) k) k ((dnP opW (gb i) (ctP gb v i) k) k + ((dnP opW (gb i) (ctP gb v i) k) (k - (gb i)))))) (fun j _ => su_upL _ _ _ j) dX11_count_86 (fun H locs hP hD hS => ?_)
                      have hP : va_P D vwCl [(mm, .inr (10, [.ref nu, .ref zz, .ref on, .ref sm, .ref fw, .int tw])), (nu, .inl (cA, 2, .inr (.inr (.inr (.inr (rf2 na nc)))))), (na, .inl (cI, 20, .inl (fN g))), (nc, .inl (cI, 20, .inl (fN gb))), (zz, .inl (cI, 2, .inl (fN (sz2 n nb)))), (on, .inl (cB, 2, .inr (.inr (.inr (.inr (rf2 oa oc)))))), (oa, .inl (cL, 301, .inr (.inl u0))), (oc, .inl (cL, 301, .inr (.inl (fL (va_up (dnP opW (gb i) (ctP gb v i) k) k ((dnP opW (gb i) (ctP gb v i) k) k + ((dnP opW (gb i) (ctP gb v i) k) (k - (gb i))))))))), (sm, .inl (cL, 301, .inr (.inl us))), (fw, .inl (cI, 301, .inl uf))] H := hP
                      have hD : va_D A [(mm, .inr (10, [.ref nu, .ref zz, .ref on, .ref sm, .ref fw, .int tw])), (nu, .inl (cA, 2, .inr (.inr (.inr (.inr (rf2 na nc)))))), (na, .inl (cI, 20, .inl (fN g))), (nc, .inl (cI, 20, .inl (fN gb))), (zz, .inl (cI, 2, .inl (fN (sz2 n nb)))), (on, .inl (cB, 2, .inr (.inr (.inr (.inr (rf2 oa oc)))))), (oa, .inl (cL, 301, .inr (.inl u0))), (oc, .inl (cL, 301, .inr (.inl (fL (va_up (dnP opW (gb i) (ctP gb v i) k) k ((dnP opW (gb i) (ctP gb v i) k) k + ((dnP opW (gb i) (ctP gb v i) k) (k - (gb i))))))))), (sm, .inl (cL, 301, .inr (.inl us))), (fw, .inl (cI, 301, .inl uf))] := hD
                      refine lv_iinc (v := nI (k - 1)) (lv' := [(6, .int (nI (k - 1))), (5, .int (nI (gb i))), (4, .int (nI i)), (0, .ref mm), (1, .ref oc), (2, .int (nI 1)), (3, .int (nI v))]) hx hb dX11_count_87 hl (k := 0) rfl (sb_m1 (by omega)) (by decide) rfl (fun ls hl => ?_)
                      refine lv_goto (tgt := 66) hx hb dX11_count_90 (by decide) ?_
                      obtain ⟨hP, hD⟩ := su_reL (q0 := 7) (fL (dnP opW (gb i) (ctP gb v i) (k - 1))) hP hD rfl (fun j _ => congrArg lN (dnP_S hgi.1 c70 hk j))
                      have hP : va_P D vwCl [(mm, .inr (10, [.ref nu, .ref zz, .ref on, .ref sm, .ref fw, .int tw])), (nu, .inl (cA, 2, .inr (.inr (.inr (.inr (rf2 na nc)))))), (na, .inl (cI, 20, .inl (fN g))), (nc, .inl (cI, 20, .inl (fN gb))), (zz, .inl (cI, 2, .inl (fN (sz2 n nb)))), (on, .inl (cB, 2, .inr (.inr (.inr (.inr (rf2 oa oc)))))), (oa, .inl (cL, 301, .inr (.inl u0))), (oc, .inl (cL, 301, .inr (.inl (fL (dnP opW (gb i) (ctP gb v i) (k - 1)))))), (sm, .inl (cL, 301, .inr (.inl us))), (fw, .inl (cI, 301, .inl uf))] H := hP
                      have hD : va_D A [(mm, .inr (10, [.ref nu, .ref zz, .ref on, .ref sm, .ref fw, .int tw])), (nu, .inl (cA, 2, .inr (.inr (.inr (.inr (rf2 na nc)))))), (na, .inl (cI, 20, .inl (fN g))), (nc, .inl (cI, 20, .inl (fN gb))), (zz, .inl (cI, 2, .inl (fN (sz2 n nb)))), (on, .inl (cB, 2, .inr (.inr (.inr (.inr (rf2 oa oc)))))), (oa, .inl (cL, 301, .inr (.inl u0))), (oc, .inl (cL, 301, .inr (.inl (fL (dnP opW (gb i) (ctP gb v i) (k - 1)))))), (sm, .inl (cL, 301, .inr (.inl us))), (fw, .inl (cI, 301, .inl uf))] := hD
                      exact ih66 (k - 1) (by omega) (by omega) (by omega) _ _ hP hD hS _ (lv_sub hl [0, 1, 2, 3, 4, 5, 6] rfl)
                obtain ⟨hP, hD⟩ := su_reL (q0 := 7) (fL (dnP opW (gb i) (ctP gb v i) (300))) hP hD rfl (fun j _ => congrArg lN (dnP_0 j))
                have hP : va_P D vwCl [(mm, .inr (10, [.ref nu, .ref zz, .ref on, .ref sm, .ref fw, .int tw])), (nu, .inl (cA, 2, .inr (.inr (.inr (.inr (rf2 na nc)))))), (na, .inl (cI, 20, .inl (fN g))), (nc, .inl (cI, 20, .inl (fN gb))), (zz, .inl (cI, 2, .inl (fN (sz2 n nb)))), (on, .inl (cB, 2, .inr (.inr (.inr (.inr (rf2 oa oc)))))), (oa, .inl (cL, 301, .inr (.inl u0))), (oc, .inl (cL, 301, .inr (.inl (fL (dnP opW (gb i) (ctP gb v i) (300)))))), (sm, .inl (cL, 301, .inr (.inl us))), (fw, .inl (cI, 301, .inl uf))] H := hP
                have hD : va_D A [(mm, .inr (10, [.ref nu, .ref zz, .ref on, .ref sm, .ref fw, .int tw])), (nu, .inl (cA, 2, .inr (.inr (.inr (.inr (rf2 na nc)))))), (na, .inl (cI, 20, .inl (fN g))), (nc, .inl (cI, 20, .inl (fN gb))), (zz, .inl (cI, 2, .inl (fN (sz2 n nb)))), (on, .inl (cB, 2, .inr (.inr (.inr (.inr (rf2 oa oc)))))), (oa, .inl (cL, 301, .inr (.inl u0))), (oc, .inl (cL, 301, .inr (.inl (fL (dnP opW (gb i) (ctP gb v i) (300)))))), (sm, .inl (cL, 301, .inr (.inl us))), (fw, .inl (cI, 301, .inl uf))] := hD
                exact loop66 (((300)) + 1) (300) (by omega) (by omega) (by omega) _ _ hP hD hS _ (lv_sub hl [0, 1, 2, 3, 4, 5, 6] rfl)
        exact loop29 ((nb - (0)) + 1) (0) (by omega) (by omega) _ _ hP hD hS _ (lv_sub hl [0, 1, 2, 3, 4] rfl)
      · have c8 : j ≤ 300 := su_nlt (by omega) (by omega) c8
        refine lv_aload_n hx hb dX11_count_11 rfl (lv_at hl 2 rfl) ?_
        refine lv_iload hx hb dX11_count_12 (lv_at hl 0 rfl) ?_
        refine lv_lconst (v := lN 0) hx hb dX11_count_14 (by decide) ?_
        refine su_last hx hb hK hP hD hS 7 1 rfl rfl (i := j) (by omega) (by decide) (va_up (zf u1 j) j (lN 0)) (fun _ _ => rfl) dX11_count_15 (fun H locs hP hD hS => ?_)
        have hP : va_P D vwCl [(mm, .inr (10, [.ref nu, .ref zz, .ref on, .ref sm, .ref fw, .int tw])), (nu, .inl (cA, 2, .inr (.inr (.inr (.inr (rf2 na nc)))))), (na, .inl (cI, 20, .inl (fN g))), (nc, .inl (cI, 20, .inl (fN gb))), (zz, .inl (cI, 2, .inl (fN (sz2 n nb)))), (on, .inl (cB, 2, .inr (.inr (.inr (.inr (rf2 oa oc)))))), (oa, .inl (cL, 301, .inr (.inl u0))), (oc, .inl (cL, 301, .inr (.inl (va_up (zf u1 j) j (lN 0))))), (sm, .inl (cL, 301, .inr (.inl us))), (fw, .inl (cI, 301, .inl uf))] H := hP
        have hD : va_D A [(mm, .inr (10, [.ref nu, .ref zz, .ref on, .ref sm, .ref fw, .int tw])), (nu, .inl (cA, 2, .inr (.inr (.inr (.inr (rf2 na nc)))))), (na, .inl (cI, 20, .inl (fN g))), (nc, .inl (cI, 20, .inl (fN gb))), (zz, .inl (cI, 2, .inl (fN (sz2 n nb)))), (on, .inl (cB, 2, .inr (.inr (.inr (.inr (rf2 oa oc)))))), (oa, .inl (cL, 301, .inr (.inl u0))), (oc, .inl (cL, 301, .inr (.inl (va_up (zf u1 j) j (lN 0))))), (sm, .inl (cL, 301, .inr (.inl us))), (fw, .inl (cI, 301, .inl uf))] := hD
        refine lv_iinc (v := nI (j + 1)) (lv' := [(4, .int (nI (j + 1))), (0, .ref mm), (1, .ref oc), (2, .int (nI 1)), (3, .int (nI v))]) hx hb dX11_count_16 hl (k := 0) rfl (su_inc _) (by decide) rfl (fun ls hl => ?_)
        refine lv_goto (tgt := 3) hx hb dX11_count_19 (by decide) ?_
        obtain ⟨hP, hD⟩ := su_reL (q0 := 7) (zf u1 (j + 1)) hP hD rfl (fun k _ => zfS hj k)
        have hP : va_P D vwCl [(mm, .inr (10, [.ref nu, .ref zz, .ref on, .ref sm, .ref fw, .int tw])), (nu, .inl (cA, 2, .inr (.inr (.inr (.inr (rf2 na nc)))))), (na, .inl (cI, 20, .inl (fN g))), (nc, .inl (cI, 20, .inl (fN gb))), (zz, .inl (cI, 2, .inl (fN (sz2 n nb)))), (on, .inl (cB, 2, .inr (.inr (.inr (.inr (rf2 oa oc)))))), (oa, .inl (cL, 301, .inr (.inl u0))), (oc, .inl (cL, 301, .inr (.inl (zf u1 (j + 1))))), (sm, .inl (cL, 301, .inr (.inl us))), (fw, .inl (cI, 301, .inl uf))] H := hP
        have hD : va_D A [(mm, .inr (10, [.ref nu, .ref zz, .ref on, .ref sm, .ref fw, .int tw])), (nu, .inl (cA, 2, .inr (.inr (.inr (.inr (rf2 na nc)))))), (na, .inl (cI, 20, .inl (fN g))), (nc, .inl (cI, 20, .inl (fN gb))), (zz, .inl (cI, 2, .inl (fN (sz2 n nb)))), (on, .inl (cB, 2, .inr (.inr (.inr (.inr (rf2 oa oc)))))), (oa, .inl (cL, 301, .inr (.inl u0))), (oc, .inl (cL, 301, .inr (.inl (zf u1 (j + 1))))), (sm, .inl (cL, 301, .inr (.inl us))), (fw, .inl (cI, 301, .inl uf))] := hD
        exact ih3 (j + 1) (by omega) (by omega) (by omega) _ _ hP hD hS _ (lv_sub hl [0, 1, 2, 3, 4] rfl)
  obtain ⟨hP, hD⟩ := su_reL (q0 := 7) (zf u1 (1)) hP hD rfl (fun k _ => zf0 k)
  have hP : va_P D vwCl [(mm, .inr (10, [.ref nu, .ref zz, .ref on, .ref sm, .ref fw, .int tw])), (nu, .inl (cA, 2, .inr (.inr (.inr (.inr (rf2 na nc)))))), (na, .inl (cI, 20, .inl (fN g))), (nc, .inl (cI, 20, .inl (fN gb))), (zz, .inl (cI, 2, .inl (fN (sz2 n nb)))), (on, .inl (cB, 2, .inr (.inr (.inr (.inr (rf2 oa oc)))))), (oa, .inl (cL, 301, .inr (.inl u0))), (oc, .inl (cL, 301, .inr (.inl (zf u1 (1))))), (sm, .inl (cL, 301, .inr (.inl us))), (fw, .inl (cI, 301, .inl uf))] H := hP
  have hD : va_D A [(mm, .inr (10, [.ref nu, .ref zz, .ref on, .ref sm, .ref fw, .int tw])), (nu, .inl (cA, 2, .inr (.inr (.inr (.inr (rf2 na nc)))))), (na, .inl (cI, 20, .inl (fN g))), (nc, .inl (cI, 20, .inl (fN gb))), (zz, .inl (cI, 2, .inl (fN (sz2 n nb)))), (on, .inl (cB, 2, .inr (.inr (.inr (.inr (rf2 oa oc)))))), (oa, .inl (cL, 301, .inr (.inl u0))), (oc, .inl (cL, 301, .inr (.inl (zf u1 (1))))), (sm, .inl (cL, 301, .inr (.inl us))), (fw, .inl (cI, 301, .inl uf))] := hD
  exact loop3 ((301 - (1)) + 1) (1) (by omega) (by omega) (by omega) _ _ hP hD hS _ (lv_sub hl [0, 1, 2, 3, 4] rfl)
set_option maxHeartbeats 4000000 in
set_option maxRecDepth 100000 in
theorem m_count1s (l : Launch) (D : va_G) (cI cL cZ : ClassId) (sz : Nat) (cA : ClassId) (cB : ClassId) (mm : Nat) (nu : Nat) (na : Nat) (nc : Nat) (zz : Nat) (on : Nat) (oa : Nat) (oc : Nat) (sm : Nat) (fw : Nat) (g : Nat → Nat) (n : Nat) (gb : Nat → Nat) (nb : Nat) (tw : Int32) (u0 : Nat → Int64) (u1 : Nat → Int64) (us : Nat → Int64) (uf : Nat → Int32) (v : Nat) (hn : n ≤ 20) (hnb : nb ≤ 20) (hg : ∀ k, k < n → 1 ≤ g k ∧ g k ≤ 300) (hgb : ∀ k, k < nb → 1 ≤ gb k ∧ gb k ≤ 300) (hv : v < 2 ^ 31) :
    Met l yX11_count (ws_ yX11_count cX11_count 7 none) { frames := 0, cells := 0, slots := 0, locals := 0 } (su_pre D (su_T5 cI cL cZ cA cB) sz [(mm, .inr (10, [.ref nu, .ref zz, .ref on, .ref sm, .ref fw, .int tw])), (nu, .inl (cA, 2, .inr (.inr (.inr (.inr (rf2 na nc)))))), (na, .inl (cI, 20, .inl (fN g))), (nc, .inl (cI, 20, .inl (fN gb))), (zz, .inl (cI, 2, .inl (fN (sz2 n nb)))), (on, .inl (cB, 2, .inr (.inr (.inr (.inr (rf2 oa oc)))))), (oa, .inl (cL, 301, .inr (.inl u0))), (oc, .inl (cL, 301, .inr (.inl u1))), (sm, .inl (cL, 301, .inr (.inl us))), (fw, .inl (cI, 301, .inl uf))] [.ref mm, .ref sm, .int (nI 1), .int (nI v)]) (su_qv D (va_A [(mm, .inr (10, [.ref nu, .ref zz, .ref on, .ref sm, .ref fw, .int tw])), (nu, .inl (cA, 2, .inr (.inr (.inr (.inr (rf2 na nc)))))), (na, .inl (cI, 20, .inl (fN g))), (nc, .inl (cI, 20, .inl (fN gb))), (zz, .inl (cI, 2, .inl (fN (sz2 n nb)))), (on, .inl (cB, 2, .inr (.inr (.inr (.inr (rf2 oa oc)))))), (oa, .inl (cL, 301, .inr (.inl u0))), (oc, .inl (cL, 301, .inr (.inl u1))), (sm, .inl (cL, 301, .inr (.inl us))), (fw, .inl (cI, 301, .inl uf))] sz) (fun (uu : Unit) => True) (fun (uu : Unit) => [(mm, .inr (10, [.ref nu, .ref zz, .ref on, .ref sm, .ref fw, .int tw])), (nu, .inl (cA, 2, .inr (.inr (.inr (.inr (rf2 na nc)))))), (na, .inl (cI, 20, .inl (fN g))), (nc, .inl (cI, 20, .inl (fN gb))), (zz, .inl (cI, 2, .inl (fN (sz2 n nb)))), (on, .inl (cB, 2, .inr (.inr (.inr (.inr (rf2 oa oc)))))), (oa, .inl (cL, 301, .inr (.inl u0))), (oc, .inl (cL, 301, .inr (.inl u1))), (sm, .inl (cL, 301, .inr (.inl (fL (ctP gb v nb))))), (fw, .inl (cI, 301, .inl uf))])) 0 0 (va_A [(mm, .inr (10, [.ref nu, .ref zz, .ref on, .ref sm, .ref fw, .int tw])), (nu, .inl (cA, 2, .inr (.inr (.inr (.inr (rf2 na nc)))))), (na, .inl (cI, 20, .inl (fN g))), (nc, .inl (cI, 20, .inl (fN gb))), (zz, .inl (cI, 2, .inl (fN (sz2 n nb)))), (on, .inl (cB, 2, .inr (.inr (.inr (.inr (rf2 oa oc)))))), (oa, .inl (cL, 301, .inr (.inl u0))), (oc, .inl (cL, 301, .inr (.inl u1))), (sm, .inl (cL, 301, .inr (.inl us))), (fw, .inl (cI, 301, .inl uf))] sz) := by
  refine su_met (y := yX11_count) (av := [.ref mm, .ref sm, .int (nI 1), .int (nI v)]) (Qf := fun A => su_qv D A (fun (uu : Unit) => True) (fun (uu : Unit) => [(mm, .inr (10, [.ref nu, .ref zz, .ref on, .ref sm, .ref fw, .int tw])), (nu, .inl (cA, 2, .inr (.inr (.inr (.inr (rf2 na nc)))))), (na, .inl (cI, 20, .inl (fN g))), (nc, .inl (cI, 20, .inl (fN gb))), (zz, .inl (cI, 2, .inl (fN (sz2 n nb)))), (on, .inl (cB, 2, .inr (.inr (.inr (.inr (rf2 oa oc)))))), (oa, .inl (cL, 301, .inr (.inl u0))), (oc, .inl (cL, 301, .inr (.inl u1))), (sm, .inl (cL, 301, .inr (.inl (fL (ctP gb v nb))))), (fw, .inl (cI, 301, .inl uf))])) (cc := cX11_count) (maxL := 7) (ret := none) (by decide) (Nat.le_of_ble_eq_true rfl) ?_
  intro p e s m args below meth c R Q A H locs ls hx hb hr hlocks hin hml hown hts hN hP hK hD hA hS hRm hQ hl
  have hown : s.vm.findClass RX11 = some m.cls := hown
  have hl : lv_has ls 7 [(0, .ref mm), (1, .ref sm), (2, .int (nI 1)), (3, .int (nI v))] := hl
  have hR3 : 0 ≤ R.cells := by rw [hRm]; exact Nat.le_of_ble_eq_true rfl
  have hR4 : 0 ≤ R.slots := by rw [hRm]; exact Nat.le_of_ble_eq_true rfl
  have k_1000 := hts _ q_1000
  have k_999 := hts _ q_999
  refine lv_iconst (v := nI 1) hx hb dX11_count_0 (by decide) ?_
  refine lv_istore (lv' := [(4, .int (nI 1)), (0, .ref mm), (1, .ref sm), (2, .int (nI 1)), (3, .int (nI v))]) hx hb dX11_count_1 hl (by decide) rfl (fun ls hl => ?_)
  have loop3 : ∀ (k3 : Nat) (j : Nat), (1 ≤ j) → (j ≤ 301) → 301 - j < k3 → ∀ (H : Heap) (locs : List Loc), va_P D vwCl [(mm, .inr (10, [.ref nu, .ref zz, .ref on, .ref sm, .ref fw, .int tw])), (nu, .inl (cA, 2, .inr (.inr (.inr (.inr (rf2 na nc)))))), (na, .inl (cI, 20, .inl (fN g))), (nc, .inl (cI, 20, .inl (fN gb))), (zz, .inl (cI, 2, .inl (fN (sz2 n nb)))), (on, .inl (cB, 2, .inr (.inr (.inr (.inr (rf2 oa oc)))))), (oa, .inl (cL, 301, .inr (.inl u0))), (oc, .inl (cL, 301, .inr (.inl u1))), (sm, .inl (cL, 301, .inr (.inl (zf us j)))), (fw, .inl (cI, 301, .inl uf))] H → va_D A [(mm, .inr (10, [.ref nu, .ref zz, .ref on, .ref sm, .ref fw, .int tw])), (nu, .inl (cA, 2, .inr (.inr (.inr (.inr (rf2 na nc)))))), (na, .inl (cI, 20, .inl (fN g))), (nc, .inl (cI, 20, .inl (fN gb))), (zz, .inl (cI, 2, .inl (fN (sz2 n nb)))), (on, .inl (cB, 2, .inr (.inr (.inr (.inr (rf2 oa oc)))))), (oa, .inl (cL, 301, .inr (.inl u0))), (oc, .inl (cL, 301, .inr (.inl u1))), (sm, .inl (cL, 301, .inr (.inl (zf us j)))), (fw, .inl (cI, 301, .inl uf))] → va_S A s.heap H locs → ∀ ls : Array Slot, lv_has ls 7 [(4, .int (nI j)), (0, .ref mm), (1, .ref sm), (2, .int (nI 1)), (3, .int (nI v))] → W p l e R s m args below meth c H locs 0 0 Q (F0 m 3 ls []) := by
    intro k3
    induction k3 with
    | zero => intro j hj hj2 hk; exact absurd hk (Nat.not_lt_zero _)
    | succ k3 ih3 =>
      intro j hj hj2 hk3 H locs hP hD hS ls hl
      refine lv_iload hx hb dX11_count_3 (lv_at hl 0 rfl) ?_
      refine lv_sipush (v := nI 300) hx hb dX11_count_5 (by decide) ?_
      refine lv_icmp_gt (tgt := 22) hx hb dX11_count_8 (by decide) (fun c8 => ?_) (fun c8 => ?_)
      · have c8 : 300 < j := su_lt (by omega) (by omega) c8
        refine lv_aload_n hx hb dX11_count_22 rfl (lv_at hl 2 rfl) ?_
        refine lv_iconst (v := nI 0) hx hb dX11_count_23 (by decide) ?_
        refine lv_lconst (v := lN 1) hx hb dX11_count_24 (by decide) ?_
        refine su_last hx hb hK hP hD hS 8 1 rfl rfl (i := 0) (by decide) (by decide) (fL f0W) (fun j hj => zfN (by omega) hj) dX11_count_25 (fun H locs hP hD hS => ?_)
        have hP : va_P D vwCl [(mm, .inr (10, [.ref nu, .ref zz, .ref on, .ref sm, .ref fw, .int tw])), (nu, .inl (cA, 2, .inr (.inr (.inr (.inr (rf2 na nc)))))), (na, .inl (cI, 20, .inl (fN g))), (nc, .inl (cI, 20, .inl (fN gb))), (zz, .inl (cI, 2, .inl (fN (sz2 n nb)))), (on, .inl (cB, 2, .inr (.inr (.inr (.inr (rf2 oa oc)))))), (oa, .inl (cL, 301, .inr (.inl u0))), (oc, .inl (cL, 301, .inr (.inl u1))), (sm, .inl (cL, 301, .inr (.inl (fL f0W)))), (fw, .inl (cI, 301, .inl uf))] H := hP
        have hD : va_D A [(mm, .inr (10, [.ref nu, .ref zz, .ref on, .ref sm, .ref fw, .int tw])), (nu, .inl (cA, 2, .inr (.inr (.inr (.inr (rf2 na nc)))))), (na, .inl (cI, 20, .inl (fN g))), (nc, .inl (cI, 20, .inl (fN gb))), (zz, .inl (cI, 2, .inl (fN (sz2 n nb)))), (on, .inl (cB, 2, .inr (.inr (.inr (.inr (rf2 oa oc)))))), (oa, .inl (cL, 301, .inr (.inl u0))), (oc, .inl (cL, 301, .inr (.inl u1))), (sm, .inl (cL, 301, .inr (.inl (fL f0W)))), (fw, .inl (cI, 301, .inl uf))] := hD
        refine lv_iconst (v := nI 0) hx hb dX11_count_26 (by decide) ?_
        refine lv_istore (lv' := [(4, .int (nI 0)), (0, .ref mm), (1, .ref sm), (2, .int (nI 1)), (3, .int (nI v))]) hx hb dX11_count_27 hl (by decide) rfl (fun ls hl => ?_)
        have loop29 : ∀ (k29 : Nat) (i : Nat), (i ≤ nb) → nb - i < k29 → ∀ (H : Heap) (locs : List Loc), va_P D vwCl [(mm, .inr (10, [.ref nu, .ref zz, .ref on, .ref sm, .ref fw, .int tw])), (nu, .inl (cA, 2, .inr (.inr (.inr (.inr (rf2 na nc)))))), (na, .inl (cI, 20, .inl (fN g))), (nc, .inl (cI, 20, .inl (fN gb))), (zz, .inl (cI, 2, .inl (fN (sz2 n nb)))), (on, .inl (cB, 2, .inr (.inr (.inr (.inr (rf2 oa oc)))))), (oa, .inl (cL, 301, .inr (.inl u0))), (oc, .inl (cL, 301, .inr (.inl u1))), (sm, .inl (cL, 301, .inr (.inl (fL (ctP gb v i))))), (fw, .inl (cI, 301, .inl uf))] H → va_D A [(mm, .inr (10, [.ref nu, .ref zz, .ref on, .ref sm, .ref fw, .int tw])), (nu, .inl (cA, 2, .inr (.inr (.inr (.inr (rf2 na nc)))))), (na, .inl (cI, 20, .inl (fN g))), (nc, .inl (cI, 20, .inl (fN gb))), (zz, .inl (cI, 2, .inl (fN (sz2 n nb)))), (on, .inl (cB, 2, .inr (.inr (.inr (.inr (rf2 oa oc)))))), (oa, .inl (cL, 301, .inr (.inl u0))), (oc, .inl (cL, 301, .inr (.inl u1))), (sm, .inl (cL, 301, .inr (.inl (fL (ctP gb v i))))), (fw, .inl (cI, 301, .inl uf))] → va_S A s.heap H locs → ∀ ls : Array Slot, lv_has ls 7 [(4, .int (nI i)), (0, .ref mm), (1, .ref sm), (2, .int (nI 1)), (3, .int (nI v))] → W p l e R s m args below meth c H locs 0 0 Q (F0 m 29 ls []) := by
          intro k29
          induction k29 with
          | zero => intro i hi hk; exact absurd hk (Nat.not_lt_zero _)
          | succ k29 ih29 =>
            intro i hi hk29 H locs hP hD hS ls hl
            refine lv_iload hx hb dX11_count_29 (lv_at hl 0 rfl) ?_
            refine lv_aload_n hx hb dX11_count_31 rfl (lv_at hl 1 rfl) ?_
            refine va_get (D := D) (ci := 10) (v := .ref zz) (C := RX11) (T := TX11) (N := 6) hx hb hts in_X11 hown hK hP 0 rfl rfl 1 (by decide) k_1000 (fun _ h9 => h9) rfl dX11_count_32 ?_
            refine lv_iload_n hx hb dX11_count_35 rfl (lv_at hl 3 rfl) ?_
            refine su_iald hx hb hK hP 4 0 rfl rfl (i := 1) (by decide) (by decide) (nI nb) (rfl) dX11_count_36 ?_
            refine lv_icmp_ge (tgt := 99) hx hb dX11_count_37 (by decide) (fun c37 => ?_) (fun c37 => ?_)
            · have c37 : nb ≤ i := su_ge (by omega) (by omega) c37
              obtain ⟨hP, hD⟩ := su_reL (q0 := 8) (fL (ctP gb v nb)) hP hD rfl (fun j _ => by rw [show nb = i by omega])
              have hP : va_P D vwCl [(mm, .inr (10, [.ref nu, .ref zz, .ref on, .ref sm, .ref fw, .int tw])), (nu, .inl (cA, 2, .inr (.inr (.inr (.inr (rf2 na nc)))))), (na, .inl (cI, 20, .inl (fN g))), (nc, .inl (cI, 20, .inl (fN gb))), (zz, .inl (cI, 2, .inl (fN (sz2 n nb)))), (on, .inl (cB, 2, .inr (.inr (.inr (.inr (rf2 oa oc)))))), (oa, .inl (cL, 301, .inr (.inl u0))), (oc, .inl (cL, 301, .inr (.inl u1))), (sm, .inl (cL, 301, .inr (.inl (fL (ctP gb v nb))))), (fw, .inl (cI, 301, .inl uf))] H := hP
              have hD : va_D A [(mm, .inr (10, [.ref nu, .ref zz, .ref on, .ref sm, .ref fw, .int tw])), (nu, .inl (cA, 2, .inr (.inr (.inr (.inr (rf2 na nc)))))), (na, .inl (cI, 20, .inl (fN g))), (nc, .inl (cI, 20, .inl (fN gb))), (zz, .inl (cI, 2, .inl (fN (sz2 n nb)))), (on, .inl (cB, 2, .inr (.inr (.inr (.inr (rf2 oa oc)))))), (oa, .inl (cL, 301, .inr (.inl u0))), (oc, .inl (cL, 301, .inr (.inl u1))), (sm, .inl (cL, 301, .inr (.inl (fL (ctP gb v nb))))), (fw, .inl (cI, 301, .inl uf))] := hD
              rw [hQ]
              exact su_ev hx hb hr hlocks hS dX11_count_99 () (trivial) hP hD
            · have c37 : i < nb := su_nge (by omega) (by omega) c37
              refine lv_aload_n hx hb dX11_count_40 rfl (lv_at hl 1 rfl) ?_
              refine va_get (D := D) (ci := 10) (v := .ref nu) (C := RX11) (T := TX11) (N := 6) hx hb hts in_X11 hown hK hP 0 rfl rfl 0 (by decide) k_999 (fun _ h9 => h9) rfl dX11_count_41 ?_
              refine lv_iload_n hx hb dX11_count_44 rfl (lv_at hl 3 rfl) ?_
              refine su_aald hx hb hK hP 1 3 rfl rfl (i := 1) (by decide) (by decide) (nc) rfl dX11_count_45 ?_
              refine lv_iload hx hb dX11_count_46 (lv_at hl 0 rfl) ?_
              refine su_iald hx hb hK hP 3 0 rfl rfl (i := i) (by omega) (by decide) (nI (gb i)) (rfl) dX11_count_48 ?_
              refine lv_istore (lv' := [(5, .int (nI (gb i))), (4, .int (nI i)), (0, .ref mm), (1, .ref sm), (2, .int (nI 1)), (3, .int (nI v))]) hx hb dX11_count_49 hl (by decide) rfl (fun ls hl => ?_)
              have hgi := hgb i c37
              refine lv_iload_n hx hb dX11_count_51 rfl (lv_at hl 5 rfl) ?_
              refine lv_iload hx hb dX11_count_52 (lv_at hl 1 rfl) ?_
              refine lv_ishr hx hb dX11_count_54 ?_
              refine su_eqi (nI (v / 2 ^ i)) (su_shB hv (by omega)) ?_
              refine lv_iconst (v := nI 2) hx hb dX11_count_55 (by decide) ?_
              refine lv_irem hx hb dX11_count_56 (by decide) ?_
              refine su_eqi (bI (v.testBit i)) (su_remB hv) ?_
              refine lv_iconst (v := nI 1) hx hb dX11_count_57 (by decide) ?_
              refine lv_icmp_ne (tgt := 93) hx hb dX11_count_58 (by decide) (fun c58 => ?_) (fun c58 => ?_)
              · have c58 := bI_ne1 c58
                refine lv_iinc (v := nI (i + 1)) (lv' := [(4, .int (nI (i + 1))), (5, .int (nI (gb i))), (0, .ref mm), (1, .ref sm), (2, .int (nI 1)), (3, .int (nI v))]) hx hb dX11_count_93 hl (k := 1) rfl (su_inc _) (by decide) rfl (fun ls hl => ?_)
                refine lv_goto (tgt := 29) hx hb dX11_count_96 (by decide) ?_
                obtain ⟨hP, hD⟩ := su_reL (q0 := 8) (fL (ctP gb v (i + 1))) hP hD rfl (fun j _ => by rw [ctP_0 c58])
                have hP : va_P D vwCl [(mm, .inr (10, [.ref nu, .ref zz, .ref on, .ref sm, .ref fw, .int tw])), (nu, .inl (cA, 2, .inr (.inr (.inr (.inr (rf2 na nc)))))), (na, .inl (cI, 20, .inl (fN g))), (nc, .inl (cI, 20, .inl (fN gb))), (zz, .inl (cI, 2, .inl (fN (sz2 n nb)))), (on, .inl (cB, 2, .inr (.inr (.inr (.inr (rf2 oa oc)))))), (oa, .inl (cL, 301, .inr (.inl u0))), (oc, .inl (cL, 301, .inr (.inl u1))), (sm, .inl (cL, 301, .inr (.inl (fL (ctP gb v (i + 1)))))), (fw, .inl (cI, 301, .inl uf))] H := hP
                have hD : va_D A [(mm, .inr (10, [.ref nu, .ref zz, .ref on, .ref sm, .ref fw, .int tw])), (nu, .inl (cA, 2, .inr (.inr (.inr (.inr (rf2 na nc)))))), (na, .inl (cI, 20, .inl (fN g))), (nc, .inl (cI, 20, .inl (fN gb))), (zz, .inl (cI, 2, .inl (fN (sz2 n nb)))), (on, .inl (cB, 2, .inr (.inr (.inr (.inr (rf2 oa oc)))))), (oa, .inl (cL, 301, .inr (.inl u0))), (oc, .inl (cL, 301, .inr (.inl u1))), (sm, .inl (cL, 301, .inr (.inl (fL (ctP gb v (i + 1)))))), (fw, .inl (cI, 301, .inl uf))] := hD
                exact ih29 (i + 1) (by omega) (by omega) _ _ hP hD hS _ (lv_sub hl [0, 2, 3, 4, 5] rfl)
              · have c58 := bI_eq1 c58
                refine lv_sipush (v := nI 300) hx hb dX11_count_61 (by decide) ?_
                refine lv_istore (lv' := [(6, .int (nI 300)), (5, .int (nI (gb i))), (4, .int (nI i)), (0, .ref mm), (1, .ref sm), (2, .int (nI 1)), (3, .int (nI v))]) hx hb dX11_count_64 hl (by decide) rfl (fun ls hl => ?_)
                have loop66 : ∀ (k66 : Nat) (k : Nat), (k ≤ 300) → (gb i ≤ k + 1) → k < k66 → ∀ (H : Heap) (locs : List Loc), va_P D vwCl [(mm, .inr (10, [.ref nu, .ref zz, .ref on, .ref sm, .ref fw, .int tw])), (nu, .inl (cA, 2, .inr (.inr (.inr (.inr (rf2 na nc)))))), (na, .inl (cI, 20, .inl (fN g))), (nc, .inl (cI, 20, .inl (fN gb))), (zz, .inl (cI, 2, .inl (fN (sz2 n nb)))), (on, .inl (cB, 2, .inr (.inr (.inr (.inr (rf2 oa oc)))))), (oa, .inl (cL, 301, .inr (.inl u0))), (oc, .inl (cL, 301, .inr (.inl u1))), (sm, .inl (cL, 301, .inr (.inl (fL (dnP opW (gb i) (ctP gb v i) k))))), (fw, .inl (cI, 301, .inl uf))] H → va_D A [(mm, .inr (10, [.ref nu, .ref zz, .ref on, .ref sm, .ref fw, .int tw])), (nu, .inl (cA, 2, .inr (.inr (.inr (.inr (rf2 na nc)))))), (na, .inl (cI, 20, .inl (fN g))), (nc, .inl (cI, 20, .inl (fN gb))), (zz, .inl (cI, 2, .inl (fN (sz2 n nb)))), (on, .inl (cB, 2, .inr (.inr (.inr (.inr (rf2 oa oc)))))), (oa, .inl (cL, 301, .inr (.inl u0))), (oc, .inl (cL, 301, .inr (.inl u1))), (sm, .inl (cL, 301, .inr (.inl (fL (dnP opW (gb i) (ctP gb v i) k))))), (fw, .inl (cI, 301, .inl uf))] → va_S A s.heap H locs → ∀ ls : Array Slot, lv_has ls 7 [(6, .int (nI k)), (5, .int (nI (gb i))), (4, .int (nI i)), (0, .ref mm), (1, .ref sm), (2, .int (nI 1)), (3, .int (nI v))] → W p l e R s m args below meth c H locs 0 0 Q (F0 m 66 ls []) := by
                  intro k66
                  induction k66 with
                  | zero => intro k hk hk2 hk; exact absurd hk (Nat.not_lt_zero _)
                  | succ k66 ih66 =>
                    intro k hk hk2 hk66 H locs hP hD hS ls hl
                    refine lv_iload hx hb dX11_count_66 (lv_at hl 0 rfl) ?_
                    refine lv_iload hx hb dX11_count_68 (lv_at hl 1 rfl) ?_
                    refine lv_icmp_lt (tgt := 93) hx hb dX11_count_70 (by decide) (fun c70 => ?_) (fun c70 => ?_)
                    · have c70 : k < gb i := su_lt (by omega) (by omega) c70
                      refine lv_iinc (v := nI (i + 1)) (lv' := [(4, .int (nI (i + 1))), (6, .int (nI k)), (5, .int (nI (gb i))), (0, .ref mm), (1, .ref sm), (2, .int (nI 1)), (3, .int (nI v))]) hx hb dX11_count_93 hl (k := 2) rfl (su_inc _) (by decide) rfl (fun ls hl => ?_)
                      refine lv_goto (tgt := 29) hx hb dX11_count_96 (by decide) ?_
                      obtain ⟨hP, hD⟩ := su_reL (q0 := 8) (fL (ctP gb v (i + 1))) hP hD rfl (fun j _ => by rw [ctP_1 c58]; exact congrArg lN (dnP_T c70 j))
                      have hP : va_P D vwCl [(mm, .inr (10, [.ref nu, .ref zz, .ref on, .ref sm, .ref fw, .int tw])), (nu, .inl (cA, 2, .inr (.inr (.inr (.inr (rf2 na nc)))))), (na, .inl (cI, 20, .inl (fN g))), (nc, .inl (cI, 20, .inl (fN gb))), (zz, .inl (cI, 2, .inl (fN (sz2 n nb)))), (on, .inl (cB, 2, .inr (.inr (.inr (.inr (rf2 oa oc)))))), (oa, .inl (cL, 301, .inr (.inl u0))), (oc, .inl (cL, 301, .inr (.inl u1))), (sm, .inl (cL, 301, .inr (.inl (fL (ctP gb v (i + 1)))))), (fw, .inl (cI, 301, .inl uf))] H := hP
                      have hD : va_D A [(mm, .inr (10, [.ref nu, .ref zz, .ref on, .ref sm, .ref fw, .int tw])), (nu, .inl (cA, 2, .inr (.inr (.inr (.inr (rf2 na nc)))))), (na, .inl (cI, 20, .inl (fN g))), (nc, .inl (cI, 20, .inl (fN gb))), (zz, .inl (cI, 2, .inl (fN (sz2 n nb)))), (on, .inl (cB, 2, .inr (.inr (.inr (.inr (rf2 oa oc)))))), (oa, .inl (cL, 301, .inr (.inl u0))), (oc, .inl (cL, 301, .inr (.inl u1))), (sm, .inl (cL, 301, .inr (.inl (fL (ctP gb v (i + 1)))))), (fw, .inl (cI, 301, .inl uf))] := hD
                      exact ih29 (i + 1) (by omega) (by omega) _ _ hP hD hS _ (lv_sub hl [0, 3, 4, 5, 6] rfl)
                    · have c70 : gb i ≤ k := su_nlt (by omega) (by omega) c70
                      refine lv_aload_n hx hb dX11_count_73 rfl (lv_at hl 4 rfl) ?_
                      refine lv_iload hx hb dX11_count_74 (lv_at hl 0 rfl) ?_
                      refine lv_dup2_11 hx hb dX11_count_76 rfl rfl ?_
                      refine su_lald hx hb hK hP 8 1 rfl rfl (i := k) (by omega) (by decide) (lN ((dnP opW (gb i) (ctP gb v i) k) k)) (rfl) dX11_count_77 ?_
                      refine lv_aload_n hx hb dX11_count_78 rfl (lv_at hl 4 rfl) ?_
                      refine lv_iload hx hb dX11_count_79 (lv_at hl 0 rfl) ?_
                      refine lv_iload hx hb dX11_count_81 (lv_at hl 1 rfl) ?_
                      refine lv_isub hx hb dX11_count_83 ?_
                      refine su_eqi (nI (k - (gb i))) (pk_sub (by omega)) ?_
                      refine su_lald hx hb hK hP 8 1 rfl rfl (i := (k - (gb i))) (by omega) (by decide) (lN ((dnP opW (gb i) (ctP gb v i) k) (k - (gb i)))) (rfl) dX11_count_84 ?_
                      refine lv_ladd hx hb dX11_count_85 ?_
                      refine su_eql (lN ((dnP opW (gb i) (ctP gb v i) k) k + ((dnP opW (gb i) (ctP gb v i) k) (k - (gb i))))) (lN_add _ _) ?_
                      refine su_last hx hb hK hP hD hS 8 1 rfl rfl (i := k) (by omega) (by decide) (fL (va_up (dnP opW (gb i) (ctP gb v i) k) k ((dnP opW (gb i) (ctP gb v i) k) k + ((dnP opW (gb i) (ctP gb v i) k) (k - (gb i)))))) (fun j _ => su_upL _ _ _ j) dX11_count_86 (fun H locs hP hD hS => ?_)
                      have hP : va_P D vwCl [(mm, .inr (10, [.ref nu, .ref zz, .ref on, .ref sm, .ref fw, .int tw])), (nu, .inl (cA, 2, .inr (.inr (.inr (.inr (rf2 na nc)))))), (na, .inl (cI, 20, .inl (fN g))), (nc, .inl (cI, 20, .inl (fN gb))), (zz, .inl (cI, 2, .inl (fN (sz2 n nb)))), (on, .inl (cB, 2, .inr (.inr (.inr (.inr (rf2 oa oc)))))), (oa, .inl (cL, 301, .inr (.inl u0))), (oc, .inl (cL, 301, .inr (.inl u1))), (sm, .inl (cL, 301, .inr (.inl (fL (va_up (dnP opW (gb i) (ctP gb v i) k) k ((dnP opW (gb i) (ctP gb v i) k) k + ((dnP opW (gb i) (ctP gb v i) k) (k - (gb i))))))))), (fw, .inl (cI, 301, .inl uf))] H := hP
                      have hD : va_D A [(mm, .inr (10, [.ref nu, .ref zz, .ref on, .ref sm, .ref fw, .int tw])), (nu, .inl (cA, 2, .inr (.inr (.inr (.inr (rf2 na nc)))))), (na, .inl (cI, 20, .inl (fN g))), (nc, .inl (cI, 20, .inl (fN gb))), (zz, .inl (cI, 2, .inl (fN (sz2 n nb)))), (on, .inl (cB, 2, .inr (.inr (.inr (.inr (rf2 oa oc)))))), (oa, .inl (cL, 301, .inr (.inl u0))), (oc, .inl (cL, 301, .inr (.inl u1))), (sm, .inl (cL, 301, .inr (.inl (fL (va_up (dnP opW (gb i) (ctP gb v i) k) k ((dnP opW (gb i) (ctP gb v i) k) k + ((dnP opW (gb i) (ctP gb v i) k) (k - (gb i))))))))), (fw, .inl (cI, 301, .inl uf))] := hD
                      refine lv_iinc (v := nI (k - 1)) (lv' := [(6, .int (nI (k - 1))), (5, .int (nI (gb i))), (4, .int (nI i)), (0, .ref mm), (1, .ref sm), (2, .int (nI 1)), (3, .int (nI v))]) hx hb dX11_count_87 hl (k := 0) rfl (sb_m1 (by omega)) (by decide) rfl (fun ls hl => ?_)
                      refine lv_goto (tgt := 66) hx hb dX11_count_90 (by decide) ?_
                      obtain ⟨hP, hD⟩ := su_reL (q0 := 8) (fL (dnP opW (gb i) (ctP gb v i) (k - 1))) hP hD rfl (fun j _ => congrArg lN (dnP_S hgi.1 c70 hk j))
                      have hP : va_P D vwCl [(mm, .inr (10, [.ref nu, .ref zz, .ref on, .ref sm, .ref fw, .int tw])), (nu, .inl (cA, 2, .inr (.inr (.inr (.inr (rf2 na nc)))))), (na, .inl (cI, 20, .inl (fN g))), (nc, .inl (cI, 20, .inl (fN gb))), (zz, .inl (cI, 2, .inl (fN (sz2 n nb)))), (on, .inl (cB, 2, .inr (.inr (.inr (.inr (rf2 oa oc)))))), (oa, .inl (cL, 301, .inr (.inl u0))), (oc, .inl (cL, 301, .inr (.inl u1))), (sm, .inl (cL, 301, .inr (.inl (fL (dnP opW (gb i) (ctP gb v i) (k - 1)))))), (fw, .inl (cI, 301, .inl uf))] H := hP
                      have hD : va_D A [(mm, .inr (10, [.ref nu, .ref zz, .ref on, .ref sm, .ref fw, .int tw])), (nu, .inl (cA, 2, .inr (.inr (.inr (.inr (rf2 na nc)))))), (na, .inl (cI, 20, .inl (fN g))), (nc, .inl (cI, 20, .inl (fN gb))), (zz, .inl (cI, 2, .inl (fN (sz2 n nb)))), (on, .inl (cB, 2, .inr (.inr (.inr (.inr (rf2 oa oc)))))), (oa, .inl (cL, 301, .inr (.inl u0))), (oc, .inl (cL, 301, .inr (.inl u1))), (sm, .inl (cL, 301, .inr (.inl (fL (dnP opW (gb i) (ctP gb v i) (k - 1)))))), (fw, .inl (cI, 301, .inl uf))] := hD
                      exact ih66 (k - 1) (by omega) (by omega) (by omega) _ _ hP hD hS _ (lv_sub hl [0, 1, 2, 3, 4, 5, 6] rfl)
                obtain ⟨hP, hD⟩ := su_reL (q0 := 8) (fL (dnP opW (gb i) (ctP gb v i) (300))) hP hD rfl (fun j _ => congrArg lN (dnP_0 j))
                have hP : va_P D vwCl [(mm, .inr (10, [.ref nu, .ref zz, .ref on, .ref sm, .ref fw, .int tw])), (nu, .inl (cA, 2, .inr (.inr (.inr (.inr (rf2 na nc)))))), (na, .inl (cI, 20, .inl (fN g))), (nc, .inl (cI, 20, .inl (fN gb))), (zz, .inl (cI, 2, .inl (fN (sz2 n nb)))), (on, .inl (cB, 2, .inr (.inr (.inr (.inr (rf2 oa oc)))))), (oa, .inl (cL, 301, .inr (.inl u0))), (oc, .inl (cL, 301, .inr (.inl u1))), (sm, .inl (cL, 301, .inr (.inl (fL (dnP opW (gb i) (ctP gb v i) (300)))))), (fw, .inl (cI, 301, .inl uf))] H := hP
                have hD : va_D A [(mm, .inr (10, [.ref nu, .ref zz, .ref on, .ref sm, .ref fw, .int tw])), (nu, .inl (cA, 2, .inr (.inr (.inr (.inr (rf2 na nc)))))), (na, .inl (cI, 20, .inl (fN g))), (nc, .inl (cI, 20, .inl (fN gb))), (zz, .inl (cI, 2, .inl (fN (sz2 n nb)))), (on, .inl (cB, 2, .inr (.inr (.inr (.inr (rf2 oa oc)))))), (oa, .inl (cL, 301, .inr (.inl u0))), (oc, .inl (cL, 301, .inr (.inl u1))), (sm, .inl (cL, 301, .inr (.inl (fL (dnP opW (gb i) (ctP gb v i) (300)))))), (fw, .inl (cI, 301, .inl uf))] := hD
                exact loop66 (((300)) + 1) (300) (by omega) (by omega) (by omega) _ _ hP hD hS _ (lv_sub hl [0, 1, 2, 3, 4, 5, 6] rfl)
        exact loop29 ((nb - (0)) + 1) (0) (by omega) (by omega) _ _ hP hD hS _ (lv_sub hl [0, 1, 2, 3, 4] rfl)
      · have c8 : j ≤ 300 := su_nlt (by omega) (by omega) c8
        refine lv_aload_n hx hb dX11_count_11 rfl (lv_at hl 2 rfl) ?_
        refine lv_iload hx hb dX11_count_12 (lv_at hl 0 rfl) ?_
        refine lv_lconst (v := lN 0) hx hb dX11_count_14 (by decide) ?_
        refine su_last hx hb hK hP hD hS 8 1 rfl rfl (i := j) (by omega) (by decide) (va_up (zf us j) j (lN 0)) (fun _ _ => rfl) dX11_count_15 (fun H locs hP hD hS => ?_)
        have hP : va_P D vwCl [(mm, .inr (10, [.ref nu, .ref zz, .ref on, .ref sm, .ref fw, .int tw])), (nu, .inl (cA, 2, .inr (.inr (.inr (.inr (rf2 na nc)))))), (na, .inl (cI, 20, .inl (fN g))), (nc, .inl (cI, 20, .inl (fN gb))), (zz, .inl (cI, 2, .inl (fN (sz2 n nb)))), (on, .inl (cB, 2, .inr (.inr (.inr (.inr (rf2 oa oc)))))), (oa, .inl (cL, 301, .inr (.inl u0))), (oc, .inl (cL, 301, .inr (.inl u1))), (sm, .inl (cL, 301, .inr (.inl (va_up (zf us j) j (lN 0))))), (fw, .inl (cI, 301, .inl uf))] H := hP
        have hD : va_D A [(mm, .inr (10, [.ref nu, .ref zz, .ref on, .ref sm, .ref fw, .int tw])), (nu, .inl (cA, 2, .inr (.inr (.inr (.inr (rf2 na nc)))))), (na, .inl (cI, 20, .inl (fN g))), (nc, .inl (cI, 20, .inl (fN gb))), (zz, .inl (cI, 2, .inl (fN (sz2 n nb)))), (on, .inl (cB, 2, .inr (.inr (.inr (.inr (rf2 oa oc)))))), (oa, .inl (cL, 301, .inr (.inl u0))), (oc, .inl (cL, 301, .inr (.inl u1))), (sm, .inl (cL, 301, .inr (.inl (va_up (zf us j) j (lN 0))))), (fw, .inl (cI, 301, .inl uf))] := hD
        refine lv_iinc (v := nI (j + 1)) (lv' := [(4, .int (nI (j + 1))), (0, .ref mm), (1, .ref sm), (2, .int (nI 1)), (3, .int (nI v))]) hx hb dX11_count_16 hl (k := 0) rfl (su_inc _) (by decide) rfl (fun ls hl => ?_)
        refine lv_goto (tgt := 3) hx hb dX11_count_19 (by decide) ?_
        obtain ⟨hP, hD⟩ := su_reL (q0 := 8) (zf us (j + 1)) hP hD rfl (fun k _ => zfS hj k)
        have hP : va_P D vwCl [(mm, .inr (10, [.ref nu, .ref zz, .ref on, .ref sm, .ref fw, .int tw])), (nu, .inl (cA, 2, .inr (.inr (.inr (.inr (rf2 na nc)))))), (na, .inl (cI, 20, .inl (fN g))), (nc, .inl (cI, 20, .inl (fN gb))), (zz, .inl (cI, 2, .inl (fN (sz2 n nb)))), (on, .inl (cB, 2, .inr (.inr (.inr (.inr (rf2 oa oc)))))), (oa, .inl (cL, 301, .inr (.inl u0))), (oc, .inl (cL, 301, .inr (.inl u1))), (sm, .inl (cL, 301, .inr (.inl (zf us (j + 1))))), (fw, .inl (cI, 301, .inl uf))] H := hP
        have hD : va_D A [(mm, .inr (10, [.ref nu, .ref zz, .ref on, .ref sm, .ref fw, .int tw])), (nu, .inl (cA, 2, .inr (.inr (.inr (.inr (rf2 na nc)))))), (na, .inl (cI, 20, .inl (fN g))), (nc, .inl (cI, 20, .inl (fN gb))), (zz, .inl (cI, 2, .inl (fN (sz2 n nb)))), (on, .inl (cB, 2, .inr (.inr (.inr (.inr (rf2 oa oc)))))), (oa, .inl (cL, 301, .inr (.inl u0))), (oc, .inl (cL, 301, .inr (.inl u1))), (sm, .inl (cL, 301, .inr (.inl (zf us (j + 1))))), (fw, .inl (cI, 301, .inl uf))] := hD
        exact ih3 (j + 1) (by omega) (by omega) (by omega) _ _ hP hD hS _ (lv_sub hl [0, 1, 2, 3, 4] rfl)
  obtain ⟨hP, hD⟩ := su_reL (q0 := 8) (zf us (1)) hP hD rfl (fun k _ => zf0 k)
  have hP : va_P D vwCl [(mm, .inr (10, [.ref nu, .ref zz, .ref on, .ref sm, .ref fw, .int tw])), (nu, .inl (cA, 2, .inr (.inr (.inr (.inr (rf2 na nc)))))), (na, .inl (cI, 20, .inl (fN g))), (nc, .inl (cI, 20, .inl (fN gb))), (zz, .inl (cI, 2, .inl (fN (sz2 n nb)))), (on, .inl (cB, 2, .inr (.inr (.inr (.inr (rf2 oa oc)))))), (oa, .inl (cL, 301, .inr (.inl u0))), (oc, .inl (cL, 301, .inr (.inl u1))), (sm, .inl (cL, 301, .inr (.inl (zf us (1))))), (fw, .inl (cI, 301, .inl uf))] H := hP
  have hD : va_D A [(mm, .inr (10, [.ref nu, .ref zz, .ref on, .ref sm, .ref fw, .int tw])), (nu, .inl (cA, 2, .inr (.inr (.inr (.inr (rf2 na nc)))))), (na, .inl (cI, 20, .inl (fN g))), (nc, .inl (cI, 20, .inl (fN gb))), (zz, .inl (cI, 2, .inl (fN (sz2 n nb)))), (on, .inl (cB, 2, .inr (.inr (.inr (.inr (rf2 oa oc)))))), (oa, .inl (cL, 301, .inr (.inl u0))), (oc, .inl (cL, 301, .inr (.inl u1))), (sm, .inl (cL, 301, .inr (.inl (zf us (1))))), (fw, .inl (cI, 301, .inl uf))] := hD
  exact loop3 ((301 - (1)) + 1) (1) (by omega) (by omega) (by omega) _ _ hP hD hS _ (lv_sub hl [0, 1, 2, 3, 4] rfl)
set_option maxHeartbeats 4000000 in
set_option maxRecDepth 100000 in
theorem m_recounted1 (l : Launch) (D : va_G) (cI cL cZ : ClassId) (sz : Nat) (cA : ClassId) (cB : ClassId) (mm : Nat) (nu : Nat) (na : Nat) (nc : Nat) (zz : Nat) (on : Nat) (oa : Nat) (oc : Nat) (sm : Nat) (fw : Nat) (g : Nat → Nat) (n : Nat) (gb : Nat → Nat) (nb : Nat) (tw : Int32) (u0 : Nat → Int64) (u1 : Nat → Int64) (us : Nat → Int64) (uf : Nat → Int32) (hn : n ≤ 20) (hnb : nb ≤ 20) (hg : ∀ k, k < n → 1 ≤ g k ∧ g k ≤ 300) (hgb : ∀ k, k < nb → 1 ≤ gb k ∧ gb k ≤ 300) :
    Met l yX11_recounted (ws_ yX11_recounted cX11_recounted 2 (some .int)) { frames := 1, cells := 0, slots := 0, locals := 32 } (su_pre D (su_T5 cI cL cZ cA cB) sz [(mm, .inr (10, [.ref nu, .ref zz, .ref on, .ref sm, .ref fw, .int tw])), (nu, .inl (cA, 2, .inr (.inr (.inr (.inr (rf2 na nc)))))), (na, .inl (cI, 20, .inl (fN g))), (nc, .inl (cI, 20, .inl (fN gb))), (zz, .inl (cI, 2, .inl (fN (sz2 n nb)))), (on, .inl (cB, 2, .inr (.inr (.inr (.inr (rf2 oa oc)))))), (oa, .inl (cL, 301, .inr (.inl u0))), (oc, .inl (cL, 301, .inr (.inl u1))), (sm, .inl (cL, 301, .inr (.inl us))), (fw, .inl (cI, 301, .inl uf))] [.ref mm, .int (nI 1)]) (su_qi D (va_A [(mm, .inr (10, [.ref nu, .ref zz, .ref on, .ref sm, .ref fw, .int tw])), (nu, .inl (cA, 2, .inr (.inr (.inr (.inr (rf2 na nc)))))), (na, .inl (cI, 20, .inl (fN g))), (nc, .inl (cI, 20, .inl (fN gb))), (zz, .inl (cI, 2, .inl (fN (sz2 n nb)))), (on, .inl (cB, 2, .inr (.inr (.inr (.inr (rf2 oa oc)))))), (oa, .inl (cL, 301, .inr (.inl u0))), (oc, .inl (cL, 301, .inr (.inl u1))), (sm, .inl (cL, 301, .inr (.inl us))), (fw, .inl (cI, 301, .inl uf))] sz) (fun (r : Int32) (uu : Unit) => r = nI (nS gb nb)) (fun (uu : Unit) => [(mm, .inr (10, [.ref nu, .ref zz, .ref on, .ref sm, .ref fw, .int tw])), (nu, .inl (cA, 2, .inr (.inr (.inr (.inr (rf2 na nc)))))), (na, .inl (cI, 20, .inl (fN g))), (nc, .inl (cI, 20, .inl (fN gb))), (zz, .inl (cI, 2, .inl (fN (sz2 n nb)))), (on, .inl (cB, 2, .inr (.inr (.inr (.inr (rf2 oa oc)))))), (oa, .inl (cL, 301, .inr (.inl u0))), (oc, .inl (cL, 301, .inr (.inl (fL (fiD opW f0W gb nb))))), (sm, .inl (cL, 301, .inr (.inl us))), (fw, .inl (cI, 301, .inl uf))])) 0 0 (va_A [(mm, .inr (10, [.ref nu, .ref zz, .ref on, .ref sm, .ref fw, .int tw])), (nu, .inl (cA, 2, .inr (.inr (.inr (.inr (rf2 na nc)))))), (na, .inl (cI, 20, .inl (fN g))), (nc, .inl (cI, 20, .inl (fN gb))), (zz, .inl (cI, 2, .inl (fN (sz2 n nb)))), (on, .inl (cB, 2, .inr (.inr (.inr (.inr (rf2 oa oc)))))), (oa, .inl (cL, 301, .inr (.inl u0))), (oc, .inl (cL, 301, .inr (.inl u1))), (sm, .inl (cL, 301, .inr (.inl us))), (fw, .inl (cI, 301, .inl uf))] sz) := by
  refine su_met (y := yX11_recounted) (av := [.ref mm, .int (nI 1)]) (Qf := fun A => su_qi D A (fun (r : Int32) (uu : Unit) => r = nI (nS gb nb)) (fun (uu : Unit) => [(mm, .inr (10, [.ref nu, .ref zz, .ref on, .ref sm, .ref fw, .int tw])), (nu, .inl (cA, 2, .inr (.inr (.inr (.inr (rf2 na nc)))))), (na, .inl (cI, 20, .inl (fN g))), (nc, .inl (cI, 20, .inl (fN gb))), (zz, .inl (cI, 2, .inl (fN (sz2 n nb)))), (on, .inl (cB, 2, .inr (.inr (.inr (.inr (rf2 oa oc)))))), (oa, .inl (cL, 301, .inr (.inl u0))), (oc, .inl (cL, 301, .inr (.inl (fL (fiD opW f0W gb nb))))), (sm, .inl (cL, 301, .inr (.inl us))), (fw, .inl (cI, 301, .inl uf))])) (cc := cX11_recounted) (maxL := 2) (ret := (some .int)) (by decide) (Nat.le_of_ble_eq_true rfl) ?_
  intro p e s m args below meth c R Q A H locs ls hx hb hr hlocks hin hml hown hts hN hP hK hD hA hS hRm hQ hl
  have hown : s.vm.findClass RX11 = some m.cls := hown
  have hl : lv_has ls 2 [(0, .ref mm), (1, .int (nI 1))] := hl
  have hR1 : 1 ≤ R.frames := by rw [hRm]; exact Nat.le_of_ble_eq_true rfl
  have hR2 : 32 ≤ R.locals := by rw [hRm]; exact Nat.le_of_ble_eq_true rfl
  have hR3 : 0 ≤ R.cells := by rw [hRm]; exact Nat.le_of_ble_eq_true rfl
  have hR4 : 0 ≤ R.slots := by rw [hRm]; exact Nat.le_of_ble_eq_true rfl
  have k_1001 := hts _ q_1001
  have k_1000 := hts _ q_1000
  have hp20 : 2 ^ nb ≤ 2 ^ 20 := Nat.pow_le_pow_right (by decide) hnb
  have hp00 : 0 < 2 ^ nb := Nat.two_pow_pos _
  refine lv_aload_n hx hb dX11_recounted_0 rfl (lv_at hl 0 rfl) ?_
  refine lv_aload_n hx hb dX11_recounted_1 rfl (lv_at hl 0 rfl) ?_
  refine va_get (D := D) (ci := 10) (v := .ref on) (C := RX11) (T := TX11) (N := 6) hx hb hts in_X11 hown hK hP 0 rfl rfl 2 (by decide) k_1001 (fun _ h9 => h9) rfl dX11_recounted_2 ?_
  refine lv_iload_n hx hb dX11_recounted_5 rfl (lv_at hl 1 rfl) ?_
  refine su_aald hx hb hK hP 5 4 rfl rfl (i := 1) (by decide) (by decide) (oc) rfl dX11_recounted_6 ?_
  refine lv_iload_n hx hb dX11_recounted_7 rfl (lv_at hl 1 rfl) ?_
  refine lv_iconst (v := nI 1) hx hb dX11_recounted_8 (by decide) ?_
  refine lv_aload_n hx hb dX11_recounted_9 rfl (lv_at hl 0 rfl) ?_
  refine va_get (D := D) (ci := 10) (v := .ref zz) (C := RX11) (T := TX11) (N := 6) hx hb hts in_X11 hown hK hP 0 rfl rfl 1 (by decide) k_1000 (fun _ h9 => h9) rfl dX11_recounted_10 ?_
  refine lv_iload_n hx hb dX11_recounted_13 rfl (lv_at hl 1 rfl) ?_
  refine su_iald hx hb hK hP 4 0 rfl rfl (i := 1) (by decide) (by decide) (nI nb) (rfl) dX11_recounted_14 ?_
  refine lv_ishl hx hb dX11_recounted_15 ?_
  refine su_eqi (nI (2 ^ nb)) (su_1shl _ hnb) ?_
  refine lv_iconst (v := nI 1) hx hb dX11_recounted_16 (by decide) ?_
  refine lv_isub hx hb dX11_recounted_17 ?_
  refine su_eqi (nI ((2 ^ nb) - 1)) (pk_sub (by omega)) ?_
  refine su_cv (wr := []) (va_runV (As := [.ref oc, .int (nI 1), .int (nI ((2 ^ nb) - 1))]) (rest := []) ⟨hx, hb, hml, hown, hts⟩ (m_count1o l D cI cL cZ H.size (cA) (cB) (mm) (nu) (na) (nc) (zz) (on) (oa) (oc) (sm) (fw) (g) (n) (gb) (nb) (tw) (u0) (u1) (us) (uf) (2 ^ nb - 1) (hn) (hnb) (hg) (hgb) (by omega)) (cwV 3 hts (lw_gV q_1052 q_1054 q_21 q_42 q_1055) rfl rfl rfl (by decide +kernel) ⟨Nat.le_trans (Nat.le_of_ble_eq_true rfl) hR1, Nat.le_trans (Nat.le_of_ble_eq_true rfl) hR2⟩) (su_pv hN hK hP hD [0, 1, 2, 3, 4, 5, 6, 7, 8, 9] [0, 1, 2, 3, 4] rfl rfl rfl (ci := 10) (q0 := 0) rfl rfl rfl) rfl rfl hl.1 rfl (lv_room (Nat.le_of_ble_eq_true rfl)) dX11_recounted_18 ⟨Nat.le_trans (Nat.le_of_ble_eq_true rfl) hR3, Nat.le_trans (Nat.le_of_ble_eq_true rfl) hR4⟩) hP hD hS hA [0, 1, 2, 3, 4, 5, 6, 7, 8, 9] [] rfl rfl (by decide) (by decide) (fun uu H locs hw hP hD hS => ?_)
  have hP : va_P D vwCl [(mm, .inr (10, [.ref nu, .ref zz, .ref on, .ref sm, .ref fw, .int tw])), (nu, .inl (cA, 2, .inr (.inr (.inr (.inr (rf2 na nc)))))), (na, .inl (cI, 20, .inl (fN g))), (nc, .inl (cI, 20, .inl (fN gb))), (zz, .inl (cI, 2, .inl (fN (sz2 n nb)))), (on, .inl (cB, 2, .inr (.inr (.inr (.inr (rf2 oa oc)))))), (oa, .inl (cL, 301, .inr (.inl u0))), (oc, .inl (cL, 301, .inr (.inl (fL (ctP gb (2 ^ nb - 1) nb))))), (sm, .inl (cL, 301, .inr (.inl us))), (fw, .inl (cI, 301, .inl uf))] H := hP
  have hD : va_D A [(mm, .inr (10, [.ref nu, .ref zz, .ref on, .ref sm, .ref fw, .int tw])), (nu, .inl (cA, 2, .inr (.inr (.inr (.inr (rf2 na nc)))))), (na, .inl (cI, 20, .inl (fN g))), (nc, .inl (cI, 20, .inl (fN gb))), (zz, .inl (cI, 2, .inl (fN (sz2 n nb)))), (on, .inl (cB, 2, .inr (.inr (.inr (.inr (rf2 oa oc)))))), (oa, .inl (cL, 301, .inr (.inl u0))), (oc, .inl (cL, 301, .inr (.inl (fL (ctP gb (2 ^ nb - 1) nb))))), (sm, .inl (cL, 301, .inr (.inl us))), (fw, .inl (cI, 301, .inl uf))] := hD
  obtain ⟨hP, hD⟩ := su_reL (q0 := 7) (fL (fiD opW f0W gb nb)) hP hD rfl (fun j _ => by rw [ctP_top])
  have hP : va_P D vwCl [(mm, .inr (10, [.ref nu, .ref zz, .ref on, .ref sm, .ref fw, .int tw])), (nu, .inl (cA, 2, .inr (.inr (.inr (.inr (rf2 na nc)))))), (na, .inl (cI, 20, .inl (fN g))), (nc, .inl (cI, 20, .inl (fN gb))), (zz, .inl (cI, 2, .inl (fN (sz2 n nb)))), (on, .inl (cB, 2, .inr (.inr (.inr (.inr (rf2 oa oc)))))), (oa, .inl (cL, 301, .inr (.inl u0))), (oc, .inl (cL, 301, .inr (.inl (fL (fiD opW f0W gb nb))))), (sm, .inl (cL, 301, .inr (.inl us))), (fw, .inl (cI, 301, .inl uf))] H := hP
  have hD : va_D A [(mm, .inr (10, [.ref nu, .ref zz, .ref on, .ref sm, .ref fw, .int tw])), (nu, .inl (cA, 2, .inr (.inr (.inr (.inr (rf2 na nc)))))), (na, .inl (cI, 20, .inl (fN g))), (nc, .inl (cI, 20, .inl (fN gb))), (zz, .inl (cI, 2, .inl (fN (sz2 n nb)))), (on, .inl (cB, 2, .inr (.inr (.inr (.inr (rf2 oa oc)))))), (oa, .inl (cL, 301, .inr (.inl u0))), (oc, .inl (cL, 301, .inr (.inl (fL (fiD opW f0W gb nb))))), (sm, .inl (cL, 301, .inr (.inl us))), (fw, .inl (cI, 301, .inl uf))] := hD
  refine lv_aload_n hx hb dX11_recounted_21 rfl (lv_at hl 0 rfl) ?_
  refine va_get (D := D) (ci := 10) (v := .ref on) (C := RX11) (T := TX11) (N := 6) hx hb hts in_X11 hown hK hP 0 rfl rfl 2 (by decide) k_1001 (fun _ h9 => h9) rfl dX11_recounted_22 ?_
  refine lv_iload_n hx hb dX11_recounted_25 rfl (lv_at hl 1 rfl) ?_
  refine su_aald hx hb hK hP 5 4 rfl rfl (i := 1) (by decide) (by decide) (oc) rfl dX11_recounted_26 ?_
  refine su_ci (wr := [(mm, .inr (10, [.ref nu, .ref zz, .ref on, .ref sm, .ref fw, .int tw])), (nu, .inl (cA, 2, .inr (.inr (.inr (.inr (rf2 na nc)))))), (na, .inl (cI, 20, .inl (fN g))), (nc, .inl (cI, 20, .inl (fN gb))), (zz, .inl (cI, 2, .inl (fN (sz2 n nb)))), (on, .inl (cB, 2, .inr (.inr (.inr (.inr (rf2 oa oc)))))), (oa, .inl (cL, 301, .inr (.inl u0))), (sm, .inl (cL, 301, .inr (.inl us))), (fw, .inl (cI, 301, .inl uf))]) (va_runS (As := [.ref oc]) (rest := []) ⟨hx, hb, hml, hown, hts⟩ (m_above l D cI cL cZ H.size (cA) (cB) (oc) (fiD opW f0W gb nb) (fun q9 => cW_63 hnb)) (va_cwS 1 hts (lw_gS q_1056 q_1057 q_42 q_1058) rfl rfl rfl (by decide +kernel) ⟨Nat.le_trans (Nat.le_of_ble_eq_true rfl) hR1, Nat.le_trans (Nat.le_of_ble_eq_true rfl) hR2⟩) (su_ps hN hK hP hD [7] [0, 1, 2, 3, 4] rfl rfl rfl) rfl rfl hl.1 rfl (lv_room (Nat.le_of_ble_eq_true rfl)) dX11_recounted_27 ⟨Nat.le_trans (Nat.le_of_ble_eq_true rfl) hR3, Nat.le_trans (Nat.le_of_ble_eq_true rfl) hR4⟩) hP hD hS hA [7] [0, 1, 2, 3, 4, 5, 6, 8, 9] rfl rfl (by decide) (by decide) (fun r uu H locs hw hP hD hS => ?_)
  obtain rfl : r = nI (su_ct (fun s => decide (0 < (fiD opW f0W gb nb) s)) 301) := hw
  have hP : va_P D vwCl [(mm, .inr (10, [.ref nu, .ref zz, .ref on, .ref sm, .ref fw, .int tw])), (nu, .inl (cA, 2, .inr (.inr (.inr (.inr (rf2 na nc)))))), (na, .inl (cI, 20, .inl (fN g))), (nc, .inl (cI, 20, .inl (fN gb))), (zz, .inl (cI, 2, .inl (fN (sz2 n nb)))), (on, .inl (cB, 2, .inr (.inr (.inr (.inr (rf2 oa oc)))))), (oa, .inl (cL, 301, .inr (.inl u0))), (sm, .inl (cL, 301, .inr (.inl us))), (fw, .inl (cI, 301, .inl uf)), (oc, .inl (cL, 301, .inr (.inl (fL (fiD opW f0W gb nb)))))] H := hP
  have hD : va_D A [(mm, .inr (10, [.ref nu, .ref zz, .ref on, .ref sm, .ref fw, .int tw])), (nu, .inl (cA, 2, .inr (.inr (.inr (.inr (rf2 na nc)))))), (na, .inl (cI, 20, .inl (fN g))), (nc, .inl (cI, 20, .inl (fN gb))), (zz, .inl (cI, 2, .inl (fN (sz2 n nb)))), (on, .inl (cB, 2, .inr (.inr (.inr (.inr (rf2 oa oc)))))), (oa, .inl (cL, 301, .inr (.inl u0))), (sm, .inl (cL, 301, .inr (.inl us))), (fw, .inl (cI, 301, .inl uf)), (oc, .inl (cL, 301, .inr (.inl (fL (fiD opW f0W gb nb)))))] := hD
  refine su_eqi (nI (nS gb nb)) (rfl) ?_
  rw [hQ]
  exact su_ei hx hb hr hlocks hS dX11_recounted_30 () (rfl) (hP.sub [0, 1, 2, 3, 4, 5, 6, 9, 7, 8] rfl) (hD.sub [0, 1, 2, 3, 4, 5, 6, 9, 7, 8] (by decide) rfl)
set_option maxHeartbeats 4000000 in
set_option maxRecDepth 100000 in
theorem m_mark1 (l : Launch) (D : va_G) (cI cL cZ : ClassId) (sz : Nat) (cA : ClassId) (cB : ClassId) (mm : Nat) (nu : Nat) (na : Nat) (nc : Nat) (zz : Nat) (on : Nat) (oa : Nat) (oc : Nat) (sm : Nat) (fw : Nat) (g : Nat → Nat) (n : Nat) (gb : Nat → Nat) (nb : Nat) (tw : Int32) (u0 : Nat → Int64) (u1 : Nat → Int64) (us : Nat → Int64) (uf : Nat → Int32) (hn : n ≤ 20) (hnb : nb ≤ 20) (hg : ∀ k, k < n → 1 ≤ g k ∧ g k ≤ 300) (hgb : ∀ k, k < nb → 1 ≤ gb k ∧ gb k ≤ 300) :
    Met l yX11_mark (ws_ yX11_mark cX11_mark 5 none) { frames := 0, cells := 0, slots := 0, locals := 0 } (su_pre D (su_T5 cI cL cZ cA cB) sz [(mm, .inr (10, [.ref nu, .ref zz, .ref on, .ref sm, .ref fw, .int tw])), (nu, .inl (cA, 2, .inr (.inr (.inr (.inr (rf2 na nc)))))), (na, .inl (cI, 20, .inl (fN g))), (nc, .inl (cI, 20, .inl (fN gb))), (zz, .inl (cI, 2, .inl (fN (sz2 n nb)))), (on, .inl (cB, 2, .inr (.inr (.inr (.inr (rf2 oa oc)))))), (oa, .inl (cL, 301, .inr (.inl u0))), (oc, .inl (cL, 301, .inr (.inl u1))), (sm, .inl (cL, 301, .inr (.inl us))), (fw, .inl (cI, 301, .inl uf))] [.ref mm, .int (nI 1)]) (su_qv D (va_A [(mm, .inr (10, [.ref nu, .ref zz, .ref on, .ref sm, .ref fw, .int tw])), (nu, .inl (cA, 2, .inr (.inr (.inr (.inr (rf2 na nc)))))), (na, .inl (cI, 20, .inl (fN g))), (nc, .inl (cI, 20, .inl (fN gb))), (zz, .inl (cI, 2, .inl (fN (sz2 n nb)))), (on, .inl (cB, 2, .inr (.inr (.inr (.inr (rf2 oa oc)))))), (oa, .inl (cL, 301, .inr (.inl u0))), (oc, .inl (cL, 301, .inr (.inl u1))), (sm, .inl (cL, 301, .inr (.inl us))), (fw, .inl (cI, 301, .inl uf))] sz) (fun (uu : Unit) => True) (fun (uu : Unit) => [(mm, .inr (10, [.ref nu, .ref zz, .ref on, .ref sm, .ref fw, .int tw])), (nu, .inl (cA, 2, .inr (.inr (.inr (.inr (rf2 na nc)))))), (na, .inl (cI, 20, .inl (fN g))), (nc, .inl (cI, 20, .inl (fN gb))), (zz, .inl (cI, 2, .inl (fN (sz2 n nb)))), (on, .inl (cB, 2, .inr (.inr (.inr (.inr (rf2 oa oc)))))), (oa, .inl (cL, 301, .inr (.inl u0))), (oc, .inl (cL, 301, .inr (.inl u1))), (sm, .inl (cL, 301, .inr (.inl us))), (fw, .inl (cI, 301, .inl (fN (fiD opP f0W gb nb))))])) 0 0 (va_A [(mm, .inr (10, [.ref nu, .ref zz, .ref on, .ref sm, .ref fw, .int tw])), (nu, .inl (cA, 2, .inr (.inr (.inr (.inr (rf2 na nc)))))), (na, .inl (cI, 20, .inl (fN g))), (nc, .inl (cI, 20, .inl (fN gb))), (zz, .inl (cI, 2, .inl (fN (sz2 n nb)))), (on, .inl (cB, 2, .inr (.inr (.inr (.inr (rf2 oa oc)))))), (oa, .inl (cL, 301, .inr (.inl u0))), (oc, .inl (cL, 301, .inr (.inl u1))), (sm, .inl (cL, 301, .inr (.inl us))), (fw, .inl (cI, 301, .inl uf))] sz) := by
  refine su_met (y := yX11_mark) (av := [.ref mm, .int (nI 1)]) (Qf := fun A => su_qv D A (fun (uu : Unit) => True) (fun (uu : Unit) => [(mm, .inr (10, [.ref nu, .ref zz, .ref on, .ref sm, .ref fw, .int tw])), (nu, .inl (cA, 2, .inr (.inr (.inr (.inr (rf2 na nc)))))), (na, .inl (cI, 20, .inl (fN g))), (nc, .inl (cI, 20, .inl (fN gb))), (zz, .inl (cI, 2, .inl (fN (sz2 n nb)))), (on, .inl (cB, 2, .inr (.inr (.inr (.inr (rf2 oa oc)))))), (oa, .inl (cL, 301, .inr (.inl u0))), (oc, .inl (cL, 301, .inr (.inl u1))), (sm, .inl (cL, 301, .inr (.inl us))), (fw, .inl (cI, 301, .inl (fN (fiD opP f0W gb nb))))])) (cc := cX11_mark) (maxL := 5) (ret := none) (by decide) (Nat.le_of_ble_eq_true rfl) ?_
  intro p e s m args below meth c R Q A H locs ls hx hb hr hlocks hin hml hown hts hN hP hK hD hA hS hRm hQ hl
  have hown : s.vm.findClass RX11 = some m.cls := hown
  have hl : lv_has ls 5 [(0, .ref mm), (1, .int (nI 1))] := hl
  have hR3 : 0 ≤ R.cells := by rw [hRm]; exact Nat.le_of_ble_eq_true rfl
  have hR4 : 0 ≤ R.slots := by rw [hRm]; exact Nat.le_of_ble_eq_true rfl
  have k_1000 := hts _ q_1000
  have k_999 := hts _ q_999
  have k_1003 := hts _ q_1003
  refine lv_iconst (v := nI 0) hx hb dX11_mark_0 (by decide) ?_
  refine lv_istore_n (lv' := [(2, .int (nI 0)), (0, .ref mm), (1, .int (nI 1))]) hx hb dX11_mark_1 rfl hl (by decide) rfl (fun ls hl => ?_)
  have loop2 : ∀ (k2 : Nat) (j : Nat), (j ≤ 301) → 301 - j < k2 → ∀ (H : Heap) (locs : List Loc), va_P D vwCl [(mm, .inr (10, [.ref nu, .ref zz, .ref on, .ref sm, .ref fw, .int tw])), (nu, .inl (cA, 2, .inr (.inr (.inr (.inr (rf2 na nc)))))), (na, .inl (cI, 20, .inl (fN g))), (nc, .inl (cI, 20, .inl (fN gb))), (zz, .inl (cI, 2, .inl (fN (sz2 n nb)))), (on, .inl (cB, 2, .inr (.inr (.inr (.inr (rf2 oa oc)))))), (oa, .inl (cL, 301, .inr (.inl u0))), (oc, .inl (cL, 301, .inr (.inl u1))), (sm, .inl (cL, 301, .inr (.inl us))), (fw, .inl (cI, 301, .inl (su_fl (fN f0W) uf j)))] H → va_D A [(mm, .inr (10, [.ref nu, .ref zz, .ref on, .ref sm, .ref fw, .int tw])), (nu, .inl (cA, 2, .inr (.inr (.inr (.inr (rf2 na nc)))))), (na, .inl (cI, 20, .inl (fN g))), (nc, .inl (cI, 20, .inl (fN gb))), (zz, .inl (cI, 2, .inl (fN (sz2 n nb)))), (on, .inl (cB, 2, .inr (.inr (.inr (.inr (rf2 oa oc)))))), (oa, .inl (cL, 301, .inr (.inl u0))), (oc, .inl (cL, 301, .inr (.inl u1))), (sm, .inl (cL, 301, .inr (.inl us))), (fw, .inl (cI, 301, .inl (su_fl (fN f0W) uf j)))] → va_S A s.heap H locs → ∀ ls : Array Slot, lv_has ls 5 [(2, .int (nI j)), (0, .ref mm), (1, .int (nI 1))] → W p l e R s m args below meth c H locs 0 0 Q (F0 m 2 ls []) := by
    intro k2
    induction k2 with
    | zero => intro j hj2 hk; exact absurd hk (Nat.not_lt_zero _)
    | succ k2 ih2 =>
      intro j hj2 hk2 H locs hP hD hS ls hl
      refine lv_iload_n hx hb dX11_mark_2 rfl (lv_at hl 0 rfl) ?_
      refine lv_sipush (v := nI 300) hx hb dX11_mark_3 (by decide) ?_
      refine lv_icmp_gt (tgt := 30) hx hb dX11_mark_6 (by decide) (fun c6 => ?_) (fun c6 => ?_)
      · have c6 : 300 < j := su_lt (by omega) (by omega) c6
        refine lv_iconst (v := nI 0) hx hb dX11_mark_30 (by decide) ?_
        refine lv_istore_n (lv' := [(2, .int (nI 0)), (0, .ref mm), (1, .int (nI 1))]) hx hb dX11_mark_31 rfl hl (by decide) rfl (fun ls hl => ?_)
        have loop32 : ∀ (k32 : Nat) (i : Nat), (i ≤ nb) → nb - i < k32 → ∀ (H : Heap) (locs : List Loc), va_P D vwCl [(mm, .inr (10, [.ref nu, .ref zz, .ref on, .ref sm, .ref fw, .int tw])), (nu, .inl (cA, 2, .inr (.inr (.inr (.inr (rf2 na nc)))))), (na, .inl (cI, 20, .inl (fN g))), (nc, .inl (cI, 20, .inl (fN gb))), (zz, .inl (cI, 2, .inl (fN (sz2 n nb)))), (on, .inl (cB, 2, .inr (.inr (.inr (.inr (rf2 oa oc)))))), (oa, .inl (cL, 301, .inr (.inl u0))), (oc, .inl (cL, 301, .inr (.inl u1))), (sm, .inl (cL, 301, .inr (.inl us))), (fw, .inl (cI, 301, .inl (fN (fiD opP f0W gb i))))] H → va_D A [(mm, .inr (10, [.ref nu, .ref zz, .ref on, .ref sm, .ref fw, .int tw])), (nu, .inl (cA, 2, .inr (.inr (.inr (.inr (rf2 na nc)))))), (na, .inl (cI, 20, .inl (fN g))), (nc, .inl (cI, 20, .inl (fN gb))), (zz, .inl (cI, 2, .inl (fN (sz2 n nb)))), (on, .inl (cB, 2, .inr (.inr (.inr (.inr (rf2 oa oc)))))), (oa, .inl (cL, 301, .inr (.inl u0))), (oc, .inl (cL, 301, .inr (.inl u1))), (sm, .inl (cL, 301, .inr (.inl us))), (fw, .inl (cI, 301, .inl (fN (fiD opP f0W gb i))))] → va_S A s.heap H locs → ∀ ls : Array Slot, lv_has ls 5 [(2, .int (nI i)), (0, .ref mm), (1, .int (nI 1))] → W p l e R s m args below meth c H locs 0 0 Q (F0 m 32 ls []) := by
          intro k32
          induction k32 with
          | zero => intro i hi hk; exact absurd hk (Nat.not_lt_zero _)
          | succ k32 ih32 =>
            intro i hi hk32 H locs hP hD hS ls hl
            refine lv_iload_n hx hb dX11_mark_32 rfl (lv_at hl 0 rfl) ?_
            refine lv_aload_n hx hb dX11_mark_33 rfl (lv_at hl 1 rfl) ?_
            refine va_get (D := D) (ci := 10) (v := .ref zz) (C := RX11) (T := TX11) (N := 6) hx hb hts in_X11 hown hK hP 0 rfl rfl 1 (by decide) k_1000 (fun _ h9 => h9) rfl dX11_mark_34 ?_
            refine lv_iload_n hx hb dX11_mark_37 rfl (lv_at hl 2 rfl) ?_
            refine su_iald hx hb hK hP 4 0 rfl rfl (i := 1) (by decide) (by decide) (nI nb) (rfl) dX11_mark_38 ?_
            refine lv_icmp_ge (tgt := 95) hx hb dX11_mark_39 (by decide) (fun c39 => ?_) (fun c39 => ?_)
            · have c39 : nb ≤ i := su_ge (by omega) (by omega) c39
              obtain ⟨hP, hD⟩ := su_reI (q0 := 9) (fN (fiD opP f0W gb nb)) hP hD rfl (fun j _ => by rw [show nb = i by omega])
              have hP : va_P D vwCl [(mm, .inr (10, [.ref nu, .ref zz, .ref on, .ref sm, .ref fw, .int tw])), (nu, .inl (cA, 2, .inr (.inr (.inr (.inr (rf2 na nc)))))), (na, .inl (cI, 20, .inl (fN g))), (nc, .inl (cI, 20, .inl (fN gb))), (zz, .inl (cI, 2, .inl (fN (sz2 n nb)))), (on, .inl (cB, 2, .inr (.inr (.inr (.inr (rf2 oa oc)))))), (oa, .inl (cL, 301, .inr (.inl u0))), (oc, .inl (cL, 301, .inr (.inl u1))), (sm, .inl (cL, 301, .inr (.inl us))), (fw, .inl (cI, 301, .inl (fN (fiD opP f0W gb nb))))] H := hP
              have hD : va_D A [(mm, .inr (10, [.ref nu, .ref zz, .ref on, .ref sm, .ref fw, .int tw])), (nu, .inl (cA, 2, .inr (.inr (.inr (.inr (rf2 na nc)))))), (na, .inl (cI, 20, .inl (fN g))), (nc, .inl (cI, 20, .inl (fN gb))), (zz, .inl (cI, 2, .inl (fN (sz2 n nb)))), (on, .inl (cB, 2, .inr (.inr (.inr (.inr (rf2 oa oc)))))), (oa, .inl (cL, 301, .inr (.inl u0))), (oc, .inl (cL, 301, .inr (.inl u1))), (sm, .inl (cL, 301, .inr (.inl us))), (fw, .inl (cI, 301, .inl (fN (fiD opP f0W gb nb))))] := hD
              rw [hQ]
              exact su_ev hx hb hr hlocks hS dX11_mark_95 () (trivial) hP hD
            · have c39 : i < nb := su_nge (by omega) (by omega) c39
              refine lv_aload_n hx hb dX11_mark_42 rfl (lv_at hl 1 rfl) ?_
              refine va_get (D := D) (ci := 10) (v := .ref nu) (C := RX11) (T := TX11) (N := 6) hx hb hts in_X11 hown hK hP 0 rfl rfl 0 (by decide) k_999 (fun _ h9 => h9) rfl dX11_mark_43 ?_
              refine lv_iload_n hx hb dX11_mark_46 rfl (lv_at hl 2 rfl) ?_
              refine su_aald hx hb hK hP 1 3 rfl rfl (i := 1) (by decide) (by decide) (nc) rfl dX11_mark_47 ?_
              refine lv_iload_n hx hb dX11_mark_48 rfl (lv_at hl 0 rfl) ?_
              refine su_iald hx hb hK hP 3 0 rfl rfl (i := i) (by omega) (by decide) (nI (gb i)) (rfl) dX11_mark_49 ?_
              refine lv_istore_n (lv' := [(3, .int (nI (gb i))), (2, .int (nI i)), (0, .ref mm), (1, .int (nI 1))]) hx hb dX11_mark_50 rfl hl (by decide) rfl (fun ls hl => ?_)
              have hgi := hgb i c39
              refine lv_sipush (v := nI 300) hx hb dX11_mark_51 (by decide) ?_
              refine lv_istore (lv' := [(4, .int (nI 300)), (3, .int (nI (gb i))), (2, .int (nI i)), (0, .ref mm), (1, .int (nI 1))]) hx hb dX11_mark_54 hl (by decide) rfl (fun ls hl => ?_)
              have loop56 : ∀ (k56 : Nat) (k : Nat), (k ≤ 300) → (gb i ≤ k + 1) → k < k56 → ∀ (H : Heap) (locs : List Loc), va_P D vwCl [(mm, .inr (10, [.ref nu, .ref zz, .ref on, .ref sm, .ref fw, .int tw])), (nu, .inl (cA, 2, .inr (.inr (.inr (.inr (rf2 na nc)))))), (na, .inl (cI, 20, .inl (fN g))), (nc, .inl (cI, 20, .inl (fN gb))), (zz, .inl (cI, 2, .inl (fN (sz2 n nb)))), (on, .inl (cB, 2, .inr (.inr (.inr (.inr (rf2 oa oc)))))), (oa, .inl (cL, 301, .inr (.inl u0))), (oc, .inl (cL, 301, .inr (.inl u1))), (sm, .inl (cL, 301, .inr (.inl us))), (fw, .inl (cI, 301, .inl (fN (dnP opP (gb i) (fiD opP f0W gb i) k))))] H → va_D A [(mm, .inr (10, [.ref nu, .ref zz, .ref on, .ref sm, .ref fw, .int tw])), (nu, .inl (cA, 2, .inr (.inr (.inr (.inr (rf2 na nc)))))), (na, .inl (cI, 20, .inl (fN g))), (nc, .inl (cI, 20, .inl (fN gb))), (zz, .inl (cI, 2, .inl (fN (sz2 n nb)))), (on, .inl (cB, 2, .inr (.inr (.inr (.inr (rf2 oa oc)))))), (oa, .inl (cL, 301, .inr (.inl u0))), (oc, .inl (cL, 301, .inr (.inl u1))), (sm, .inl (cL, 301, .inr (.inl us))), (fw, .inl (cI, 301, .inl (fN (dnP opP (gb i) (fiD opP f0W gb i) k))))] → va_S A s.heap H locs → ∀ ls : Array Slot, lv_has ls 5 [(4, .int (nI k)), (3, .int (nI (gb i))), (2, .int (nI i)), (0, .ref mm), (1, .int (nI 1))] → W p l e R s m args below meth c H locs 0 0 Q (F0 m 56 ls []) := by
                intro k56
                induction k56 with
                | zero => intro k hk hk2 hk; exact absurd hk (Nat.not_lt_zero _)
                | succ k56 ih56 =>
                  intro k hk hk2 hk56 H locs hP hD hS ls hl
                  refine lv_iload hx hb dX11_mark_56 (lv_at hl 0 rfl) ?_
                  refine lv_iload_n hx hb dX11_mark_58 rfl (lv_at hl 1 rfl) ?_
                  refine lv_icmp_lt (tgt := 89) hx hb dX11_mark_59 (by decide) (fun c59 => ?_) (fun c59 => ?_)
                  · have c59 : k < gb i := su_lt (by omega) (by omega) c59
                    refine lv_iinc (v := nI (i + 1)) (lv' := [(2, .int (nI (i + 1))), (4, .int (nI k)), (3, .int (nI (gb i))), (0, .ref mm), (1, .int (nI 1))]) hx hb dX11_mark_89 hl (k := 2) rfl (su_inc _) (by decide) rfl (fun ls hl => ?_)
                    refine lv_goto (tgt := 32) hx hb dX11_mark_92 (by decide) ?_
                    obtain ⟨hP, hD⟩ := su_reI (q0 := 9) (fN (fiD opP f0W gb (i + 1))) hP hD rfl (fun j _ => congrArg nI (dnP_T c59 j))
                    have hP : va_P D vwCl [(mm, .inr (10, [.ref nu, .ref zz, .ref on, .ref sm, .ref fw, .int tw])), (nu, .inl (cA, 2, .inr (.inr (.inr (.inr (rf2 na nc)))))), (na, .inl (cI, 20, .inl (fN g))), (nc, .inl (cI, 20, .inl (fN gb))), (zz, .inl (cI, 2, .inl (fN (sz2 n nb)))), (on, .inl (cB, 2, .inr (.inr (.inr (.inr (rf2 oa oc)))))), (oa, .inl (cL, 301, .inr (.inl u0))), (oc, .inl (cL, 301, .inr (.inl u1))), (sm, .inl (cL, 301, .inr (.inl us))), (fw, .inl (cI, 301, .inl (fN (fiD opP f0W gb (i + 1)))))] H := hP
                    have hD : va_D A [(mm, .inr (10, [.ref nu, .ref zz, .ref on, .ref sm, .ref fw, .int tw])), (nu, .inl (cA, 2, .inr (.inr (.inr (.inr (rf2 na nc)))))), (na, .inl (cI, 20, .inl (fN g))), (nc, .inl (cI, 20, .inl (fN gb))), (zz, .inl (cI, 2, .inl (fN (sz2 n nb)))), (on, .inl (cB, 2, .inr (.inr (.inr (.inr (rf2 oa oc)))))), (oa, .inl (cL, 301, .inr (.inl u0))), (oc, .inl (cL, 301, .inr (.inl u1))), (sm, .inl (cL, 301, .inr (.inl us))), (fw, .inl (cI, 301, .inl (fN (fiD opP f0W gb (i + 1)))))] := hD
                    exact ih32 (i + 1) (by omega) (by omega) _ _ hP hD hS _ (lv_sub hl [0, 3, 4] rfl)
                  · have c59 : gb i ≤ k := su_nlt (by omega) (by omega) c59
                    refine lv_aload_n hx hb dX11_mark_62 rfl (lv_at hl 3 rfl) ?_
                    refine va_get (D := D) (ci := 10) (v := .ref fw) (C := RX11) (T := TX11) (N := 6) hx hb hts in_X11 hown hK hP 0 rfl rfl 4 (by decide) k_1003 (fun _ h9 => h9) rfl dX11_mark_63 ?_
                    refine lv_iload hx hb dX11_mark_66 (lv_at hl 0 rfl) ?_
                    refine lv_dup2_11 hx hb dX11_mark_68 rfl rfl ?_
                    refine su_iald hx hb hK hP 9 0 rfl rfl (i := k) (by omega) (by decide) (nI ((dnP opP (gb i) (fiD opP f0W gb i) k) k)) (rfl) dX11_mark_69 ?_
                    refine lv_aload_n hx hb dX11_mark_70 rfl (lv_at hl 3 rfl) ?_
                    refine va_get (D := D) (ci := 10) (v := .ref fw) (C := RX11) (T := TX11) (N := 6) hx hb hts in_X11 hown hK hP 0 rfl rfl 4 (by decide) k_1003 (fun _ h9 => h9) rfl dX11_mark_71 ?_
                    refine lv_iload hx hb dX11_mark_74 (lv_at hl 0 rfl) ?_
                    refine lv_iload_n hx hb dX11_mark_76 rfl (lv_at hl 1 rfl) ?_
                    refine lv_isub hx hb dX11_mark_77 ?_
                    refine su_eqi (nI (k - (gb i))) (pk_sub (by omega)) ?_
                    refine su_iald hx hb hK hP 9 0 rfl rfl (i := (k - (gb i))) (by omega) (by decide) (nI ((dnP opP (gb i) (fiD opP f0W gb i) k) (k - (gb i)))) (rfl) dX11_mark_78 ?_
                    refine lv_iconst (v := nI 1) hx hb dX11_mark_79 (by decide) ?_
                    refine lv_ishl hx hb dX11_mark_80 ?_
                    refine su_eqi (nI (dnP opP (gb i) (fiD opP f0W gb i) k (k - gb i) * 2)) (su_shl1 _) ?_
                    refine lv_ior hx hb dX11_mark_81 ?_
                    refine su_eqi (nI (opP (dnP opP (gb i) (fiD opP f0W gb i) k k) (dnP opP (gb i) (fiD opP f0W gb i) k (k - gb i)))) (su_or32 _ _) ?_
                    refine su_iast hx hb hK hP hD hS 9 0 rfl rfl (i := k) (by omega) (by decide) (fN (va_up (dnP opP (gb i) (fiD opP f0W gb i) k) k (opP (dnP opP (gb i) (fiD opP f0W gb i) k k) (dnP opP (gb i) (fiD opP f0W gb i) k (k - gb i))))) (fun j _ => su_upN _ _ _ j) dX11_mark_82 (fun H locs hP hD hS => ?_)
                    have hP : va_P D vwCl [(mm, .inr (10, [.ref nu, .ref zz, .ref on, .ref sm, .ref fw, .int tw])), (nu, .inl (cA, 2, .inr (.inr (.inr (.inr (rf2 na nc)))))), (na, .inl (cI, 20, .inl (fN g))), (nc, .inl (cI, 20, .inl (fN gb))), (zz, .inl (cI, 2, .inl (fN (sz2 n nb)))), (on, .inl (cB, 2, .inr (.inr (.inr (.inr (rf2 oa oc)))))), (oa, .inl (cL, 301, .inr (.inl u0))), (oc, .inl (cL, 301, .inr (.inl u1))), (sm, .inl (cL, 301, .inr (.inl us))), (fw, .inl (cI, 301, .inl (fN (va_up (dnP opP (gb i) (fiD opP f0W gb i) k) k (opP (dnP opP (gb i) (fiD opP f0W gb i) k k) (dnP opP (gb i) (fiD opP f0W gb i) k (k - gb i)))))))] H := hP
                    have hD : va_D A [(mm, .inr (10, [.ref nu, .ref zz, .ref on, .ref sm, .ref fw, .int tw])), (nu, .inl (cA, 2, .inr (.inr (.inr (.inr (rf2 na nc)))))), (na, .inl (cI, 20, .inl (fN g))), (nc, .inl (cI, 20, .inl (fN gb))), (zz, .inl (cI, 2, .inl (fN (sz2 n nb)))), (on, .inl (cB, 2, .inr (.inr (.inr (.inr (rf2 oa oc)))))), (oa, .inl (cL, 301, .inr (.inl u0))), (oc, .inl (cL, 301, .inr (.inl u1))), (sm, .inl (cL, 301, .inr (.inl us))), (fw, .inl (cI, 301, .inl (fN (va_up (dnP opP (gb i) (fiD opP f0W gb i) k) k (opP (dnP opP (gb i) (fiD opP f0W gb i) k k) (dnP opP (gb i) (fiD opP f0W gb i) k (k - gb i)))))))] := hD
                    refine lv_iinc (v := nI (k - 1)) (lv' := [(4, .int (nI (k - 1))), (3, .int (nI (gb i))), (2, .int (nI i)), (0, .ref mm), (1, .int (nI 1))]) hx hb dX11_mark_83 hl (k := 0) rfl (sb_m1 (by omega)) (by decide) rfl (fun ls hl => ?_)
                    refine lv_goto (tgt := 56) hx hb dX11_mark_86 (by decide) ?_
                    obtain ⟨hP, hD⟩ := su_reI (q0 := 9) (fN (dnP opP (gb i) (fiD opP f0W gb i) (k - 1))) hP hD rfl (fun j _ => congrArg nI (dnP_S hgi.1 c59 hk j))
                    have hP : va_P D vwCl [(mm, .inr (10, [.ref nu, .ref zz, .ref on, .ref sm, .ref fw, .int tw])), (nu, .inl (cA, 2, .inr (.inr (.inr (.inr (rf2 na nc)))))), (na, .inl (cI, 20, .inl (fN g))), (nc, .inl (cI, 20, .inl (fN gb))), (zz, .inl (cI, 2, .inl (fN (sz2 n nb)))), (on, .inl (cB, 2, .inr (.inr (.inr (.inr (rf2 oa oc)))))), (oa, .inl (cL, 301, .inr (.inl u0))), (oc, .inl (cL, 301, .inr (.inl u1))), (sm, .inl (cL, 301, .inr (.inl us))), (fw, .inl (cI, 301, .inl (fN (dnP opP (gb i) (fiD opP f0W gb i) (k - 1)))))] H := hP
                    have hD : va_D A [(mm, .inr (10, [.ref nu, .ref zz, .ref on, .ref sm, .ref fw, .int tw])), (nu, .inl (cA, 2, .inr (.inr (.inr (.inr (rf2 na nc)))))), (na, .inl (cI, 20, .inl (fN g))), (nc, .inl (cI, 20, .inl (fN gb))), (zz, .inl (cI, 2, .inl (fN (sz2 n nb)))), (on, .inl (cB, 2, .inr (.inr (.inr (.inr (rf2 oa oc)))))), (oa, .inl (cL, 301, .inr (.inl u0))), (oc, .inl (cL, 301, .inr (.inl u1))), (sm, .inl (cL, 301, .inr (.inl us))), (fw, .inl (cI, 301, .inl (fN (dnP opP (gb i) (fiD opP f0W gb i) (k - 1)))))] := hD
                    exact ih56 (k - 1) (by omega) (by omega) (by omega) _ _ hP hD hS _ (lv_sub hl [0, 1, 2, 3, 4] rfl)
              obtain ⟨hP, hD⟩ := su_reI (q0 := 9) (fN (dnP opP (gb i) (fiD opP f0W gb i) (300))) hP hD rfl (fun j _ => congrArg nI (dnP_0 j))
              have hP : va_P D vwCl [(mm, .inr (10, [.ref nu, .ref zz, .ref on, .ref sm, .ref fw, .int tw])), (nu, .inl (cA, 2, .inr (.inr (.inr (.inr (rf2 na nc)))))), (na, .inl (cI, 20, .inl (fN g))), (nc, .inl (cI, 20, .inl (fN gb))), (zz, .inl (cI, 2, .inl (fN (sz2 n nb)))), (on, .inl (cB, 2, .inr (.inr (.inr (.inr (rf2 oa oc)))))), (oa, .inl (cL, 301, .inr (.inl u0))), (oc, .inl (cL, 301, .inr (.inl u1))), (sm, .inl (cL, 301, .inr (.inl us))), (fw, .inl (cI, 301, .inl (fN (dnP opP (gb i) (fiD opP f0W gb i) (300)))))] H := hP
              have hD : va_D A [(mm, .inr (10, [.ref nu, .ref zz, .ref on, .ref sm, .ref fw, .int tw])), (nu, .inl (cA, 2, .inr (.inr (.inr (.inr (rf2 na nc)))))), (na, .inl (cI, 20, .inl (fN g))), (nc, .inl (cI, 20, .inl (fN gb))), (zz, .inl (cI, 2, .inl (fN (sz2 n nb)))), (on, .inl (cB, 2, .inr (.inr (.inr (.inr (rf2 oa oc)))))), (oa, .inl (cL, 301, .inr (.inl u0))), (oc, .inl (cL, 301, .inr (.inl u1))), (sm, .inl (cL, 301, .inr (.inl us))), (fw, .inl (cI, 301, .inl (fN (dnP opP (gb i) (fiD opP f0W gb i) (300)))))] := hD
              exact loop56 (((300)) + 1) (300) (by omega) (by omega) (by omega) _ _ hP hD hS _ (lv_sub hl [0, 1, 2, 3, 4] rfl)
        obtain ⟨hP, hD⟩ := su_reI (q0 := 9) (fN (fiD opP f0W gb (0))) hP hD rfl (fun j _ => su_flN (by omega))
        have hP : va_P D vwCl [(mm, .inr (10, [.ref nu, .ref zz, .ref on, .ref sm, .ref fw, .int tw])), (nu, .inl (cA, 2, .inr (.inr (.inr (.inr (rf2 na nc)))))), (na, .inl (cI, 20, .inl (fN g))), (nc, .inl (cI, 20, .inl (fN gb))), (zz, .inl (cI, 2, .inl (fN (sz2 n nb)))), (on, .inl (cB, 2, .inr (.inr (.inr (.inr (rf2 oa oc)))))), (oa, .inl (cL, 301, .inr (.inl u0))), (oc, .inl (cL, 301, .inr (.inl u1))), (sm, .inl (cL, 301, .inr (.inl us))), (fw, .inl (cI, 301, .inl (fN (fiD opP f0W gb (0)))))] H := hP
        have hD : va_D A [(mm, .inr (10, [.ref nu, .ref zz, .ref on, .ref sm, .ref fw, .int tw])), (nu, .inl (cA, 2, .inr (.inr (.inr (.inr (rf2 na nc)))))), (na, .inl (cI, 20, .inl (fN g))), (nc, .inl (cI, 20, .inl (fN gb))), (zz, .inl (cI, 2, .inl (fN (sz2 n nb)))), (on, .inl (cB, 2, .inr (.inr (.inr (.inr (rf2 oa oc)))))), (oa, .inl (cL, 301, .inr (.inl u0))), (oc, .inl (cL, 301, .inr (.inl u1))), (sm, .inl (cL, 301, .inr (.inl us))), (fw, .inl (cI, 301, .inl (fN (fiD opP f0W gb (0)))))] := hD
        exact loop32 ((nb - (0)) + 1) (0) (by omega) (by omega) _ _ hP hD hS _ (lv_sub hl [0, 1, 2] rfl)
      · have c6 : j ≤ 300 := su_nlt (by omega) (by omega) c6
        refine lv_aload_n hx hb dX11_mark_9 rfl (lv_at hl 1 rfl) ?_
        refine va_get (D := D) (ci := 10) (v := .ref fw) (C := RX11) (T := TX11) (N := 6) hx hb hts in_X11 hown hK hP 0 rfl rfl 4 (by decide) k_1003 (fun _ h9 => h9) rfl dX11_mark_10 ?_
        refine lv_iload_n hx hb dX11_mark_13 rfl (lv_at hl 0 rfl) ?_
        refine lv_iload_n hx hb dX11_mark_14 rfl (lv_at hl 0 rfl) ?_
        refine lv_if_ne (tgt := 22) hx hb dX11_mark_15 (by decide) (fun c15 => ?_) (fun c15 => ?_)
        · have c15 : j ≠ 0 := su_nz c15
          refine lv_iconst (v := nI 0) hx hb dX11_mark_22 (by decide) ?_
          refine su_iast hx hb hK hP hD hS 9 0 rfl rfl (i := j) (by omega) (by decide) (va_up (su_fl (fN f0W) uf j) j (nI 0)) (fun _ _ => rfl) dX11_mark_23 (fun H locs hP hD hS => ?_)
          have hP : va_P D vwCl [(mm, .inr (10, [.ref nu, .ref zz, .ref on, .ref sm, .ref fw, .int tw])), (nu, .inl (cA, 2, .inr (.inr (.inr (.inr (rf2 na nc)))))), (na, .inl (cI, 20, .inl (fN g))), (nc, .inl (cI, 20, .inl (fN gb))), (zz, .inl (cI, 2, .inl (fN (sz2 n nb)))), (on, .inl (cB, 2, .inr (.inr (.inr (.inr (rf2 oa oc)))))), (oa, .inl (cL, 301, .inr (.inl u0))), (oc, .inl (cL, 301, .inr (.inl u1))), (sm, .inl (cL, 301, .inr (.inl us))), (fw, .inl (cI, 301, .inl (va_up (su_fl (fN f0W) uf j) j (nI 0))))] H := hP
          have hD : va_D A [(mm, .inr (10, [.ref nu, .ref zz, .ref on, .ref sm, .ref fw, .int tw])), (nu, .inl (cA, 2, .inr (.inr (.inr (.inr (rf2 na nc)))))), (na, .inl (cI, 20, .inl (fN g))), (nc, .inl (cI, 20, .inl (fN gb))), (zz, .inl (cI, 2, .inl (fN (sz2 n nb)))), (on, .inl (cB, 2, .inr (.inr (.inr (.inr (rf2 oa oc)))))), (oa, .inl (cL, 301, .inr (.inl u0))), (oc, .inl (cL, 301, .inr (.inl u1))), (sm, .inl (cL, 301, .inr (.inl us))), (fw, .inl (cI, 301, .inl (va_up (su_fl (fN f0W) uf j) j (nI 0))))] := hD
          refine lv_iinc (v := nI (j + 1)) (lv' := [(2, .int (nI (j + 1))), (0, .ref mm), (1, .int (nI 1))]) hx hb dX11_mark_24 hl (k := 0) rfl (su_inc _) (by decide) rfl (fun ls hl => ?_)
          refine lv_goto (tgt := 2) hx hb dX11_mark_27 (by decide) ?_
          obtain ⟨hP, hD⟩ := su_reI (q0 := 9) (su_fl (fN f0W) uf (j + 1)) hP hD rfl (fun k _ => su_flS (by first | exact be_P1 c15 | exact be_P0 c15) k)
          have hP : va_P D vwCl [(mm, .inr (10, [.ref nu, .ref zz, .ref on, .ref sm, .ref fw, .int tw])), (nu, .inl (cA, 2, .inr (.inr (.inr (.inr (rf2 na nc)))))), (na, .inl (cI, 20, .inl (fN g))), (nc, .inl (cI, 20, .inl (fN gb))), (zz, .inl (cI, 2, .inl (fN (sz2 n nb)))), (on, .inl (cB, 2, .inr (.inr (.inr (.inr (rf2 oa oc)))))), (oa, .inl (cL, 301, .inr (.inl u0))), (oc, .inl (cL, 301, .inr (.inl u1))), (sm, .inl (cL, 301, .inr (.inl us))), (fw, .inl (cI, 301, .inl (su_fl (fN f0W) uf (j + 1))))] H := hP
          have hD : va_D A [(mm, .inr (10, [.ref nu, .ref zz, .ref on, .ref sm, .ref fw, .int tw])), (nu, .inl (cA, 2, .inr (.inr (.inr (.inr (rf2 na nc)))))), (na, .inl (cI, 20, .inl (fN g))), (nc, .inl (cI, 20, .inl (fN gb))), (zz, .inl (cI, 2, .inl (fN (sz2 n nb)))), (on, .inl (cB, 2, .inr (.inr (.inr (.inr (rf2 oa oc)))))), (oa, .inl (cL, 301, .inr (.inl u0))), (oc, .inl (cL, 301, .inr (.inl u1))), (sm, .inl (cL, 301, .inr (.inl us))), (fw, .inl (cI, 301, .inl (su_fl (fN f0W) uf (j + 1))))] := hD
          exact ih2 (j + 1) (by omega) (by omega) _ _ hP hD hS _ (lv_sub hl [0, 1, 2] rfl)
        · have c15 : j = 0 := su_z (by omega) c15
          refine lv_iconst (v := nI 1) hx hb dX11_mark_18 (by decide) ?_
          refine lv_goto (tgt := 23) hx hb dX11_mark_19 (by decide) ?_
          refine su_iast hx hb hK hP hD hS 9 0 rfl rfl (i := j) (by omega) (by decide) (va_up (su_fl (fN f0W) uf j) j (nI 1)) (fun _ _ => rfl) dX11_mark_23 (fun H locs hP hD hS => ?_)
          have hP : va_P D vwCl [(mm, .inr (10, [.ref nu, .ref zz, .ref on, .ref sm, .ref fw, .int tw])), (nu, .inl (cA, 2, .inr (.inr (.inr (.inr (rf2 na nc)))))), (na, .inl (cI, 20, .inl (fN g))), (nc, .inl (cI, 20, .inl (fN gb))), (zz, .inl (cI, 2, .inl (fN (sz2 n nb)))), (on, .inl (cB, 2, .inr (.inr (.inr (.inr (rf2 oa oc)))))), (oa, .inl (cL, 301, .inr (.inl u0))), (oc, .inl (cL, 301, .inr (.inl u1))), (sm, .inl (cL, 301, .inr (.inl us))), (fw, .inl (cI, 301, .inl (va_up (su_fl (fN f0W) uf j) j (nI 1))))] H := hP
          have hD : va_D A [(mm, .inr (10, [.ref nu, .ref zz, .ref on, .ref sm, .ref fw, .int tw])), (nu, .inl (cA, 2, .inr (.inr (.inr (.inr (rf2 na nc)))))), (na, .inl (cI, 20, .inl (fN g))), (nc, .inl (cI, 20, .inl (fN gb))), (zz, .inl (cI, 2, .inl (fN (sz2 n nb)))), (on, .inl (cB, 2, .inr (.inr (.inr (.inr (rf2 oa oc)))))), (oa, .inl (cL, 301, .inr (.inl u0))), (oc, .inl (cL, 301, .inr (.inl u1))), (sm, .inl (cL, 301, .inr (.inl us))), (fw, .inl (cI, 301, .inl (va_up (su_fl (fN f0W) uf j) j (nI 1))))] := hD
          refine lv_iinc (v := nI (j + 1)) (lv' := [(2, .int (nI (j + 1))), (0, .ref mm), (1, .int (nI 1))]) hx hb dX11_mark_24 hl (k := 0) rfl (su_inc _) (by decide) rfl (fun ls hl => ?_)
          refine lv_goto (tgt := 2) hx hb dX11_mark_27 (by decide) ?_
          obtain ⟨hP, hD⟩ := su_reI (q0 := 9) (su_fl (fN f0W) uf (j + 1)) hP hD rfl (fun k _ => su_flS (by first | exact be_P1 c15 | exact be_P0 c15) k)
          have hP : va_P D vwCl [(mm, .inr (10, [.ref nu, .ref zz, .ref on, .ref sm, .ref fw, .int tw])), (nu, .inl (cA, 2, .inr (.inr (.inr (.inr (rf2 na nc)))))), (na, .inl (cI, 20, .inl (fN g))), (nc, .inl (cI, 20, .inl (fN gb))), (zz, .inl (cI, 2, .inl (fN (sz2 n nb)))), (on, .inl (cB, 2, .inr (.inr (.inr (.inr (rf2 oa oc)))))), (oa, .inl (cL, 301, .inr (.inl u0))), (oc, .inl (cL, 301, .inr (.inl u1))), (sm, .inl (cL, 301, .inr (.inl us))), (fw, .inl (cI, 301, .inl (su_fl (fN f0W) uf (j + 1))))] H := hP
          have hD : va_D A [(mm, .inr (10, [.ref nu, .ref zz, .ref on, .ref sm, .ref fw, .int tw])), (nu, .inl (cA, 2, .inr (.inr (.inr (.inr (rf2 na nc)))))), (na, .inl (cI, 20, .inl (fN g))), (nc, .inl (cI, 20, .inl (fN gb))), (zz, .inl (cI, 2, .inl (fN (sz2 n nb)))), (on, .inl (cB, 2, .inr (.inr (.inr (.inr (rf2 oa oc)))))), (oa, .inl (cL, 301, .inr (.inl u0))), (oc, .inl (cL, 301, .inr (.inl u1))), (sm, .inl (cL, 301, .inr (.inl us))), (fw, .inl (cI, 301, .inl (su_fl (fN f0W) uf (j + 1))))] := hD
          exact ih2 (j + 1) (by omega) (by omega) _ _ hP hD hS _ (lv_sub hl [0, 1, 2] rfl)
  obtain ⟨hP, hD⟩ := su_reI (q0 := 9) (su_fl (fN f0W) uf (0)) hP hD rfl (fun k _ => su_fl0 k)
  have hP : va_P D vwCl [(mm, .inr (10, [.ref nu, .ref zz, .ref on, .ref sm, .ref fw, .int tw])), (nu, .inl (cA, 2, .inr (.inr (.inr (.inr (rf2 na nc)))))), (na, .inl (cI, 20, .inl (fN g))), (nc, .inl (cI, 20, .inl (fN gb))), (zz, .inl (cI, 2, .inl (fN (sz2 n nb)))), (on, .inl (cB, 2, .inr (.inr (.inr (.inr (rf2 oa oc)))))), (oa, .inl (cL, 301, .inr (.inl u0))), (oc, .inl (cL, 301, .inr (.inl u1))), (sm, .inl (cL, 301, .inr (.inl us))), (fw, .inl (cI, 301, .inl (su_fl (fN f0W) uf (0))))] H := hP
  have hD : va_D A [(mm, .inr (10, [.ref nu, .ref zz, .ref on, .ref sm, .ref fw, .int tw])), (nu, .inl (cA, 2, .inr (.inr (.inr (.inr (rf2 na nc)))))), (na, .inl (cI, 20, .inl (fN g))), (nc, .inl (cI, 20, .inl (fN gb))), (zz, .inl (cI, 2, .inl (fN (sz2 n nb)))), (on, .inl (cB, 2, .inr (.inr (.inr (.inr (rf2 oa oc)))))), (oa, .inl (cL, 301, .inr (.inl u0))), (oc, .inl (cL, 301, .inr (.inl u1))), (sm, .inl (cL, 301, .inr (.inl us))), (fw, .inl (cI, 301, .inl (su_fl (fN f0W) uf (0))))] := hD
  exact loop2 ((301 - (0)) + 1) (0) (by omega) (by omega) _ _ hP hD hS _ (lv_sub hl [0, 1, 2] rfl)
set_option maxHeartbeats 4000000 in
set_option maxRecDepth 100000 in
theorem m_tellD1 (l : Launch) (D : va_G) (cI cL cZ : ClassId) (sz : Nat) (cA : ClassId) (cB : ClassId) (mm : Nat) (nu : Nat) (na : Nat) (nc : Nat) (zz : Nat) (on : Nat) (oa : Nat) (oc : Nat) (sm : Nat) (fw : Nat) (g : Nat → Nat) (n : Nat) (gb : Nat → Nat) (nb : Nat) (tw : Int32) (u0 : Nat → Int64) (u1 : Nat → Int64) (us : Nat → Int64) (uf : Nat → Int32) (hn : n ≤ 20) (hnb : nb ≤ 20) (hg : ∀ k, k < n → 1 ≤ g k ∧ g k ≤ 300) (hgb : ∀ k, k < nb → 1 ≤ gb k ∧ gb k ≤ 300) :
    Met l yX11_tell (ws_ yX11_tell cX11_tell 6 none) { frames := 1, cells := 0, slots := 0, locals := 30 } (su_pre D (su_T5 cI cL cZ cA cB) sz [(mm, .inr (10, [.ref nu, .ref zz, .ref on, .ref sm, .ref fw, .int tw])), (nu, .inl (cA, 2, .inr (.inr (.inr (.inr (rf2 na nc)))))), (na, .inl (cI, 20, .inl (fN g))), (nc, .inl (cI, 20, .inl (fN gb))), (zz, .inl (cI, 2, .inl (fN (sz2 n nb)))), (on, .inl (cB, 2, .inr (.inr (.inr (.inr (rf2 oa oc)))))), (oa, .inl (cL, 301, .inr (.inl u0))), (oc, .inl (cL, 301, .inr (.inl u1))), (sm, .inl (cL, 301, .inr (.inl us))), (fw, .inl (cI, 301, .inl uf))] [.ref mm, .int (nI 1), .int (bI false)]) (su_qv D (va_A [(mm, .inr (10, [.ref nu, .ref zz, .ref on, .ref sm, .ref fw, .int tw])), (nu, .inl (cA, 2, .inr (.inr (.inr (.inr (rf2 na nc)))))), (na, .inl (cI, 20, .inl (fN g))), (nc, .inl (cI, 20, .inl (fN gb))), (zz, .inl (cI, 2, .inl (fN (sz2 n nb)))), (on, .inl (cB, 2, .inr (.inr (.inr (.inr (rf2 oa oc)))))), (oa, .inl (cL, 301, .inr (.inl u0))), (oc, .inl (cL, 301, .inr (.inl u1))), (sm, .inl (cL, 301, .inr (.inl us))), (fw, .inl (cI, 301, .inl uf))] sz) (fun (uu : Unit) => True) (fun (uu : Unit) => [(mm, .inr (10, [.ref nu, .ref zz, .ref on, .ref sm, .ref fw, .int tw])), (nu, .inl (cA, 2, .inr (.inr (.inr (.inr (rf2 na nc)))))), (na, .inl (cI, 20, .inl (fN g))), (nc, .inl (cI, 20, .inl (fN gb))), (zz, .inl (cI, 2, .inl (fN (sz2 n nb)))), (on, .inl (cB, 2, .inr (.inr (.inr (.inr (rf2 oa oc)))))), (oa, .inl (cL, 301, .inr (.inl u0))), (oc, .inl (cL, 301, .inr (.inl u1))), (sm, .inl (cL, 301, .inr (.inl us))), (fw, .inl (cI, 301, .inl (fwI (fiD opF f0F gb nb))))])) 0 0 (va_A [(mm, .inr (10, [.ref nu, .ref zz, .ref on, .ref sm, .ref fw, .int tw])), (nu, .inl (cA, 2, .inr (.inr (.inr (.inr (rf2 na nc)))))), (na, .inl (cI, 20, .inl (fN g))), (nc, .inl (cI, 20, .inl (fN gb))), (zz, .inl (cI, 2, .inl (fN (sz2 n nb)))), (on, .inl (cB, 2, .inr (.inr (.inr (.inr (rf2 oa oc)))))), (oa, .inl (cL, 301, .inr (.inl u0))), (oc, .inl (cL, 301, .inr (.inl u1))), (sm, .inl (cL, 301, .inr (.inl us))), (fw, .inl (cI, 301, .inl uf))] sz) := by
  refine su_met (y := yX11_tell) (av := [.ref mm, .int (nI 1), .int (bI false)]) (Qf := fun A => su_qv D A (fun (uu : Unit) => True) (fun (uu : Unit) => [(mm, .inr (10, [.ref nu, .ref zz, .ref on, .ref sm, .ref fw, .int tw])), (nu, .inl (cA, 2, .inr (.inr (.inr (.inr (rf2 na nc)))))), (na, .inl (cI, 20, .inl (fN g))), (nc, .inl (cI, 20, .inl (fN gb))), (zz, .inl (cI, 2, .inl (fN (sz2 n nb)))), (on, .inl (cB, 2, .inr (.inr (.inr (.inr (rf2 oa oc)))))), (oa, .inl (cL, 301, .inr (.inl u0))), (oc, .inl (cL, 301, .inr (.inl u1))), (sm, .inl (cL, 301, .inr (.inl us))), (fw, .inl (cI, 301, .inl (fwI (fiD opF f0F gb nb))))])) (cc := cX11_tell) (maxL := 6) (ret := none) (by decide) (Nat.le_of_ble_eq_true rfl) ?_
  intro p e s m args below meth c R Q A H locs ls hx hb hr hlocks hin hml hown hts hN hP hK hD hA hS hRm hQ hl
  have hown : s.vm.findClass RX11 = some m.cls := hown
  have hl : lv_has ls 6 [(0, .ref mm), (1, .int (nI 1)), (2, .int (bI false))] := hl
  have hR1 : 1 ≤ R.frames := by rw [hRm]; exact Nat.le_of_ble_eq_true rfl
  have hR2 : 30 ≤ R.locals := by rw [hRm]; exact Nat.le_of_ble_eq_true rfl
  have hR3 : 0 ≤ R.cells := by rw [hRm]; exact Nat.le_of_ble_eq_true rfl
  have hR4 : 0 ≤ R.slots := by rw [hRm]; exact Nat.le_of_ble_eq_true rfl
  have k_1003 := hts _ q_1003
  refine lv_iload_n hx hb dX11_tell_0 rfl (lv_at hl 2 rfl) ?_
  refine lv_if_ne (tgt := 74) hx hb dX11_tell_1 (by decide) (fun c1 => ?_) (fun c1 => ?_)
  · have c1 : false = true := bI_n c1
    exact absurd c1 (by decide)
  · have c1 : false = false := bI_e c1
    refine lv_aload_n hx hb dX11_tell_4 rfl (lv_at hl 0 rfl) ?_
    refine lv_iload_n hx hb dX11_tell_5 rfl (lv_at hl 1 rfl) ?_
    refine su_cv (wr := []) (va_runV (As := [.int (nI 1)]) (rest := []) ⟨hx, hb, hml, hown, hts⟩ (m_mark1 l D cI cL cZ H.size (cA) (cB) (mm) (nu) (na) (nc) (zz) (on) (oa) (oc) (sm) (fw) (g) (n) (gb) (nb) (tw) (u0) (u1) (us) (uf) (hn) (hnb) (hg) (hgb)) (cwV 1 hts (lw_gV q_1115 q_1117 q_25 q_42 q_1118) rfl rfl rfl (by decide +kernel) ⟨Nat.le_trans (Nat.le_of_ble_eq_true rfl) hR1, Nat.le_trans (Nat.le_of_ble_eq_true rfl) hR2⟩) (su_pv hN hK hP hD [0, 1, 2, 3, 4, 5, 6, 7, 8, 9] [0, 1, 2, 3, 4] rfl rfl rfl (ci := 10) (q0 := 0) rfl rfl rfl) rfl rfl hl.1 rfl (lv_room (Nat.le_of_ble_eq_true rfl)) dX11_tell_6 ⟨Nat.le_trans (Nat.le_of_ble_eq_true rfl) hR3, Nat.le_trans (Nat.le_of_ble_eq_true rfl) hR4⟩) hP hD hS hA [0, 1, 2, 3, 4, 5, 6, 7, 8, 9] [] rfl rfl (by decide) (by decide) (fun uu H locs hw hP hD hS => ?_)
    have hP : va_P D vwCl [(mm, .inr (10, [.ref nu, .ref zz, .ref on, .ref sm, .ref fw, .int tw])), (nu, .inl (cA, 2, .inr (.inr (.inr (.inr (rf2 na nc)))))), (na, .inl (cI, 20, .inl (fN g))), (nc, .inl (cI, 20, .inl (fN gb))), (zz, .inl (cI, 2, .inl (fN (sz2 n nb)))), (on, .inl (cB, 2, .inr (.inr (.inr (.inr (rf2 oa oc)))))), (oa, .inl (cL, 301, .inr (.inl u0))), (oc, .inl (cL, 301, .inr (.inl u1))), (sm, .inl (cL, 301, .inr (.inl us))), (fw, .inl (cI, 301, .inl (fN (fiD opP f0W gb nb))))] H := hP
    have hD : va_D A [(mm, .inr (10, [.ref nu, .ref zz, .ref on, .ref sm, .ref fw, .int tw])), (nu, .inl (cA, 2, .inr (.inr (.inr (.inr (rf2 na nc)))))), (na, .inl (cI, 20, .inl (fN g))), (nc, .inl (cI, 20, .inl (fN gb))), (zz, .inl (cI, 2, .inl (fN (sz2 n nb)))), (on, .inl (cB, 2, .inr (.inr (.inr (.inr (rf2 oa oc)))))), (oa, .inl (cL, 301, .inr (.inl u0))), (oc, .inl (cL, 301, .inr (.inl u1))), (sm, .inl (cL, 301, .inr (.inl us))), (fw, .inl (cI, 301, .inl (fN (fiD opP f0W gb nb))))] := hD
    refine lv_iconst (v := nI 0) hx hb dX11_tell_9 (by decide) ?_
    refine lv_istore_n (lv' := [(3, .int (nI 0)), (0, .ref mm), (1, .int (nI 1)), (2, .int (bI false))]) hx hb dX11_tell_10 rfl hl (by decide) rfl (fun ls hl => ?_)
    have loop11 : ∀ (k11 : Nat) (i : Nat), (i ≤ 301) → 301 - i < k11 → ∀ (H : Heap) (locs : List Loc), va_P D vwCl [(mm, .inr (10, [.ref nu, .ref zz, .ref on, .ref sm, .ref fw, .int tw])), (nu, .inl (cA, 2, .inr (.inr (.inr (.inr (rf2 na nc)))))), (na, .inl (cI, 20, .inl (fN g))), (nc, .inl (cI, 20, .inl (fN gb))), (zz, .inl (cI, 2, .inl (fN (sz2 n nb)))), (on, .inl (cB, 2, .inr (.inr (.inr (.inr (rf2 oa oc)))))), (oa, .inl (cL, 301, .inr (.inl u0))), (oc, .inl (cL, 301, .inr (.inl u1))), (sm, .inl (cL, 301, .inr (.inl us))), (fw, .inl (cI, 301, .inl (su_fl (fwI (fiD opF f0F gb nb)) (fN (fiD opP f0W gb nb)) i)))] H → va_D A [(mm, .inr (10, [.ref nu, .ref zz, .ref on, .ref sm, .ref fw, .int tw])), (nu, .inl (cA, 2, .inr (.inr (.inr (.inr (rf2 na nc)))))), (na, .inl (cI, 20, .inl (fN g))), (nc, .inl (cI, 20, .inl (fN gb))), (zz, .inl (cI, 2, .inl (fN (sz2 n nb)))), (on, .inl (cB, 2, .inr (.inr (.inr (.inr (rf2 oa oc)))))), (oa, .inl (cL, 301, .inr (.inl u0))), (oc, .inl (cL, 301, .inr (.inl u1))), (sm, .inl (cL, 301, .inr (.inl us))), (fw, .inl (cI, 301, .inl (su_fl (fwI (fiD opF f0F gb nb)) (fN (fiD opP f0W gb nb)) i)))] → va_S A s.heap H locs → ∀ ls : Array Slot, lv_has ls 6 [(3, .int (nI i)), (0, .ref mm), (1, .int (nI 1)), (2, .int (bI false))] → W p l e R s m args below meth c H locs 0 0 Q (F0 m 11 ls []) := by
      intro k11
      induction k11 with
      | zero => intro i hi hk; exact absurd hk (Nat.not_lt_zero _)
      | succ k11 ih11 =>
        intro i hi hk11 H locs hP hD hS ls hl
        refine lv_iload_n hx hb dX11_tell_11 rfl (lv_at hl 0 rfl) ?_
        refine lv_sipush (v := nI 300) hx hb dX11_tell_12 (by decide) ?_
        refine lv_icmp_gt (tgt := 73) hx hb dX11_tell_15 (by decide) (fun c15 => ?_) (fun c15 => ?_)
        · have c15 : 300 < i := su_lt (by omega) (by omega) c15
          obtain ⟨hP, hD⟩ := su_reI (q0 := 9) (fwI (fiD opF f0F gb nb)) hP hD rfl (fun j hj => su_flN (by omega))
          have hP : va_P D vwCl [(mm, .inr (10, [.ref nu, .ref zz, .ref on, .ref sm, .ref fw, .int tw])), (nu, .inl (cA, 2, .inr (.inr (.inr (.inr (rf2 na nc)))))), (na, .inl (cI, 20, .inl (fN g))), (nc, .inl (cI, 20, .inl (fN gb))), (zz, .inl (cI, 2, .inl (fN (sz2 n nb)))), (on, .inl (cB, 2, .inr (.inr (.inr (.inr (rf2 oa oc)))))), (oa, .inl (cL, 301, .inr (.inl u0))), (oc, .inl (cL, 301, .inr (.inl u1))), (sm, .inl (cL, 301, .inr (.inl us))), (fw, .inl (cI, 301, .inl (fwI (fiD opF f0F gb nb))))] H := hP
          have hD : va_D A [(mm, .inr (10, [.ref nu, .ref zz, .ref on, .ref sm, .ref fw, .int tw])), (nu, .inl (cA, 2, .inr (.inr (.inr (.inr (rf2 na nc)))))), (na, .inl (cI, 20, .inl (fN g))), (nc, .inl (cI, 20, .inl (fN gb))), (zz, .inl (cI, 2, .inl (fN (sz2 n nb)))), (on, .inl (cB, 2, .inr (.inr (.inr (.inr (rf2 oa oc)))))), (oa, .inl (cL, 301, .inr (.inl u0))), (oc, .inl (cL, 301, .inr (.inl u1))), (sm, .inl (cL, 301, .inr (.inl us))), (fw, .inl (cI, 301, .inl (fwI (fiD opF f0F gb nb))))] := hD
          rw [hQ]
          exact su_ev hx hb hr hlocks hS dX11_tell_73 () (trivial) hP hD
        · have c15 : i ≤ 300 := su_nlt (by omega) (by omega) c15
          have hlow := lowP_fi gb nb i
          have h31 : fiD opP f0W gb nb i < 2 ^ 31 := fiP_31 hnb
          refine lv_aload_n hx hb dX11_tell_18 rfl (lv_at hl 1 rfl) ?_
          refine va_get (D := D) (ci := 10) (v := .ref fw) (C := RX11) (T := TX11) (N := 6) hx hb hts in_X11 hown hK hP 0 rfl rfl 4 (by decide) k_1003 (fun _ h9 => h9) rfl dX11_tell_19 ?_
          refine lv_iload_n hx hb dX11_tell_22 rfl (lv_at hl 0 rfl) ?_
          refine su_iald hx hb hK hP 9 0 rfl rfl (i := i) (by omega) (by decide) (nI (fiD opP f0W gb nb i)) (su_flA i) dX11_tell_23 ?_
          refine lv_if_ne (tgt := 31) hx hb dX11_tell_24 (by decide) (fun c24 => ?_) (fun c24 => ?_)
          · have c24 : fiD opP f0W gb nb i ≠ 0 := su_nz c24
            have hF := lowP_20 hlow c24 (fiP_lt gb nb i) hnb
            refine lv_iconst (v := nI 0) hx hb dX11_tell_31 (by decide) ?_
            refine lv_istore (lv' := [(4, .int (nI 0)), (3, .int (nI i)), (0, .ref mm), (1, .int (nI 1)), (2, .int (bI false))]) hx hb dX11_tell_32 hl (by decide) rfl (fun ls hl => ?_)
            have loop34 : ∀ (k34 : Nat) (k : Nat), (k ≤ (fiD opF f0F gb nb) i) → (k ≤ 20) → 21 - k < k34 → ∀ (H : Heap) (locs : List Loc), va_P D vwCl [(mm, .inr (10, [.ref nu, .ref zz, .ref on, .ref sm, .ref fw, .int tw])), (nu, .inl (cA, 2, .inr (.inr (.inr (.inr (rf2 na nc)))))), (na, .inl (cI, 20, .inl (fN g))), (nc, .inl (cI, 20, .inl (fN gb))), (zz, .inl (cI, 2, .inl (fN (sz2 n nb)))), (on, .inl (cB, 2, .inr (.inr (.inr (.inr (rf2 oa oc)))))), (oa, .inl (cL, 301, .inr (.inl u0))), (oc, .inl (cL, 301, .inr (.inl u1))), (sm, .inl (cL, 301, .inr (.inl us))), (fw, .inl (cI, 301, .inl (su_fl (fwI (fiD opF f0F gb nb)) (fN (fiD opP f0W gb nb)) i)))] H → va_D A [(mm, .inr (10, [.ref nu, .ref zz, .ref on, .ref sm, .ref fw, .int tw])), (nu, .inl (cA, 2, .inr (.inr (.inr (.inr (rf2 na nc)))))), (na, .inl (cI, 20, .inl (fN g))), (nc, .inl (cI, 20, .inl (fN gb))), (zz, .inl (cI, 2, .inl (fN (sz2 n nb)))), (on, .inl (cB, 2, .inr (.inr (.inr (.inr (rf2 oa oc)))))), (oa, .inl (cL, 301, .inr (.inl u0))), (oc, .inl (cL, 301, .inr (.inl u1))), (sm, .inl (cL, 301, .inr (.inl us))), (fw, .inl (cI, 301, .inl (su_fl (fwI (fiD opF f0F gb nb)) (fN (fiD opP f0W gb nb)) i)))] → va_S A s.heap H locs → ∀ ls : Array Slot, lv_has ls 6 [(4, .int (nI k)), (3, .int (nI i)), (0, .ref mm), (1, .int (nI 1)), (2, .int (bI false))] → W p l e R s m args below meth c H locs 0 0 Q (F0 m 34 ls []) := by
              intro k34
              induction k34 with
              | zero => intro k hk hk2 hk; exact absurd hk (Nat.not_lt_zero _)
              | succ k34 ih34 =>
                intro k hk hk2 hk34 H locs hP hD hS ls hl
                refine lv_iload hx hb dX11_tell_34 (lv_at hl 0 rfl) ?_
                refine lv_if_lt (tgt := 59) hx hb dX11_tell_36 (by decide) (fun c36 => ?_) (fun c36 => ?_)
                · exact absurd c36 (nI_pos (by omega))
                · refine lv_aload_n hx hb dX11_tell_39 rfl (lv_at hl 2 rfl) ?_
                  refine va_get (D := D) (ci := 10) (v := .ref fw) (C := RX11) (T := TX11) (N := 6) hx hb hts in_X11 hown hK hP 0 rfl rfl 4 (by decide) k_1003 (fun _ h9 => h9) rfl dX11_tell_40 ?_
                  refine lv_iload_n hx hb dX11_tell_43 rfl (lv_at hl 1 rfl) ?_
                  refine su_iald hx hb hK hP 9 0 rfl rfl (i := i) (by omega) (by decide) (nI (fiD opP f0W gb nb i)) (su_flA i) dX11_tell_44 ?_
                  refine lv_iload hx hb dX11_tell_45 (lv_at hl 0 rfl) ?_
                  refine lv_ishr hx hb dX11_tell_47 ?_
                  refine su_eqi (nI ((fiD opP f0W gb nb) i / 2 ^ k)) (su_shB h31 (by omega)) ?_
                  refine lv_iconst (v := nI 2) hx hb dX11_tell_48 (by decide) ?_
                  refine lv_irem hx hb dX11_tell_49 (by decide) ?_
                  refine su_eqi (bI ((fiD opP f0W gb nb i).testBit k)) (su_remB h31) ?_
                  refine lv_if_ne (tgt := 59) hx hb dX11_tell_50 (by decide) (fun c50 => ?_) (fun c50 => ?_)
                  · have c50 : (fiD opP f0W gb nb i).testBit k = true := bI_n c50
                    refine lv_aload_n hx hb dX11_tell_59 rfl (lv_at hl 2 rfl) ?_
                    refine va_get (D := D) (ci := 10) (v := .ref fw) (C := RX11) (T := TX11) (N := 6) hx hb hts in_X11 hown hK hP 0 rfl rfl 4 (by decide) k_1003 (fun _ h9 => h9) rfl dX11_tell_60 ?_
                    refine lv_iload_n hx hb dX11_tell_63 rfl (lv_at hl 1 rfl) ?_
                    refine lv_iload hx hb dX11_tell_64 (lv_at hl 0 rfl) ?_
                    refine su_iast hx hb hK hP hD hS 9 0 rfl rfl (i := i) (by omega) (by decide) (va_up (su_fl (fwI (fiD opF f0F gb nb)) (fN (fiD opP f0W gb nb)) i) i (nI k)) (fun _ _ => rfl) dX11_tell_66 (fun H locs hP hD hS => ?_)
                    have hP : va_P D vwCl [(mm, .inr (10, [.ref nu, .ref zz, .ref on, .ref sm, .ref fw, .int tw])), (nu, .inl (cA, 2, .inr (.inr (.inr (.inr (rf2 na nc)))))), (na, .inl (cI, 20, .inl (fN g))), (nc, .inl (cI, 20, .inl (fN gb))), (zz, .inl (cI, 2, .inl (fN (sz2 n nb)))), (on, .inl (cB, 2, .inr (.inr (.inr (.inr (rf2 oa oc)))))), (oa, .inl (cL, 301, .inr (.inl u0))), (oc, .inl (cL, 301, .inr (.inl u1))), (sm, .inl (cL, 301, .inr (.inl us))), (fw, .inl (cI, 301, .inl (va_up (su_fl (fwI (fiD opF f0F gb nb)) (fN (fiD opP f0W gb nb)) i) i (nI k))))] H := hP
                    have hD : va_D A [(mm, .inr (10, [.ref nu, .ref zz, .ref on, .ref sm, .ref fw, .int tw])), (nu, .inl (cA, 2, .inr (.inr (.inr (.inr (rf2 na nc)))))), (na, .inl (cI, 20, .inl (fN g))), (nc, .inl (cI, 20, .inl (fN gb))), (zz, .inl (cI, 2, .inl (fN (sz2 n nb)))), (on, .inl (cB, 2, .inr (.inr (.inr (.inr (rf2 oa oc)))))), (oa, .inl (cL, 301, .inr (.inl u0))), (oc, .inl (cL, 301, .inr (.inl u1))), (sm, .inl (cL, 301, .inr (.inl us))), (fw, .inl (cI, 301, .inl (va_up (su_fl (fwI (fiD opF f0F gb nb)) (fN (fiD opP f0W gb nb)) i) i (nI k))))] := hD
                    refine lv_iinc (v := nI (i + 1)) (lv' := [(3, .int (nI (i + 1))), (4, .int (nI k)), (0, .ref mm), (1, .int (nI 1)), (2, .int (bI false))]) hx hb dX11_tell_67 hl (k := 1) rfl (su_inc _) (by decide) rfl (fun ls hl => ?_)
                    refine lv_goto (tgt := 11) hx hb dX11_tell_70 (by decide) ?_
                    obtain ⟨hP, hD⟩ := su_reI (q0 := 9) (su_fl (fwI (fiD opF f0F gb nb)) (fN (fiD opP f0W gb nb)) (i + 1)) hP hD rfl (fun j _ => su_flS (by first | exact fwI_0 hlow c24 | exact fwI_k hlow hk (by omega) c50) j)
                    have hP : va_P D vwCl [(mm, .inr (10, [.ref nu, .ref zz, .ref on, .ref sm, .ref fw, .int tw])), (nu, .inl (cA, 2, .inr (.inr (.inr (.inr (rf2 na nc)))))), (na, .inl (cI, 20, .inl (fN g))), (nc, .inl (cI, 20, .inl (fN gb))), (zz, .inl (cI, 2, .inl (fN (sz2 n nb)))), (on, .inl (cB, 2, .inr (.inr (.inr (.inr (rf2 oa oc)))))), (oa, .inl (cL, 301, .inr (.inl u0))), (oc, .inl (cL, 301, .inr (.inl u1))), (sm, .inl (cL, 301, .inr (.inl us))), (fw, .inl (cI, 301, .inl (su_fl (fwI (fiD opF f0F gb nb)) (fN (fiD opP f0W gb nb)) (i + 1))))] H := hP
                    have hD : va_D A [(mm, .inr (10, [.ref nu, .ref zz, .ref on, .ref sm, .ref fw, .int tw])), (nu, .inl (cA, 2, .inr (.inr (.inr (.inr (rf2 na nc)))))), (na, .inl (cI, 20, .inl (fN g))), (nc, .inl (cI, 20, .inl (fN gb))), (zz, .inl (cI, 2, .inl (fN (sz2 n nb)))), (on, .inl (cB, 2, .inr (.inr (.inr (.inr (rf2 oa oc)))))), (oa, .inl (cL, 301, .inr (.inl u0))), (oc, .inl (cL, 301, .inr (.inl u1))), (sm, .inl (cL, 301, .inr (.inl us))), (fw, .inl (cI, 301, .inl (su_fl (fwI (fiD opF f0F gb nb)) (fN (fiD opP f0W gb nb)) (i + 1))))] := hD
                    exact ih11 (i + 1) (by omega) (by omega) _ _ hP hD hS _ (lv_sub hl [0, 2, 3, 4] rfl)
                  · have c50 : (fiD opP f0W gb nb i).testBit k = false := bI_e c50
                    have hk9 := low_lt hk hF.2 c50
                    refine lv_iinc (v := nI (k + 1)) (lv' := [(4, .int (nI (k + 1))), (3, .int (nI i)), (0, .ref mm), (1, .int (nI 1)), (2, .int (bI false))]) hx hb dX11_tell_53 hl (k := 0) rfl (su_inc _) (by decide) rfl (fun ls hl => ?_)
                    refine lv_goto (tgt := 34) hx hb dX11_tell_56 (by decide) ?_
                    exact ih34 (k + 1) (by omega) (by omega) (by omega) _ _ hP hD hS _ (lv_sub hl [0, 1, 2, 3, 4] rfl)
            exact loop34 ((21 - (0)) + 1) (0) (Nat.zero_le _) (by omega) (by omega) _ _ hP hD hS _ (lv_sub hl [0, 1, 2, 3, 4] rfl)
          · have c24 : fiD opP f0W gb nb i = 0 := su_z (by omega) c24
            refine lv_iconst (v := -1) hx hb dX11_tell_27 (by decide) ?_
            refine lv_goto (tgt := 32) hx hb dX11_tell_28 (by decide) ?_
            refine lv_istore (lv' := [(4, .int (-1)), (3, .int (nI i)), (0, .ref mm), (1, .int (nI 1)), (2, .int (bI false))]) hx hb dX11_tell_32 hl (by decide) rfl (fun ls hl => ?_)
            refine lv_iload hx hb dX11_tell_34 (lv_at hl 0 rfl) ?_
            refine lv_if_lt (tgt := 59) hx hb dX11_tell_36 (by decide) (fun c36 => ?_) (fun c36 => ?_)
            · refine lv_aload_n hx hb dX11_tell_59 rfl (lv_at hl 2 rfl) ?_
              refine va_get (D := D) (ci := 10) (v := .ref fw) (C := RX11) (T := TX11) (N := 6) hx hb hts in_X11 hown hK hP 0 rfl rfl 4 (by decide) k_1003 (fun _ h9 => h9) rfl dX11_tell_60 ?_
              refine lv_iload_n hx hb dX11_tell_63 rfl (lv_at hl 1 rfl) ?_
              refine lv_iload hx hb dX11_tell_64 (lv_at hl 0 rfl) ?_
              refine su_iast hx hb hK hP hD hS 9 0 rfl rfl (i := i) (by omega) (by decide) (va_up (su_fl (fwI (fiD opF f0F gb nb)) (fN (fiD opP f0W gb nb)) i) i (-1)) (fun _ _ => rfl) dX11_tell_66 (fun H locs hP hD hS => ?_)
              have hP : va_P D vwCl [(mm, .inr (10, [.ref nu, .ref zz, .ref on, .ref sm, .ref fw, .int tw])), (nu, .inl (cA, 2, .inr (.inr (.inr (.inr (rf2 na nc)))))), (na, .inl (cI, 20, .inl (fN g))), (nc, .inl (cI, 20, .inl (fN gb))), (zz, .inl (cI, 2, .inl (fN (sz2 n nb)))), (on, .inl (cB, 2, .inr (.inr (.inr (.inr (rf2 oa oc)))))), (oa, .inl (cL, 301, .inr (.inl u0))), (oc, .inl (cL, 301, .inr (.inl u1))), (sm, .inl (cL, 301, .inr (.inl us))), (fw, .inl (cI, 301, .inl (va_up (su_fl (fwI (fiD opF f0F gb nb)) (fN (fiD opP f0W gb nb)) i) i (-1))))] H := hP
              have hD : va_D A [(mm, .inr (10, [.ref nu, .ref zz, .ref on, .ref sm, .ref fw, .int tw])), (nu, .inl (cA, 2, .inr (.inr (.inr (.inr (rf2 na nc)))))), (na, .inl (cI, 20, .inl (fN g))), (nc, .inl (cI, 20, .inl (fN gb))), (zz, .inl (cI, 2, .inl (fN (sz2 n nb)))), (on, .inl (cB, 2, .inr (.inr (.inr (.inr (rf2 oa oc)))))), (oa, .inl (cL, 301, .inr (.inl u0))), (oc, .inl (cL, 301, .inr (.inl u1))), (sm, .inl (cL, 301, .inr (.inl us))), (fw, .inl (cI, 301, .inl (va_up (su_fl (fwI (fiD opF f0F gb nb)) (fN (fiD opP f0W gb nb)) i) i (-1))))] := hD
              refine lv_iinc (v := nI (i + 1)) (lv' := [(3, .int (nI (i + 1))), (4, .int (-1)), (0, .ref mm), (1, .int (nI 1)), (2, .int (bI false))]) hx hb dX11_tell_67 hl (k := 1) rfl (su_inc _) (by decide) rfl (fun ls hl => ?_)
              refine lv_goto (tgt := 11) hx hb dX11_tell_70 (by decide) ?_
              obtain ⟨hP, hD⟩ := su_reI (q0 := 9) (su_fl (fwI (fiD opF f0F gb nb)) (fN (fiD opP f0W gb nb)) (i + 1)) hP hD rfl (fun j _ => su_flS (by first | exact fwI_0 hlow c24 | exact fwI_k hlow hk (by omega) c50) j)
              have hP : va_P D vwCl [(mm, .inr (10, [.ref nu, .ref zz, .ref on, .ref sm, .ref fw, .int tw])), (nu, .inl (cA, 2, .inr (.inr (.inr (.inr (rf2 na nc)))))), (na, .inl (cI, 20, .inl (fN g))), (nc, .inl (cI, 20, .inl (fN gb))), (zz, .inl (cI, 2, .inl (fN (sz2 n nb)))), (on, .inl (cB, 2, .inr (.inr (.inr (.inr (rf2 oa oc)))))), (oa, .inl (cL, 301, .inr (.inl u0))), (oc, .inl (cL, 301, .inr (.inl u1))), (sm, .inl (cL, 301, .inr (.inl us))), (fw, .inl (cI, 301, .inl (su_fl (fwI (fiD opF f0F gb nb)) (fN (fiD opP f0W gb nb)) (i + 1))))] H := hP
              have hD : va_D A [(mm, .inr (10, [.ref nu, .ref zz, .ref on, .ref sm, .ref fw, .int tw])), (nu, .inl (cA, 2, .inr (.inr (.inr (.inr (rf2 na nc)))))), (na, .inl (cI, 20, .inl (fN g))), (nc, .inl (cI, 20, .inl (fN gb))), (zz, .inl (cI, 2, .inl (fN (sz2 n nb)))), (on, .inl (cB, 2, .inr (.inr (.inr (.inr (rf2 oa oc)))))), (oa, .inl (cL, 301, .inr (.inl u0))), (oc, .inl (cL, 301, .inr (.inl u1))), (sm, .inl (cL, 301, .inr (.inl us))), (fw, .inl (cI, 301, .inl (su_fl (fwI (fiD opF f0F gb nb)) (fN (fiD opP f0W gb nb)) (i + 1))))] := hD
              exact ih11 (i + 1) (by omega) (by omega) _ _ hP hD hS _ (lv_sub hl [0, 2, 3, 4] rfl)
            · exact absurd (by decide) c36
    obtain ⟨hP, hD⟩ := su_reI (q0 := 9) (su_fl (fwI (fiD opF f0F gb nb)) (fN (fiD opP f0W gb nb)) (0)) hP hD rfl (fun k _ => su_fl0 k)
    have hP : va_P D vwCl [(mm, .inr (10, [.ref nu, .ref zz, .ref on, .ref sm, .ref fw, .int tw])), (nu, .inl (cA, 2, .inr (.inr (.inr (.inr (rf2 na nc)))))), (na, .inl (cI, 20, .inl (fN g))), (nc, .inl (cI, 20, .inl (fN gb))), (zz, .inl (cI, 2, .inl (fN (sz2 n nb)))), (on, .inl (cB, 2, .inr (.inr (.inr (.inr (rf2 oa oc)))))), (oa, .inl (cL, 301, .inr (.inl u0))), (oc, .inl (cL, 301, .inr (.inl u1))), (sm, .inl (cL, 301, .inr (.inl us))), (fw, .inl (cI, 301, .inl (su_fl (fwI (fiD opF f0F gb nb)) (fN (fiD opP f0W gb nb)) (0))))] H := hP
    have hD : va_D A [(mm, .inr (10, [.ref nu, .ref zz, .ref on, .ref sm, .ref fw, .int tw])), (nu, .inl (cA, 2, .inr (.inr (.inr (.inr (rf2 na nc)))))), (na, .inl (cI, 20, .inl (fN g))), (nc, .inl (cI, 20, .inl (fN gb))), (zz, .inl (cI, 2, .inl (fN (sz2 n nb)))), (on, .inl (cB, 2, .inr (.inr (.inr (.inr (rf2 oa oc)))))), (oa, .inl (cL, 301, .inr (.inl u0))), (oc, .inl (cL, 301, .inr (.inl u1))), (sm, .inl (cL, 301, .inr (.inl us))), (fw, .inl (cI, 301, .inl (su_fl (fwI (fiD opF f0F gb nb)) (fN (fiD opP f0W gb nb)) (0))))] := hD
    exact loop11 ((301 - (0)) + 1) (0) (by omega) (by omega) _ _ hP hD hS _ (lv_sub hl [0, 1, 2, 3] rfl)
set_option maxHeartbeats 4000000 in
set_option maxRecDepth 100000 in
theorem m_tellU1 (l : Launch) (D : va_G) (cI cL cZ : ClassId) (sz : Nat) (cA : ClassId) (cB : ClassId) (mm : Nat) (nu : Nat) (na : Nat) (nc : Nat) (zz : Nat) (on : Nat) (oa : Nat) (oc : Nat) (sm : Nat) (fw : Nat) (g : Nat → Nat) (n : Nat) (gb : Nat → Nat) (nb : Nat) (tw : Int32) (u0 : Nat → Int64) (u1 : Nat → Int64) (us : Nat → Int64) (uf : Nat → Int32) (hn : n ≤ 20) (hnb : nb ≤ 20) (hg : ∀ k, k < n → 1 ≤ g k ∧ g k ≤ 300) (hgb : ∀ k, k < nb → 1 ≤ gb k ∧ gb k ≤ 300) :
    Met l yX11_tell (ws_ yX11_tell cX11_tell 6 none) { frames := 0, cells := 0, slots := 0, locals := 0 } (su_pre D (su_T5 cI cL cZ cA cB) sz [(mm, .inr (10, [.ref nu, .ref zz, .ref on, .ref sm, .ref fw, .int tw])), (nu, .inl (cA, 2, .inr (.inr (.inr (.inr (rf2 na nc)))))), (na, .inl (cI, 20, .inl (fN g))), (nc, .inl (cI, 20, .inl (fN gb))), (zz, .inl (cI, 2, .inl (fN (sz2 n nb)))), (on, .inl (cB, 2, .inr (.inr (.inr (.inr (rf2 oa oc)))))), (oa, .inl (cL, 301, .inr (.inl u0))), (oc, .inl (cL, 301, .inr (.inl u1))), (sm, .inl (cL, 301, .inr (.inl us))), (fw, .inl (cI, 301, .inl uf))] [.ref mm, .int (nI 1), .int (bI true)]) (su_qv D (va_A [(mm, .inr (10, [.ref nu, .ref zz, .ref on, .ref sm, .ref fw, .int tw])), (nu, .inl (cA, 2, .inr (.inr (.inr (.inr (rf2 na nc)))))), (na, .inl (cI, 20, .inl (fN g))), (nc, .inl (cI, 20, .inl (fN gb))), (zz, .inl (cI, 2, .inl (fN (sz2 n nb)))), (on, .inl (cB, 2, .inr (.inr (.inr (.inr (rf2 oa oc)))))), (oa, .inl (cL, 301, .inr (.inl u0))), (oc, .inl (cL, 301, .inr (.inl u1))), (sm, .inl (cL, 301, .inr (.inl us))), (fw, .inl (cI, 301, .inl uf))] sz) (fun (uu : Unit) => True) (fun (uu : Unit) => [(mm, .inr (10, [.ref nu, .ref zz, .ref on, .ref sm, .ref fw, .int tw])), (nu, .inl (cA, 2, .inr (.inr (.inr (.inr (rf2 na nc)))))), (na, .inl (cI, 20, .inl (fN g))), (nc, .inl (cI, 20, .inl (fN gb))), (zz, .inl (cI, 2, .inl (fN (sz2 n nb)))), (on, .inl (cB, 2, .inr (.inr (.inr (.inr (rf2 oa oc)))))), (oa, .inl (cL, 301, .inr (.inl u0))), (oc, .inl (cL, 301, .inr (.inl u1))), (sm, .inl (cL, 301, .inr (.inl us))), (fw, .inl (cI, 301, .inl (fwI (fiU opF f0F gb nb))))])) 0 0 (va_A [(mm, .inr (10, [.ref nu, .ref zz, .ref on, .ref sm, .ref fw, .int tw])), (nu, .inl (cA, 2, .inr (.inr (.inr (.inr (rf2 na nc)))))), (na, .inl (cI, 20, .inl (fN g))), (nc, .inl (cI, 20, .inl (fN gb))), (zz, .inl (cI, 2, .inl (fN (sz2 n nb)))), (on, .inl (cB, 2, .inr (.inr (.inr (.inr (rf2 oa oc)))))), (oa, .inl (cL, 301, .inr (.inl u0))), (oc, .inl (cL, 301, .inr (.inl u1))), (sm, .inl (cL, 301, .inr (.inl us))), (fw, .inl (cI, 301, .inl uf))] sz) := by
  refine su_met (y := yX11_tell) (av := [.ref mm, .int (nI 1), .int (bI true)]) (Qf := fun A => su_qv D A (fun (uu : Unit) => True) (fun (uu : Unit) => [(mm, .inr (10, [.ref nu, .ref zz, .ref on, .ref sm, .ref fw, .int tw])), (nu, .inl (cA, 2, .inr (.inr (.inr (.inr (rf2 na nc)))))), (na, .inl (cI, 20, .inl (fN g))), (nc, .inl (cI, 20, .inl (fN gb))), (zz, .inl (cI, 2, .inl (fN (sz2 n nb)))), (on, .inl (cB, 2, .inr (.inr (.inr (.inr (rf2 oa oc)))))), (oa, .inl (cL, 301, .inr (.inl u0))), (oc, .inl (cL, 301, .inr (.inl u1))), (sm, .inl (cL, 301, .inr (.inl us))), (fw, .inl (cI, 301, .inl (fwI (fiU opF f0F gb nb))))])) (cc := cX11_tell) (maxL := 6) (ret := none) (by decide) (Nat.le_of_ble_eq_true rfl) ?_
  intro p e s m args below meth c R Q A H locs ls hx hb hr hlocks hin hml hown hts hN hP hK hD hA hS hRm hQ hl
  have hown : s.vm.findClass RX11 = some m.cls := hown
  have hl : lv_has ls 6 [(0, .ref mm), (1, .int (nI 1)), (2, .int (bI true))] := hl
  have hR3 : 0 ≤ R.cells := by rw [hRm]; exact Nat.le_of_ble_eq_true rfl
  have hR4 : 0 ≤ R.slots := by rw [hRm]; exact Nat.le_of_ble_eq_true rfl
  have k_1003 := hts _ q_1003
  have k_1000 := hts _ q_1000
  have k_999 := hts _ q_999
  have hg1 : ∀ k, k < nb → 1 ≤ gb k := fun k hk => (hgb k hk).1
  refine lv_iload_n hx hb dX11_tell_0 rfl (lv_at hl 2 rfl) ?_
  refine lv_if_ne (tgt := 74) hx hb dX11_tell_1 (by decide) (fun c1 => ?_) (fun c1 => ?_)
  · have c1 : true = true := bI_n c1
    refine lv_aload_n hx hb dX11_tell_74 rfl (lv_at hl 0 rfl) ?_
    refine va_get (D := D) (ci := 10) (v := .ref fw) (C := RX11) (T := TX11) (N := 6) hx hb hts in_X11 hown hK hP 0 rfl rfl 4 (by decide) k_1003 (fun _ h9 => h9) rfl dX11_tell_75 ?_
    refine lv_iconst (v := nI 0) hx hb dX11_tell_78 (by decide) ?_
    refine lv_iconst (v := nI 0) hx hb dX11_tell_79 (by decide) ?_
    refine su_iast hx hb hK hP hD hS 9 0 rfl rfl (i := 0) (by decide) (by decide) (su_fl (fwI (fiU opF f0F gb nb)) uf 1) (fun j _ => su_flS (f := fwI (fiU opF f0F gb nb)) (i := 0) (g := uf) (by rw [fwI_w, oF_0 gb nb hg1]; rfl) j) dX11_tell_80 (fun H locs hP hD hS => ?_)
    have hP : va_P D vwCl [(mm, .inr (10, [.ref nu, .ref zz, .ref on, .ref sm, .ref fw, .int tw])), (nu, .inl (cA, 2, .inr (.inr (.inr (.inr (rf2 na nc)))))), (na, .inl (cI, 20, .inl (fN g))), (nc, .inl (cI, 20, .inl (fN gb))), (zz, .inl (cI, 2, .inl (fN (sz2 n nb)))), (on, .inl (cB, 2, .inr (.inr (.inr (.inr (rf2 oa oc)))))), (oa, .inl (cL, 301, .inr (.inl u0))), (oc, .inl (cL, 301, .inr (.inl u1))), (sm, .inl (cL, 301, .inr (.inl us))), (fw, .inl (cI, 301, .inl (su_fl (fwI (fiU opF f0F gb nb)) uf 1)))] H := hP
    have hD : va_D A [(mm, .inr (10, [.ref nu, .ref zz, .ref on, .ref sm, .ref fw, .int tw])), (nu, .inl (cA, 2, .inr (.inr (.inr (.inr (rf2 na nc)))))), (na, .inl (cI, 20, .inl (fN g))), (nc, .inl (cI, 20, .inl (fN gb))), (zz, .inl (cI, 2, .inl (fN (sz2 n nb)))), (on, .inl (cB, 2, .inr (.inr (.inr (.inr (rf2 oa oc)))))), (oa, .inl (cL, 301, .inr (.inl u0))), (oc, .inl (cL, 301, .inr (.inl u1))), (sm, .inl (cL, 301, .inr (.inl us))), (fw, .inl (cI, 301, .inl (su_fl (fwI (fiU opF f0F gb nb)) uf 1)))] := hD
    refine lv_iconst (v := nI 1) hx hb dX11_tell_81 (by decide) ?_
    refine lv_istore_n (lv' := [(3, .int (nI 1)), (0, .ref mm), (1, .int (nI 1)), (2, .int (bI true))]) hx hb dX11_tell_82 rfl hl (by decide) rfl (fun ls hl => ?_)
    have loop83 : ∀ (k83 : Nat) (i : Nat), (1 ≤ i) → (i ≤ 301) → 301 - i < k83 → ∀ (H : Heap) (locs : List Loc), va_P D vwCl [(mm, .inr (10, [.ref nu, .ref zz, .ref on, .ref sm, .ref fw, .int tw])), (nu, .inl (cA, 2, .inr (.inr (.inr (.inr (rf2 na nc)))))), (na, .inl (cI, 20, .inl (fN g))), (nc, .inl (cI, 20, .inl (fN gb))), (zz, .inl (cI, 2, .inl (fN (sz2 n nb)))), (on, .inl (cB, 2, .inr (.inr (.inr (.inr (rf2 oa oc)))))), (oa, .inl (cL, 301, .inr (.inl u0))), (oc, .inl (cL, 301, .inr (.inl u1))), (sm, .inl (cL, 301, .inr (.inl us))), (fw, .inl (cI, 301, .inl (su_fl (fwI (fiU opF f0F gb nb)) uf i)))] H → va_D A [(mm, .inr (10, [.ref nu, .ref zz, .ref on, .ref sm, .ref fw, .int tw])), (nu, .inl (cA, 2, .inr (.inr (.inr (.inr (rf2 na nc)))))), (na, .inl (cI, 20, .inl (fN g))), (nc, .inl (cI, 20, .inl (fN gb))), (zz, .inl (cI, 2, .inl (fN (sz2 n nb)))), (on, .inl (cB, 2, .inr (.inr (.inr (.inr (rf2 oa oc)))))), (oa, .inl (cL, 301, .inr (.inl u0))), (oc, .inl (cL, 301, .inr (.inl u1))), (sm, .inl (cL, 301, .inr (.inl us))), (fw, .inl (cI, 301, .inl (su_fl (fwI (fiU opF f0F gb nb)) uf i)))] → va_S A s.heap H locs → ∀ ls : Array Slot, lv_has ls 6 [(3, .int (nI i)), (0, .ref mm), (1, .int (nI 1)), (2, .int (bI true))] → W p l e R s m args below meth c H locs 0 0 Q (F0 m 83 ls []) := by
      intro k83
      induction k83 with
      | zero => intro i hi hi2 hk; exact absurd hk (Nat.not_lt_zero _)
      | succ k83 ih83 =>
        intro i hi hi2 hk83 H locs hP hD hS ls hl
        refine lv_iload_n hx hb dX11_tell_83 rfl (lv_at hl 0 rfl) ?_
        refine lv_sipush (v := nI 300) hx hb dX11_tell_84 (by decide) ?_
        refine lv_icmp_gt (tgt := 193) hx hb dX11_tell_87 (by decide) (fun c87 => ?_) (fun c87 => ?_)
        · have c87 : 300 < i := su_lt (by omega) (by omega) c87
          obtain ⟨hP, hD⟩ := su_reI (q0 := 9) (fwI (fiU opF f0F gb nb)) hP hD rfl (fun j hj => su_flN (by omega))
          have hP : va_P D vwCl [(mm, .inr (10, [.ref nu, .ref zz, .ref on, .ref sm, .ref fw, .int tw])), (nu, .inl (cA, 2, .inr (.inr (.inr (.inr (rf2 na nc)))))), (na, .inl (cI, 20, .inl (fN g))), (nc, .inl (cI, 20, .inl (fN gb))), (zz, .inl (cI, 2, .inl (fN (sz2 n nb)))), (on, .inl (cB, 2, .inr (.inr (.inr (.inr (rf2 oa oc)))))), (oa, .inl (cL, 301, .inr (.inl u0))), (oc, .inl (cL, 301, .inr (.inl u1))), (sm, .inl (cL, 301, .inr (.inl us))), (fw, .inl (cI, 301, .inl (fwI (fiU opF f0F gb nb))))] H := hP
          have hD : va_D A [(mm, .inr (10, [.ref nu, .ref zz, .ref on, .ref sm, .ref fw, .int tw])), (nu, .inl (cA, 2, .inr (.inr (.inr (.inr (rf2 na nc)))))), (na, .inl (cI, 20, .inl (fN g))), (nc, .inl (cI, 20, .inl (fN gb))), (zz, .inl (cI, 2, .inl (fN (sz2 n nb)))), (on, .inl (cB, 2, .inr (.inr (.inr (.inr (rf2 oa oc)))))), (oa, .inl (cL, 301, .inr (.inl u0))), (oc, .inl (cL, 301, .inr (.inl u1))), (sm, .inl (cL, 301, .inr (.inl us))), (fw, .inl (cI, 301, .inl (fwI (fiU opF f0F gb nb))))] := hD
          rw [hQ]
          exact su_ev hx hb hr hlocks hS dX11_tell_193 () (trivial) hP hD
        · have c87 : i ≤ 300 := su_nlt (by omega) (by omega) c87
          refine lv_aload_n hx hb dX11_tell_90 rfl (lv_at hl 1 rfl) ?_
          refine va_get (D := D) (ci := 10) (v := .ref fw) (C := RX11) (T := TX11) (N := 6) hx hb hts in_X11 hown hK hP 0 rfl rfl 4 (by decide) k_1003 (fun _ h9 => h9) rfl dX11_tell_91 ?_
          refine lv_iload_n hx hb dX11_tell_94 rfl (lv_at hl 0 rfl) ?_
          refine lv_iconst (v := -1) hx hb dX11_tell_95 (by decide) ?_
          refine su_iast hx hb hK hP hD hS 9 0 rfl rfl (i := i) (by omega) (by decide) (va_up (su_fl (fwI (fiU opF f0F gb nb)) uf i) i (wI (pm (fiU opF f0F gb nb) gb i 0))) (fun j _ => rfl) dX11_tell_96 (fun H locs hP hD hS => ?_)
          have hP : va_P D vwCl [(mm, .inr (10, [.ref nu, .ref zz, .ref on, .ref sm, .ref fw, .int tw])), (nu, .inl (cA, 2, .inr (.inr (.inr (.inr (rf2 na nc)))))), (na, .inl (cI, 20, .inl (fN g))), (nc, .inl (cI, 20, .inl (fN gb))), (zz, .inl (cI, 2, .inl (fN (sz2 n nb)))), (on, .inl (cB, 2, .inr (.inr (.inr (.inr (rf2 oa oc)))))), (oa, .inl (cL, 301, .inr (.inl u0))), (oc, .inl (cL, 301, .inr (.inl u1))), (sm, .inl (cL, 301, .inr (.inl us))), (fw, .inl (cI, 301, .inl (va_up (su_fl (fwI (fiU opF f0F gb nb)) uf i) i (wI (pm (fiU opF f0F gb nb) gb i 0)))))] H := hP
          have hD : va_D A [(mm, .inr (10, [.ref nu, .ref zz, .ref on, .ref sm, .ref fw, .int tw])), (nu, .inl (cA, 2, .inr (.inr (.inr (.inr (rf2 na nc)))))), (na, .inl (cI, 20, .inl (fN g))), (nc, .inl (cI, 20, .inl (fN gb))), (zz, .inl (cI, 2, .inl (fN (sz2 n nb)))), (on, .inl (cB, 2, .inr (.inr (.inr (.inr (rf2 oa oc)))))), (oa, .inl (cL, 301, .inr (.inl u0))), (oc, .inl (cL, 301, .inr (.inl u1))), (sm, .inl (cL, 301, .inr (.inl us))), (fw, .inl (cI, 301, .inl (va_up (su_fl (fwI (fiU opF f0F gb nb)) uf i) i (wI (pm (fiU opF f0F gb nb) gb i 0)))))] := hD
          refine lv_iconst (v := nI 0) hx hb dX11_tell_97 (by decide) ?_
          refine lv_istore (lv' := [(4, .int (nI 0)), (3, .int (nI i)), (0, .ref mm), (1, .int (nI 1)), (2, .int (bI true))]) hx hb dX11_tell_98 hl (by decide) rfl (fun ls hl => ?_)
          have loop100 : ∀ (k100 : Nat) (k : Nat), (k ≤ nb) → nb - k < k100 → ∀ (H : Heap) (locs : List Loc), va_P D vwCl [(mm, .inr (10, [.ref nu, .ref zz, .ref on, .ref sm, .ref fw, .int tw])), (nu, .inl (cA, 2, .inr (.inr (.inr (.inr (rf2 na nc)))))), (na, .inl (cI, 20, .inl (fN g))), (nc, .inl (cI, 20, .inl (fN gb))), (zz, .inl (cI, 2, .inl (fN (sz2 n nb)))), (on, .inl (cB, 2, .inr (.inr (.inr (.inr (rf2 oa oc)))))), (oa, .inl (cL, 301, .inr (.inl u0))), (oc, .inl (cL, 301, .inr (.inl u1))), (sm, .inl (cL, 301, .inr (.inl us))), (fw, .inl (cI, 301, .inl (va_up (su_fl (fwI (fiU opF f0F gb nb)) uf i) i (wI (pm (fiU opF f0F gb nb) gb i k)))))] H → va_D A [(mm, .inr (10, [.ref nu, .ref zz, .ref on, .ref sm, .ref fw, .int tw])), (nu, .inl (cA, 2, .inr (.inr (.inr (.inr (rf2 na nc)))))), (na, .inl (cI, 20, .inl (fN g))), (nc, .inl (cI, 20, .inl (fN gb))), (zz, .inl (cI, 2, .inl (fN (sz2 n nb)))), (on, .inl (cB, 2, .inr (.inr (.inr (.inr (rf2 oa oc)))))), (oa, .inl (cL, 301, .inr (.inl u0))), (oc, .inl (cL, 301, .inr (.inl u1))), (sm, .inl (cL, 301, .inr (.inl us))), (fw, .inl (cI, 301, .inl (va_up (su_fl (fwI (fiU opF f0F gb nb)) uf i) i (wI (pm (fiU opF f0F gb nb) gb i k)))))] → va_S A s.heap H locs → ∀ ls : Array Slot, lv_has ls 6 [(4, .int (nI k)), (3, .int (nI i)), (0, .ref mm), (1, .int (nI 1)), (2, .int (bI true))] → W p l e R s m args below meth c H locs 0 0 Q (F0 m 100 ls []) := by
            intro k100
            induction k100 with
            | zero => intro k hk hk; exact absurd hk (Nat.not_lt_zero _)
            | succ k100 ih100 =>
              intro k hk hk100 H locs hP hD hS ls hl
              refine lv_iload hx hb dX11_tell_100 (lv_at hl 0 rfl) ?_
              refine lv_aload_n hx hb dX11_tell_102 rfl (lv_at hl 2 rfl) ?_
              refine va_get (D := D) (ci := 10) (v := .ref zz) (C := RX11) (T := TX11) (N := 6) hx hb hts in_X11 hown hK hP 0 rfl rfl 1 (by decide) k_1000 (fun _ h9 => h9) rfl dX11_tell_103 ?_
              refine lv_iload_n hx hb dX11_tell_106 rfl (lv_at hl 3 rfl) ?_
              refine su_iald hx hb hK hP 4 0 rfl rfl (i := 1) (by decide) (by decide) (nI nb) (rfl) dX11_tell_107 ?_
              refine lv_icmp_ge (tgt := 187) hx hb dX11_tell_108 (by decide) (fun c108 => ?_) (fun c108 => ?_)
              · have c108 : nb ≤ k := su_ge (by omega) (by omega) c108
                refine lv_iinc (v := nI (i + 1)) (lv' := [(3, .int (nI (i + 1))), (4, .int (nI k)), (0, .ref mm), (1, .int (nI 1)), (2, .int (bI true))]) hx hb dX11_tell_187 hl (k := 1) rfl (su_inc _) (by decide) rfl (fun ls hl => ?_)
                refine lv_goto (tgt := 83) hx hb dX11_tell_190 (by decide) ?_
                obtain ⟨hP, hD⟩ := su_reI (q0 := 9) (su_fl (fwI (fiU opF f0F gb nb)) uf (i + 1)) hP hD rfl (fun j _ => su_flS (by rw [show k = nb by omega, pm_F hgb (by omega) (by omega)]; rfl) j)
                have hP : va_P D vwCl [(mm, .inr (10, [.ref nu, .ref zz, .ref on, .ref sm, .ref fw, .int tw])), (nu, .inl (cA, 2, .inr (.inr (.inr (.inr (rf2 na nc)))))), (na, .inl (cI, 20, .inl (fN g))), (nc, .inl (cI, 20, .inl (fN gb))), (zz, .inl (cI, 2, .inl (fN (sz2 n nb)))), (on, .inl (cB, 2, .inr (.inr (.inr (.inr (rf2 oa oc)))))), (oa, .inl (cL, 301, .inr (.inl u0))), (oc, .inl (cL, 301, .inr (.inl u1))), (sm, .inl (cL, 301, .inr (.inl us))), (fw, .inl (cI, 301, .inl (su_fl (fwI (fiU opF f0F gb nb)) uf (i + 1))))] H := hP
                have hD : va_D A [(mm, .inr (10, [.ref nu, .ref zz, .ref on, .ref sm, .ref fw, .int tw])), (nu, .inl (cA, 2, .inr (.inr (.inr (.inr (rf2 na nc)))))), (na, .inl (cI, 20, .inl (fN g))), (nc, .inl (cI, 20, .inl (fN gb))), (zz, .inl (cI, 2, .inl (fN (sz2 n nb)))), (on, .inl (cB, 2, .inr (.inr (.inr (.inr (rf2 oa oc)))))), (oa, .inl (cL, 301, .inr (.inl u0))), (oc, .inl (cL, 301, .inr (.inl u1))), (sm, .inl (cL, 301, .inr (.inl us))), (fw, .inl (cI, 301, .inl (su_fl (fwI (fiU opF f0F gb nb)) uf (i + 1))))] := hD
                exact ih83 (i + 1) (by omega) (by omega) (by omega) _ _ hP hD hS _ (lv_sub hl [0, 2, 3, 4] rfl)
              · have c108 : k < nb := su_nge (by omega) (by omega) c108
                have hgk := hgb k c108
                have hpm := pm_le (fiU opF f0F gb nb) gb i k
                refine lv_iload_n hx hb dX11_tell_111 rfl (lv_at hl 1 rfl) ?_
                refine lv_aload_n hx hb dX11_tell_112 rfl (lv_at hl 2 rfl) ?_
                refine va_get (D := D) (ci := 10) (v := .ref nu) (C := RX11) (T := TX11) (N := 6) hx hb hts in_X11 hown hK hP 0 rfl rfl 0 (by decide) k_999 (fun _ h9 => h9) rfl dX11_tell_113 ?_
                refine lv_iload_n hx hb dX11_tell_116 rfl (lv_at hl 3 rfl) ?_
                refine su_aald hx hb hK hP 1 3 rfl rfl (i := 1) (by decide) (by decide) (nc) rfl dX11_tell_117 ?_
                refine lv_iload hx hb dX11_tell_118 (lv_at hl 0 rfl) ?_
                refine su_iald hx hb hK hP 3 0 rfl rfl (i := k) (by omega) (by decide) (nI (gb k)) (rfl) dX11_tell_120 ?_
                refine lv_isub hx hb dX11_tell_121 ?_
                refine su_eqi (nI i - nI (gb k)) (rfl) ?_
                refine lv_istore (lv' := [(5, .int (nI i - nI (gb k))), (4, .int (nI k)), (3, .int (nI i)), (0, .ref mm), (1, .int (nI 1)), (2, .int (bI true))]) hx hb dX11_tell_122 hl (by decide) rfl (fun ls hl => ?_)
                refine lv_iload hx hb dX11_tell_124 (lv_at hl 0 rfl) ?_
                refine lv_if_lt (tgt := 181) hx hb dX11_tell_126 (by decide) (fun c126 => ?_) (fun c126 => ?_)
                · have c126 := (su_sublt (by omega) (by omega)).mp c126
                  refine lv_iinc (v := nI (k + 1)) (lv' := [(4, .int (nI (k + 1))), (5, .int (nI i - nI (gb k))), (3, .int (nI i)), (0, .ref mm), (1, .int (nI 1)), (2, .int (bI true))]) hx hb dX11_tell_181 hl (k := 1) rfl (su_inc _) (by decide) rfl (fun ls hl => ?_)
                  refine lv_goto (tgt := 100) hx hb dX11_tell_184 (by decide) ?_
                  obtain ⟨hP, hD⟩ := su_reI (q0 := 9) (va_up (su_fl (fwI (fiU opF f0F gb nb)) uf i) i (wI (pm (fiU opF f0F gb nb) gb i (k + 1)))) hP hD rfl (fun j _ => by first | rw [pm_0 c126] | rw [pm_1 (by omega)])
                  have hP : va_P D vwCl [(mm, .inr (10, [.ref nu, .ref zz, .ref on, .ref sm, .ref fw, .int tw])), (nu, .inl (cA, 2, .inr (.inr (.inr (.inr (rf2 na nc)))))), (na, .inl (cI, 20, .inl (fN g))), (nc, .inl (cI, 20, .inl (fN gb))), (zz, .inl (cI, 2, .inl (fN (sz2 n nb)))), (on, .inl (cB, 2, .inr (.inr (.inr (.inr (rf2 oa oc)))))), (oa, .inl (cL, 301, .inr (.inl u0))), (oc, .inl (cL, 301, .inr (.inl u1))), (sm, .inl (cL, 301, .inr (.inl us))), (fw, .inl (cI, 301, .inl (va_up (su_fl (fwI (fiU opF f0F gb nb)) uf i) i (wI (pm (fiU opF f0F gb nb) gb i (k + 1))))))] H := hP
                  have hD : va_D A [(mm, .inr (10, [.ref nu, .ref zz, .ref on, .ref sm, .ref fw, .int tw])), (nu, .inl (cA, 2, .inr (.inr (.inr (.inr (rf2 na nc)))))), (na, .inl (cI, 20, .inl (fN g))), (nc, .inl (cI, 20, .inl (fN gb))), (zz, .inl (cI, 2, .inl (fN (sz2 n nb)))), (on, .inl (cB, 2, .inr (.inr (.inr (.inr (rf2 oa oc)))))), (oa, .inl (cL, 301, .inr (.inl u0))), (oc, .inl (cL, 301, .inr (.inl u1))), (sm, .inl (cL, 301, .inr (.inl us))), (fw, .inl (cI, 301, .inl (va_up (su_fl (fwI (fiU opF f0F gb nb)) uf i) i (wI (pm (fiU opF f0F gb nb) gb i (k + 1))))))] := hD
                  exact ih100 (k + 1) (by omega) (by omega) _ _ hP hD hS _ (lv_sub hl [0, 2, 3, 4, 5] rfl)
                · have c126 : gb k ≤ i := Nat.le_of_not_lt (fun q9 => c126 ((su_sublt (by omega) (by omega)).mpr q9))
                  refine lv_aload_n hx hb dX11_tell_129 rfl (lv_at hl 3 rfl) ?_
                  refine va_get (D := D) (ci := 10) (v := .ref fw) (C := RX11) (T := TX11) (N := 6) hx hb hts in_X11 hown hK hP 0 rfl rfl 4 (by decide) k_1003 (fun _ h9 => h9) rfl dX11_tell_130 ?_
                  have hsm := oF_sm gb hg1 (i - gb k) (by omega)
                  refine lv_iload hx hb dX11_tell_133 (lv_at hl 0 rfl) ?_
                  refine su_eqi (nI (i - gb k)) (pk_sub c126) ?_
                  refine su_iald hx hb hK hP 9 0 rfl rfl (i := (i - gb k)) (by omega) (by decide) (wI ((fiU opF f0F gb nb) (i - gb k))) (by rw [va_up_lo (by omega), su_flN (by omega)]; rfl) dX11_tell_135 ?_
                  refine lv_if_lt (tgt := 181) hx hb dX11_tell_136 (by decide) (fun c136 => ?_) (fun c136 => ?_)
                  · have c136 := wI_lt c136
                    refine lv_iinc (v := nI (k + 1)) (lv' := [(4, .int (nI (k + 1))), (5, .int (nI i - nI (gb k))), (3, .int (nI i)), (0, .ref mm), (1, .int (nI 1)), (2, .int (bI true))]) hx hb dX11_tell_181 hl (k := 1) rfl (su_inc _) (by decide) rfl (fun ls hl => ?_)
                    refine lv_goto (tgt := 100) hx hb dX11_tell_184 (by decide) ?_
                    obtain ⟨hP, hD⟩ := su_reI (q0 := 9) (va_up (su_fl (fwI (fiU opF f0F gb nb)) uf i) i (wI (pm (fiU opF f0F gb nb) gb i (k + 1)))) hP hD rfl (fun j _ => by first | rw [pm_0 c126] | rw [pm_1 (by omega)])
                    have hP : va_P D vwCl [(mm, .inr (10, [.ref nu, .ref zz, .ref on, .ref sm, .ref fw, .int tw])), (nu, .inl (cA, 2, .inr (.inr (.inr (.inr (rf2 na nc)))))), (na, .inl (cI, 20, .inl (fN g))), (nc, .inl (cI, 20, .inl (fN gb))), (zz, .inl (cI, 2, .inl (fN (sz2 n nb)))), (on, .inl (cB, 2, .inr (.inr (.inr (.inr (rf2 oa oc)))))), (oa, .inl (cL, 301, .inr (.inl u0))), (oc, .inl (cL, 301, .inr (.inl u1))), (sm, .inl (cL, 301, .inr (.inl us))), (fw, .inl (cI, 301, .inl (va_up (su_fl (fwI (fiU opF f0F gb nb)) uf i) i (wI (pm (fiU opF f0F gb nb) gb i (k + 1))))))] H := hP
                    have hD : va_D A [(mm, .inr (10, [.ref nu, .ref zz, .ref on, .ref sm, .ref fw, .int tw])), (nu, .inl (cA, 2, .inr (.inr (.inr (.inr (rf2 na nc)))))), (na, .inl (cI, 20, .inl (fN g))), (nc, .inl (cI, 20, .inl (fN gb))), (zz, .inl (cI, 2, .inl (fN (sz2 n nb)))), (on, .inl (cB, 2, .inr (.inr (.inr (.inr (rf2 oa oc)))))), (oa, .inl (cL, 301, .inr (.inl u0))), (oc, .inl (cL, 301, .inr (.inl u1))), (sm, .inl (cL, 301, .inr (.inl us))), (fw, .inl (cI, 301, .inl (va_up (su_fl (fwI (fiU opF f0F gb nb)) uf i) i (wI (pm (fiU opF f0F gb nb) gb i (k + 1))))))] := hD
                    exact ih100 (k + 1) (by omega) (by omega) _ _ hP hD hS _ (lv_sub hl [0, 2, 3, 4, 5] rfl)
                  · have c136 := wI_ge c136
                    have hsm := hsm c136
                    refine lv_aload_n hx hb dX11_tell_139 rfl (lv_at hl 3 rfl) ?_
                    refine va_get (D := D) (ci := 10) (v := .ref fw) (C := RX11) (T := TX11) (N := 6) hx hb hts in_X11 hown hK hP 0 rfl rfl 4 (by decide) k_1003 (fun _ h9 => h9) rfl dX11_tell_140 ?_
                    refine lv_iload_n hx hb dX11_tell_143 rfl (lv_at hl 2 rfl) ?_
                    refine su_iald hx hb hK hP 9 0 rfl rfl (i := i) (by omega) (by decide) (wI (pm (fiU opF f0F gb nb) gb i k)) (va_up_at) dX11_tell_144 ?_
                    refine lv_if_lt (tgt := 166) hx hb dX11_tell_145 (by decide) (fun c145 => ?_) (fun c145 => ?_)
                    · have c145 := wI_lt c145
                      refine lv_aload_n hx hb dX11_tell_166 rfl (lv_at hl 3 rfl) ?_
                      refine va_get (D := D) (ci := 10) (v := .ref fw) (C := RX11) (T := TX11) (N := 6) hx hb hts in_X11 hown hK hP 0 rfl rfl 4 (by decide) k_1003 (fun _ h9 => h9) rfl dX11_tell_167 ?_
                      refine lv_iload_n hx hb dX11_tell_170 rfl (lv_at hl 2 rfl) ?_
                      refine lv_aload_n hx hb dX11_tell_171 rfl (lv_at hl 3 rfl) ?_
                      refine va_get (D := D) (ci := 10) (v := .ref fw) (C := RX11) (T := TX11) (N := 6) hx hb hts in_X11 hown hK hP 0 rfl rfl 4 (by decide) k_1003 (fun _ h9 => h9) rfl dX11_tell_172 ?_
                      refine lv_iload hx hb dX11_tell_175 (lv_at hl 0 rfl) ?_
                      refine su_eqi (nI (i - gb k)) (pk_sub c126) ?_
                      refine su_iald hx hb hK hP 9 0 rfl rfl (i := (i - gb k)) (by omega) (by decide) (nI ((fiU opF f0F gb nb) (i - gb k))) (by rw [va_up_lo (by omega), su_flN (by omega), fwI_w, wI_n c136]) dX11_tell_177 ?_
                      refine lv_iconst (v := nI 1) hx hb dX11_tell_178 (by decide) ?_
                      refine lv_iadd hx hb dX11_tell_179 ?_
                      refine su_eqi (nI (((fiU opF f0F gb nb) (i - gb k)) + 1)) (nI_add _ _) ?_
                      refine su_iast hx hb hK hP hD hS 9 0 rfl rfl (i := i) (by omega) (by decide) (va_up (su_fl (fwI (fiU opF f0F gb nb)) uf i) i (wI (pm (fiU opF f0F gb nb) gb i (k + 1)))) (fun j _ => by rw [va_upS, pm_2 c126 (by omega), wI_n (by omega)]) dX11_tell_180 (fun H locs hP hD hS => ?_)
                      have hP : va_P D vwCl [(mm, .inr (10, [.ref nu, .ref zz, .ref on, .ref sm, .ref fw, .int tw])), (nu, .inl (cA, 2, .inr (.inr (.inr (.inr (rf2 na nc)))))), (na, .inl (cI, 20, .inl (fN g))), (nc, .inl (cI, 20, .inl (fN gb))), (zz, .inl (cI, 2, .inl (fN (sz2 n nb)))), (on, .inl (cB, 2, .inr (.inr (.inr (.inr (rf2 oa oc)))))), (oa, .inl (cL, 301, .inr (.inl u0))), (oc, .inl (cL, 301, .inr (.inl u1))), (sm, .inl (cL, 301, .inr (.inl us))), (fw, .inl (cI, 301, .inl (va_up (su_fl (fwI (fiU opF f0F gb nb)) uf i) i (wI (pm (fiU opF f0F gb nb) gb i (k + 1))))))] H := hP
                      have hD : va_D A [(mm, .inr (10, [.ref nu, .ref zz, .ref on, .ref sm, .ref fw, .int tw])), (nu, .inl (cA, 2, .inr (.inr (.inr (.inr (rf2 na nc)))))), (na, .inl (cI, 20, .inl (fN g))), (nc, .inl (cI, 20, .inl (fN gb))), (zz, .inl (cI, 2, .inl (fN (sz2 n nb)))), (on, .inl (cB, 2, .inr (.inr (.inr (.inr (rf2 oa oc)))))), (oa, .inl (cL, 301, .inr (.inl u0))), (oc, .inl (cL, 301, .inr (.inl u1))), (sm, .inl (cL, 301, .inr (.inl us))), (fw, .inl (cI, 301, .inl (va_up (su_fl (fwI (fiU opF f0F gb nb)) uf i) i (wI (pm (fiU opF f0F gb nb) gb i (k + 1))))))] := hD
                      refine lv_iinc (v := nI (k + 1)) (lv' := [(4, .int (nI (k + 1))), (5, .int (nI i - nI (gb k))), (3, .int (nI i)), (0, .ref mm), (1, .int (nI 1)), (2, .int (bI true))]) hx hb dX11_tell_181 hl (k := 1) rfl (su_inc _) (by decide) rfl (fun ls hl => ?_)
                      refine lv_goto (tgt := 100) hx hb dX11_tell_184 (by decide) ?_
                      exact ih100 (k + 1) (by omega) (by omega) _ _ hP hD hS _ (lv_sub hl [0, 2, 3, 4, 5] rfl)
                    · have c145 := wI_ge c145
                      refine lv_aload_n hx hb dX11_tell_148 rfl (lv_at hl 3 rfl) ?_
                      refine va_get (D := D) (ci := 10) (v := .ref fw) (C := RX11) (T := TX11) (N := 6) hx hb hts in_X11 hown hK hP 0 rfl rfl 4 (by decide) k_1003 (fun _ h9 => h9) rfl dX11_tell_149 ?_
                      refine lv_iload hx hb dX11_tell_152 (lv_at hl 0 rfl) ?_
                      refine su_eqi (nI (i - gb k)) (pk_sub c126) ?_
                      refine su_iald hx hb hK hP 9 0 rfl rfl (i := (i - gb k)) (by omega) (by decide) (nI ((fiU opF f0F gb nb) (i - gb k))) (by rw [va_up_lo (by omega), su_flN (by omega), fwI_w, wI_n c136]) dX11_tell_154 ?_
                      refine lv_iconst (v := nI 1) hx hb dX11_tell_155 (by decide) ?_
                      refine lv_iadd hx hb dX11_tell_156 ?_
                      refine su_eqi (nI (((fiU opF f0F gb nb) (i - gb k)) + 1)) (nI_add _ _) ?_
                      refine lv_aload_n hx hb dX11_tell_157 rfl (lv_at hl 3 rfl) ?_
                      refine va_get (D := D) (ci := 10) (v := .ref fw) (C := RX11) (T := TX11) (N := 6) hx hb hts in_X11 hown hK hP 0 rfl rfl 4 (by decide) k_1003 (fun _ h9 => h9) rfl dX11_tell_158 ?_
                      refine lv_iload_n hx hb dX11_tell_161 rfl (lv_at hl 2 rfl) ?_
                      refine su_iald hx hb hK hP 9 0 rfl rfl (i := i) (by omega) (by decide) (nI (pm (fiU opF f0F gb nb) gb i k)) (by rw [va_up_at, wI_n c145]) dX11_tell_162 ?_
                      refine lv_icmp_ge (tgt := 181) hx hb dX11_tell_163 (by decide) (fun c163 => ?_) (fun c163 => ?_)
                      · have c163 : pm (fiU opF f0F gb nb) gb i k ≤ ((fiU opF f0F gb nb) (i - gb k)) + 1 := su_ge (by omega) (by omega) c163
                        refine lv_iinc (v := nI (k + 1)) (lv' := [(4, .int (nI (k + 1))), (5, .int (nI i - nI (gb k))), (3, .int (nI i)), (0, .ref mm), (1, .int (nI 1)), (2, .int (bI true))]) hx hb dX11_tell_181 hl (k := 1) rfl (su_inc _) (by decide) rfl (fun ls hl => ?_)
                        refine lv_goto (tgt := 100) hx hb dX11_tell_184 (by decide) ?_
                        obtain ⟨hP, hD⟩ := su_reI (q0 := 9) (va_up (su_fl (fwI (fiU opF f0F gb nb)) uf i) i (wI (pm (fiU opF f0F gb nb) gb i (k + 1)))) hP hD rfl (fun j _ => by first | rw [pm_0 c126] | rw [pm_1 (by omega)])
                        have hP : va_P D vwCl [(mm, .inr (10, [.ref nu, .ref zz, .ref on, .ref sm, .ref fw, .int tw])), (nu, .inl (cA, 2, .inr (.inr (.inr (.inr (rf2 na nc)))))), (na, .inl (cI, 20, .inl (fN g))), (nc, .inl (cI, 20, .inl (fN gb))), (zz, .inl (cI, 2, .inl (fN (sz2 n nb)))), (on, .inl (cB, 2, .inr (.inr (.inr (.inr (rf2 oa oc)))))), (oa, .inl (cL, 301, .inr (.inl u0))), (oc, .inl (cL, 301, .inr (.inl u1))), (sm, .inl (cL, 301, .inr (.inl us))), (fw, .inl (cI, 301, .inl (va_up (su_fl (fwI (fiU opF f0F gb nb)) uf i) i (wI (pm (fiU opF f0F gb nb) gb i (k + 1))))))] H := hP
                        have hD : va_D A [(mm, .inr (10, [.ref nu, .ref zz, .ref on, .ref sm, .ref fw, .int tw])), (nu, .inl (cA, 2, .inr (.inr (.inr (.inr (rf2 na nc)))))), (na, .inl (cI, 20, .inl (fN g))), (nc, .inl (cI, 20, .inl (fN gb))), (zz, .inl (cI, 2, .inl (fN (sz2 n nb)))), (on, .inl (cB, 2, .inr (.inr (.inr (.inr (rf2 oa oc)))))), (oa, .inl (cL, 301, .inr (.inl u0))), (oc, .inl (cL, 301, .inr (.inl u1))), (sm, .inl (cL, 301, .inr (.inl us))), (fw, .inl (cI, 301, .inl (va_up (su_fl (fwI (fiU opF f0F gb nb)) uf i) i (wI (pm (fiU opF f0F gb nb) gb i (k + 1))))))] := hD
                        exact ih100 (k + 1) (by omega) (by omega) _ _ hP hD hS _ (lv_sub hl [0, 2, 3, 4, 5] rfl)
                      · have c163 : ((fiU opF f0F gb nb) (i - gb k)) + 1 < pm (fiU opF f0F gb nb) gb i k := su_nge (by omega) (by omega) c163
                        refine lv_aload_n hx hb dX11_tell_166 rfl (lv_at hl 3 rfl) ?_
                        refine va_get (D := D) (ci := 10) (v := .ref fw) (C := RX11) (T := TX11) (N := 6) hx hb hts in_X11 hown hK hP 0 rfl rfl 4 (by decide) k_1003 (fun _ h9 => h9) rfl dX11_tell_167 ?_
                        refine lv_iload_n hx hb dX11_tell_170 rfl (lv_at hl 2 rfl) ?_
                        refine lv_aload_n hx hb dX11_tell_171 rfl (lv_at hl 3 rfl) ?_
                        refine va_get (D := D) (ci := 10) (v := .ref fw) (C := RX11) (T := TX11) (N := 6) hx hb hts in_X11 hown hK hP 0 rfl rfl 4 (by decide) k_1003 (fun _ h9 => h9) rfl dX11_tell_172 ?_
                        refine lv_iload hx hb dX11_tell_175 (lv_at hl 0 rfl) ?_
                        refine su_eqi (nI (i - gb k)) (pk_sub c126) ?_
                        refine su_iald hx hb hK hP 9 0 rfl rfl (i := (i - gb k)) (by omega) (by decide) (nI ((fiU opF f0F gb nb) (i - gb k))) (by rw [va_up_lo (by omega), su_flN (by omega), fwI_w, wI_n c136]) dX11_tell_177 ?_
                        refine lv_iconst (v := nI 1) hx hb dX11_tell_178 (by decide) ?_
                        refine lv_iadd hx hb dX11_tell_179 ?_
                        refine su_eqi (nI (((fiU opF f0F gb nb) (i - gb k)) + 1)) (nI_add _ _) ?_
                        refine su_iast hx hb hK hP hD hS 9 0 rfl rfl (i := i) (by omega) (by decide) (va_up (su_fl (fwI (fiU opF f0F gb nb)) uf i) i (wI (pm (fiU opF f0F gb nb) gb i (k + 1)))) (fun j _ => by rw [va_upS, pm_2 c126 (by omega), wI_n (by omega)]) dX11_tell_180 (fun H locs hP hD hS => ?_)
                        have hP : va_P D vwCl [(mm, .inr (10, [.ref nu, .ref zz, .ref on, .ref sm, .ref fw, .int tw])), (nu, .inl (cA, 2, .inr (.inr (.inr (.inr (rf2 na nc)))))), (na, .inl (cI, 20, .inl (fN g))), (nc, .inl (cI, 20, .inl (fN gb))), (zz, .inl (cI, 2, .inl (fN (sz2 n nb)))), (on, .inl (cB, 2, .inr (.inr (.inr (.inr (rf2 oa oc)))))), (oa, .inl (cL, 301, .inr (.inl u0))), (oc, .inl (cL, 301, .inr (.inl u1))), (sm, .inl (cL, 301, .inr (.inl us))), (fw, .inl (cI, 301, .inl (va_up (su_fl (fwI (fiU opF f0F gb nb)) uf i) i (wI (pm (fiU opF f0F gb nb) gb i (k + 1))))))] H := hP
                        have hD : va_D A [(mm, .inr (10, [.ref nu, .ref zz, .ref on, .ref sm, .ref fw, .int tw])), (nu, .inl (cA, 2, .inr (.inr (.inr (.inr (rf2 na nc)))))), (na, .inl (cI, 20, .inl (fN g))), (nc, .inl (cI, 20, .inl (fN gb))), (zz, .inl (cI, 2, .inl (fN (sz2 n nb)))), (on, .inl (cB, 2, .inr (.inr (.inr (.inr (rf2 oa oc)))))), (oa, .inl (cL, 301, .inr (.inl u0))), (oc, .inl (cL, 301, .inr (.inl u1))), (sm, .inl (cL, 301, .inr (.inl us))), (fw, .inl (cI, 301, .inl (va_up (su_fl (fwI (fiU opF f0F gb nb)) uf i) i (wI (pm (fiU opF f0F gb nb) gb i (k + 1))))))] := hD
                        refine lv_iinc (v := nI (k + 1)) (lv' := [(4, .int (nI (k + 1))), (5, .int (nI i - nI (gb k))), (3, .int (nI i)), (0, .ref mm), (1, .int (nI 1)), (2, .int (bI true))]) hx hb dX11_tell_181 hl (k := 1) rfl (su_inc _) (by decide) rfl (fun ls hl => ?_)
                        refine lv_goto (tgt := 100) hx hb dX11_tell_184 (by decide) ?_
                        exact ih100 (k + 1) (by omega) (by omega) _ _ hP hD hS _ (lv_sub hl [0, 2, 3, 4, 5] rfl)
          exact loop100 ((nb - (0)) + 1) (0) (by omega) (by omega) _ _ hP hD hS _ (lv_sub hl [0, 1, 2, 3, 4] rfl)
    exact loop83 ((301 - (1)) + 1) (1) (by omega) (by omega) (by omega) _ _ hP hD hS _ (lv_sub hl [0, 1, 2, 3] rfl)
  · have c1 : true = false := bI_e c1
    exact absurd c1 (by decide)
