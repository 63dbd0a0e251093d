set_option maxHeartbeats 4000000 in
set_option maxRecDepth 100000 in
theorem k_wordAt (l : Launch) (D : va_G) (cI cL cZ : ClassId) (sz : Nat) (h : Nat) (w : Nat) (sh : Nat) (nw : Nat) (V : Nat) (x : Int32) (hnw : nw ≤ 99) (hV : V < 2 ^ (64 * nw)) :
    Met l yX0_wordAt (ws_ yX0_wordAt cX0_wordAt 2 (some .long)) { frames := 0, cells := 0, slots := 0, locals := 0 } (su_pre D (su_T cI cL cZ) sz [(h, .inr (0, [.ref w, .ref sh])), (w, .inl (cL, nw, .inr (.inl (bW V))))] [.ref h, .int x]) (su_ql D (va_A [(h, .inr (0, [.ref w, .ref sh])), (w, .inl (cL, nw, .inr (.inl (bW V))))] sz) (fun (r : Int64) (uu : Unit) => r = wA V x) (fun (uu : Unit) => [(h, .inr (0, [.ref w, .ref sh])), (w, .inl (cL, nw, .inr (.inl (bW V))))])) 0 0 (va_A [(h, .inr (0, [.ref w, .ref sh])), (w, .inl (cL, nw, .inr (.inl (bW V))))] sz) := by
  refine su_met (Qf := fun A => su_ql D A (fun (r : Int64) (uu : Unit) => r = wA V x) (fun (uu : Unit) => [(h, .inr (0, [.ref w, .ref sh])), (w, .inl (cL, nw, .inr (.inl (bW V))))])) (cc := cX0_wordAt) (maxL := 2) (ret := (some .long)) (by decide) (Nat.le_of_ble_eq_true rfl) ?_
  intro p e s m args below meth c R Q A H locs ls hx hb hr hlocks hin hml hown hts hN hP hK hD hA hS hRm hQ hl
  have hown : s.vm.findClass RX0 = some m.cls := hown
  have hl : lv_has ls 2 [(0, .ref h), (1, .int x)] := hl
  have hR3 : 0 ≤ R.cells := by rw [hRm]; exact Nat.le_of_ble_eq_true rfl
  have hR4 : 0 ≤ R.slots := by rw [hRm]; exact Nat.le_of_ble_eq_true rfl
  have k_92 := hts _ q_92
  refine lv_iload_n hx hb dX0_wordAt_0 rfl (lv_at hl 1 rfl) ?_
  refine lv_if_lt (tgt := 22) hx hb dX0_wordAt_1 (by decide) (fun c1 => ?_) (fun c1 => ?_)
  · refine lv_lconst (v := lN 0) hx hb dX0_wordAt_22 (by decide) ?_
    rw [hQ]
    exact su_el hx hb hr hlocks hS dX0_wordAt_23 () (by first | exact wA_neg c1 | exact wA_out hV hnw c1 c10) hP hD
  · refine lv_iload_n hx hb dX0_wordAt_4 rfl (lv_at hl 1 rfl) ?_
    refine lv_aload_n hx hb dX0_wordAt_5 rfl (lv_at hl 0 rfl) ?_
    refine va_get (D := D) (ci := 0) (v := .ref w) (C := RX0) (T := TX0) (N := 2) hx hb hts in_X0 hown hK hP 0 rfl rfl 0 (by decide) k_92 (fun _ h9 => h9) rfl dX0_wordAt_6 ?_
    refine va_alen hx hb hK hP 1 1 rfl rfl (v := nI nw) rfl dX0_wordAt_9 ?_
    refine lv_icmp_ge (tgt := 22) hx hb dX0_wordAt_10 (by decide) (fun c10 => ?_) (fun c10 => ?_)
    · refine lv_lconst (v := lN 0) hx hb dX0_wordAt_22 (by decide) ?_
      rw [hQ]
      exact su_el hx hb hr hlocks hS dX0_wordAt_23 () (by first | exact wA_neg c1 | exact wA_out hV hnw c1 c10) hP hD
    · obtain ⟨j, hj, rfl⟩ := nI_of c1
      have c10 : j < nw := su_nge (by omega) hj c10
      refine lv_aload_n hx hb dX0_wordAt_13 rfl (lv_at hl 0 rfl) ?_
      refine va_get (D := D) (ci := 0) (v := .ref w) (C := RX0) (T := TX0) (N := 2) hx hb hts in_X0 hown hK hP 0 rfl rfl 0 (by decide) k_92 (fun _ h9 => h9) rfl dX0_wordAt_14 ?_
      refine lv_iload_n hx hb dX0_wordAt_17 rfl (lv_at hl 1 rfl) ?_
      refine su_lald hx hb hK hP 1 1 rfl rfl (i := j) (by omega) (by omega) ((bW V) j) (rfl) dX0_wordAt_18 ?_
      refine lv_goto (tgt := 23) hx hb dX0_wordAt_19 (by decide) ?_
      rw [hQ]
      exact su_el hx hb hr hlocks hS dX0_wordAt_23 () ((wA_n (by omega)).symm) hP hD
set_option maxHeartbeats 4000000 in
set_option maxRecDepth 100000 in
theorem k_become (l : Launch) (D : va_G) (cI cL cZ : ClassId) (sz : Nat) (h : Nat) (w : Nat) (sh : Nat) (nw : Nat) (f0 : Nat → Int64) (fs : Nat → Int64) (v : Nat) (hnw : nw ≤ 99) (hv : v < 2) :
    Met l yX0_become (ws_ yX0_become cX0_become 3 none) { frames := 0, cells := 0, slots := 0, locals := 0 } (su_pre D (su_T cI cL cZ) sz [(h, .inr (0, [.ref w, .ref sh])), (w, .inl (cL, nw, .inr (.inl f0))), (sh, .inl (cL, nw, .inr (.inl fs)))] [.ref h, .int (nI v)]) (su_qv D (va_A [(h, .inr (0, [.ref w, .ref sh])), (w, .inl (cL, nw, .inr (.inl f0))), (sh, .inl (cL, nw, .inr (.inl fs)))] sz) (fun (uu : Unit) => True) (fun (uu : Unit) => [(h, .inr (0, [.ref w, .ref sh])), (w, .inl (cL, nw, .inr (.inl (bW v)))), (sh, .inl (cL, nw, .inr (.inl fs)))])) 0 0 (va_A [(h, .inr (0, [.ref w, .ref sh])), (w, .inl (cL, nw, .inr (.inl f0))), (sh, .inl (cL, nw, .inr (.inl fs)))] sz) := by
  refine su_met (Qf := fun A => su_qv D A (fun (uu : Unit) => True) (fun (uu : Unit) => [(h, .inr (0, [.ref w, .ref sh])), (w, .inl (cL, nw, .inr (.inl (bW v)))), (sh, .inl (cL, nw, .inr (.inl fs)))])) (cc := cX0_become) (maxL := 3) (ret := none) (by decide) (Nat.le_of_ble_eq_true rfl) ?_
  intro p e s m args below meth c R Q A H locs ls hx hb hr hlocks hin hml hown hts hN hP hK hD hA hS hRm hQ hl
  have hown : s.vm.findClass RX0 = some m.cls := hown
  have hl : lv_has ls 3 [(0, .ref h), (1, .int (nI v))] := hl
  have hR3 : 0 ≤ R.cells := by rw [hRm]; exact Nat.le_of_ble_eq_true rfl
  have hR4 : 0 ≤ R.slots := by rw [hRm]; exact Nat.le_of_ble_eq_true rfl
  have k_92 := hts _ q_92
  refine lv_iconst (v := nI 0) hx hb dX0_become_0 (by decide) ?_
  refine lv_istore_n (lv' := [(2, .int (nI 0)), (0, .ref h), (1, .int (nI v))]) hx hb dX0_become_1 rfl hl (by decide) rfl (fun ls hl => ?_)
  have loop2 : ∀ (k2 : Nat) (i : Nat), (i ≤ nw) → nw - i < k2 → ∀ (H : Heap) (locs : List Loc), va_P D vwCl [(h, .inr (0, [.ref w, .ref sh])), (w, .inl (cL, nw, .inr (.inl (su_fl (bW v) f0 i)))), (sh, .inl (cL, nw, .inr (.inl fs)))] H → va_D A [(h, .inr (0, [.ref w, .ref sh])), (w, .inl (cL, nw, .inr (.inl (su_fl (bW v) f0 i)))), (sh, .inl (cL, nw, .inr (.inl fs)))] → va_S A s.heap H locs → ∀ ls : Array Slot, lv_has ls 3 [(2, .int (nI i)), (0, .ref h), (1, .int (nI v))] → W p l e R s m args below meth c H locs 0 0 Q (F0 m 2 ls []) := by
    intro k2
    induction k2 with
    | zero => intro i hi hk; exact absurd hk (Nat.not_lt_zero _)
    | succ k2 ih2 =>
      intro i hi hk2 H locs hP hD hS ls hl
      refine lv_iload_n hx hb dX0_become_2 rfl (lv_at hl 0 rfl) ?_
      refine lv_aload_n hx hb dX0_become_3 rfl (lv_at hl 1 rfl) ?_
      refine va_get (D := D) (ci := 0) (v := .ref w) (C := RX0) (T := TX0) (N := 2) hx hb hts in_X0 hown hK hP 0 rfl rfl 0 (by decide) k_92 (fun _ h9 => h9) rfl dX0_become_4 ?_
      refine va_alen hx hb hK hP 1 1 rfl rfl (v := nI nw) rfl dX0_become_7 ?_
      refine lv_icmp_ge (tgt := 33) hx hb dX0_become_8 (by decide) (fun c8 => ?_) (fun c8 => ?_)
      · have c8 : nw ≤ i := su_ge (by omega) (by omega) c8
        obtain ⟨hP, hD⟩ := su_reL (q0 := 1) (bW v) hP hD rfl (fun j hj => su_flN (by omega))
        have hP : va_P D vwCl [(h, .inr (0, [.ref w, .ref sh])), (w, .inl (cL, nw, .inr (.inl (bW v)))), (sh, .inl (cL, nw, .inr (.inl fs)))] H := hP
        have hD : va_D A [(h, .inr (0, [.ref w, .ref sh])), (w, .inl (cL, nw, .inr (.inl (bW v)))), (sh, .inl (cL, nw, .inr (.inl fs)))] := hD
        rw [hQ]
        exact su_ev hx hb hr hlocks hS dX0_become_33 () (trivial) hP hD
      · have c8 : i < nw := su_nge (by omega) (by omega) c8
        refine lv_aload_n hx hb dX0_become_11 rfl (lv_at hl 1 rfl) ?_
        refine va_get (D := D) (ci := 0) (v := .ref w) (C := RX0) (T := TX0) (N := 2) hx hb hts in_X0 hown hK hP 0 rfl rfl 0 (by decide) k_92 (fun _ h9 => h9) rfl dX0_become_12 ?_
        refine lv_iload_n hx hb dX0_become_15 rfl (lv_at hl 0 rfl) ?_
        refine lv_iload_n hx hb dX0_become_16 rfl (lv_at hl 0 rfl) ?_
        refine lv_if_ne (tgt := 25) hx hb dX0_become_17 (by decide) (fun c17 => ?_) (fun c17 => ?_)
        · have c17 : i ≠ 0 := su_nz c17
          refine lv_lconst (v := lN 0) hx hb dX0_become_25 (by decide) ?_
          refine su_last hx hb hK hP hD hS 1 1 rfl rfl (i := i) (by omega) (by omega) (va_up (su_fl (bW v) f0 i) i (lN 0)) (fun _ _ => rfl) dX0_become_26 (fun H locs hP hD hS => ?_)
          have hP : va_P D vwCl [(h, .inr (0, [.ref w, .ref sh])), (w, .inl (cL, nw, .inr (.inl (va_up (su_fl (bW v) f0 i) i (lN 0))))), (sh, .inl (cL, nw, .inr (.inl fs)))] H := hP
          have hD : va_D A [(h, .inr (0, [.ref w, .ref sh])), (w, .inl (cL, nw, .inr (.inl (va_up (su_fl (bW v) f0 i) i (lN 0))))), (sh, .inl (cL, nw, .inr (.inl fs)))] := hD
          refine lv_iinc (v := nI (i + 1)) (lv' := [(2, .int (nI (i + 1))), (0, .ref h), (1, .int (nI v))]) hx hb dX0_become_27 hl (k := 0) rfl (su_inc _) (by decide) rfl (fun ls hl => ?_)
          refine lv_goto (tgt := 2) hx hb dX0_become_30 (by decide) ?_
          obtain ⟨hP, hD⟩ := su_reL (q0 := 1) (su_fl (bW v) f0 (i + 1)) hP hD rfl (fun j _ => su_flS (by first | (subst c17; exact bW_be0 v) | exact bW_beS (by omega) c17) j)
          have hP : va_P D vwCl [(h, .inr (0, [.ref w, .ref sh])), (w, .inl (cL, nw, .inr (.inl (su_fl (bW v) f0 (i + 1))))), (sh, .inl (cL, nw, .inr (.inl fs)))] H := hP
          have hD : va_D A [(h, .inr (0, [.ref w, .ref sh])), (w, .inl (cL, nw, .inr (.inl (su_fl (bW v) f0 (i + 1))))), (sh, .inl (cL, nw, .inr (.inl fs)))] := hD
          exact ih2 (i + 1) (by omega) (by omega) _ _ hP hD hS _ (lv_sub hl [0, 1, 2] rfl)
        · have c17 : i = 0 := su_z (by omega) c17
          refine lv_iload_n hx hb dX0_become_20 rfl (lv_at hl 2 rfl) ?_
          refine lv_i2l (v := lN v) hx hb dX0_become_21 (nI_l (by omega)) ?_
          refine lv_goto (tgt := 26) hx hb dX0_become_22 (by decide) ?_
          refine su_last hx hb hK hP hD hS 1 1 rfl rfl (i := i) (by omega) (by omega) (va_up (su_fl (bW v) f0 i) i (lN v)) (fun _ _ => rfl) dX0_become_26 (fun H locs hP hD hS => ?_)
          have hP : va_P D vwCl [(h, .inr (0, [.ref w, .ref sh])), (w, .inl (cL, nw, .inr (.inl (va_up (su_fl (bW v) f0 i) i (lN v))))), (sh, .inl (cL, nw, .inr (.inl fs)))] H := hP
          have hD : va_D A [(h, .inr (0, [.ref w, .ref sh])), (w, .inl (cL, nw, .inr (.inl (va_up (su_fl (bW v) f0 i) i (lN v))))), (sh, .inl (cL, nw, .inr (.inl fs)))] := hD
          refine lv_iinc (v := nI (i + 1)) (lv' := [(2, .int (nI (i + 1))), (0, .ref h), (1, .int (nI v))]) hx hb dX0_become_27 hl (k := 0) rfl (su_inc _) (by decide) rfl (fun ls hl => ?_)
          refine lv_goto (tgt := 2) hx hb dX0_become_30 (by decide) ?_
          obtain ⟨hP, hD⟩ := su_reL (q0 := 1) (su_fl (bW v) f0 (i + 1)) hP hD rfl (fun j _ => su_flS (by first | (subst c17; exact bW_be0 v) | exact bW_beS (by omega) c17) j)
          have hP : va_P D vwCl [(h, .inr (0, [.ref w, .ref sh])), (w, .inl (cL, nw, .inr (.inl (su_fl (bW v) f0 (i + 1))))), (sh, .inl (cL, nw, .inr (.inl fs)))] H := hP
          have hD : va_D A [(h, .inr (0, [.ref w, .ref sh])), (w, .inl (cL, nw, .inr (.inl (su_fl (bW v) f0 (i + 1))))), (sh, .inl (cL, nw, .inr (.inl fs)))] := hD
          exact ih2 (i + 1) (by omega) (by omega) _ _ hP hD hS _ (lv_sub hl [0, 1, 2] rfl)
  obtain ⟨hP, hD⟩ := su_reL (q0 := 1) (su_fl (bW v) f0 (0)) hP hD rfl (fun j _ => su_fl0 j)
  have hP : va_P D vwCl [(h, .inr (0, [.ref w, .ref sh])), (w, .inl (cL, nw, .inr (.inl (su_fl (bW v) f0 (0))))), (sh, .inl (cL, nw, .inr (.inl fs)))] H := hP
  have hD : va_D A [(h, .inr (0, [.ref w, .ref sh])), (w, .inl (cL, nw, .inr (.inl (su_fl (bW v) f0 (0))))), (sh, .inl (cL, nw, .inr (.inl fs)))] := hD
  exact loop2 ((nw - (0)) + 1) (0) (by omega) (by omega) _ _ hP hD hS _ (lv_sub hl [0, 1, 2] rfl)
set_option maxHeartbeats 4000000 in
set_option maxRecDepth 100000 in
theorem k_setBelow (l : Launch) (D : va_G) (cI cL cZ : ClassId) (sz : Nat) (h : Nat) (w : Nat) (sh : Nat) (f0 : Nat → Int64) (fs : Nat → Int64) :
    Met l yX0_setBelow (ws_ yX0_setBelow cX0_setBelow 4 none) { frames := 0, cells := 0, slots := 0, locals := 0 } (su_pre D (su_T cI cL cZ) sz [(h, .inr (0, [.ref w, .ref sh])), (w, .inl (cL, 5, .inr (.inl f0))), (sh, .inl (cL, 5, .inr (.inl fs)))] [.ref h, .int (nI 301)]) (su_qv D (va_A [(h, .inr (0, [.ref w, .ref sh])), (w, .inl (cL, 5, .inr (.inl f0))), (sh, .inl (cL, 5, .inr (.inl fs)))] sz) (fun (uu : Unit) => True) (fun (uu : Unit) => [(h, .inr (0, [.ref w, .ref sh])), (w, .inl (cL, 5, .inr (.inl (bW (2 ^ 301 - 1))))), (sh, .inl (cL, 5, .inr (.inl fs)))])) 0 0 (va_A [(h, .inr (0, [.ref w, .ref sh])), (w, .inl (cL, 5, .inr (.inl f0))), (sh, .inl (cL, 5, .inr (.inl fs)))] sz) := by
  refine su_met (Qf := fun A => su_qv D A (fun (uu : Unit) => True) (fun (uu : Unit) => [(h, .inr (0, [.ref w, .ref sh])), (w, .inl (cL, 5, .inr (.inl (bW (2 ^ 301 - 1))))), (sh, .inl (cL, 5, .inr (.inl fs)))])) (cc := cX0_setBelow) (maxL := 4) (ret := none) (by decide) (Nat.le_of_ble_eq_true rfl) ?_
  intro p e s m args below meth c R Q A H locs ls hx hb hr hlocks hin hml hown hts hN hP hK hD hA hS hRm hQ hl
  have hown : s.vm.findClass RX0 = some m.cls := hown
  have hl : lv_has ls 4 [(0, .ref h), (1, .int (nI 301))] := hl
  have hR3 : 0 ≤ R.cells := by rw [hRm]; exact Nat.le_of_ble_eq_true rfl
  have hR4 : 0 ≤ R.slots := by rw [hRm]; exact Nat.le_of_ble_eq_true rfl
  have k_92 := hts _ q_92
  have k_104 := hts _ q_104
  refine lv_iconst (v := nI 0) hx hb dX0_setBelow_0 (by decide) ?_
  refine lv_istore_n (lv' := [(2, .int (nI 0)), (0, .ref h), (1, .int (nI 301))]) hx hb dX0_setBelow_1 rfl hl (by decide) rfl (fun ls hl => ?_)
  have loop2 : ∀ (k2 : Nat) (i : Nat), (i ≤ 5) → 5 - i < k2 → ∀ (H : Heap) (locs : List Loc), va_P D vwCl [(h, .inr (0, [.ref w, .ref sh])), (w, .inl (cL, 5, .inr (.inl (su_fl (bW (2 ^ 301 - 1)) f0 i)))), (sh, .inl (cL, 5, .inr (.inl fs)))] H → va_D A [(h, .inr (0, [.ref w, .ref sh])), (w, .inl (cL, 5, .inr (.inl (su_fl (bW (2 ^ 301 - 1)) f0 i)))), (sh, .inl (cL, 5, .inr (.inl fs)))] → va_S A s.heap H locs → ∀ ls : Array Slot, lv_has ls 4 [(2, .int (nI i)), (0, .ref h), (1, .int (nI 301))] → W p l e R s m args below meth c H locs 0 0 Q (F0 m 2 ls []) := by
    intro k2
    induction k2 with
    | zero => intro i hi hk; exact absurd hk (Nat.not_lt_zero _)
    | succ k2 ih2 =>
      intro i hi hk2 H locs hP hD hS ls hl
      refine lv_iload_n hx hb dX0_setBelow_2 rfl (lv_at hl 0 rfl) ?_
      refine lv_aload_n hx hb dX0_setBelow_3 rfl (lv_at hl 1 rfl) ?_
      refine va_get (D := D) (ci := 0) (v := .ref w) (C := RX0) (T := TX0) (N := 2) hx hb hts in_X0 hown hK hP 0 rfl rfl 0 (by decide) k_92 (fun _ h9 => h9) rfl dX0_setBelow_4 ?_
      refine va_alen hx hb hK hP 1 1 rfl rfl (v := nI 5) rfl dX0_setBelow_7 ?_
      refine lv_icmp_ge (tgt := 55) hx hb dX0_setBelow_8 (by decide) (fun c8 => ?_) (fun c8 => ?_)
      · have c8 : 5 ≤ i := su_ge (by omega) (by omega) c8
        obtain ⟨hP, hD⟩ := su_reL (q0 := 1) (bW (2 ^ 301 - 1)) hP hD rfl (fun j hj => su_flN (by omega))
        have hP : va_P D vwCl [(h, .inr (0, [.ref w, .ref sh])), (w, .inl (cL, 5, .inr (.inl (bW (2 ^ 301 - 1))))), (sh, .inl (cL, 5, .inr (.inl fs)))] H := hP
        have hD : va_D A [(h, .inr (0, [.ref w, .ref sh])), (w, .inl (cL, 5, .inr (.inl (bW (2 ^ 301 - 1))))), (sh, .inl (cL, 5, .inr (.inl fs)))] := hD
        rw [hQ]
        exact su_ev hx hb hr hlocks hS dX0_setBelow_55 () (trivial) hP hD
      · have c8 : i < 5 := su_nge (by omega) (by omega) c8
        refine lv_iload_n hx hb dX0_setBelow_11 rfl (lv_at hl 2 rfl) ?_
        refine lv_iload_n hx hb dX0_setBelow_12 rfl (lv_at hl 0 rfl) ?_
        refine lv_bipush (v := nI 64) hx hb dX0_setBelow_13 (by decide) ?_
        refine lv_imul hx hb dX0_setBelow_15 ?_
        refine su_eqi (nI (i * 64)) (pk_mul _ _) ?_
        refine lv_isub hx hb dX0_setBelow_16 ?_
        refine su_eqi (nI (301 - (i * 64))) (pk_sub (by omega)) ?_
        refine lv_istore_n (lv' := [(3, .int (nI (301 - (i * 64)))), (2, .int (nI i)), (0, .ref h), (1, .int (nI 301))]) hx hb dX0_setBelow_17 rfl hl (by decide) rfl (fun ls hl => ?_)
        refine lv_aload_n hx hb dX0_setBelow_18 rfl (lv_at hl 2 rfl) ?_
        refine va_get (D := D) (ci := 0) (v := .ref w) (C := RX0) (T := TX0) (N := 2) hx hb hts in_X0 hown hK hP 0 rfl rfl 0 (by decide) k_92 (fun _ h9 => h9) rfl dX0_setBelow_19 ?_
        refine lv_iload_n hx hb dX0_setBelow_22 rfl (lv_at hl 1 rfl) ?_
        refine lv_iload_n hx hb dX0_setBelow_23 rfl (lv_at hl 0 rfl) ?_
        refine lv_bipush (v := nI 64) hx hb dX0_setBelow_24 (by decide) ?_
        refine lv_icmp_lt (tgt := 35) hx hb dX0_setBelow_26 (by decide) (fun c26 => ?_) (fun c26 => ?_)
        · have c26 : 301 - (i * 64) < 64 := su_lt (by omega) (by omega) c26
          refine lv_iload_n hx hb dX0_setBelow_35 rfl (lv_at hl 0 rfl) ?_
          refine lv_if_le (tgt := 47) hx hb dX0_setBelow_36 (by decide) (fun c36 => ?_) (fun c36 => ?_)
          · have c36 : 301 - (i * 64) = 0 := su_le0 (by omega) c36
            refine lv_lconst (v := lN 0) hx hb dX0_setBelow_47 (by decide) ?_
            refine su_last hx hb hK hP hD hS 1 1 rfl rfl (i := i) (by omega) (by decide) (va_up (su_fl (bW (2 ^ 301 - 1)) f0 i) i (lN 0)) (fun _ _ => rfl) dX0_setBelow_48 (fun H locs hP hD hS => ?_)
            have hP : va_P D vwCl [(h, .inr (0, [.ref w, .ref sh])), (w, .inl (cL, 5, .inr (.inl (va_up (su_fl (bW (2 ^ 301 - 1)) f0 i) i (lN 0))))), (sh, .inl (cL, 5, .inr (.inl fs)))] H := hP
            have hD : va_D A [(h, .inr (0, [.ref w, .ref sh])), (w, .inl (cL, 5, .inr (.inl (va_up (su_fl (bW (2 ^ 301 - 1)) f0 i) i (lN 0))))), (sh, .inl (cL, 5, .inr (.inl fs)))] := hD
            refine lv_iinc (v := nI (i + 1)) (lv' := [(2, .int (nI (i + 1))), (3, .int (nI (301 - (i * 64)))), (0, .ref h), (1, .int (nI 301))]) hx hb dX0_setBelow_49 hl (k := 1) rfl (su_inc _) (by decide) rfl (fun ls hl => ?_)
            refine lv_goto (tgt := 2) hx hb dX0_setBelow_52 (by decide) ?_
            obtain ⟨hP, hD⟩ := su_reL (q0 := 1) (su_fl (bW (2 ^ 301 - 1)) f0 (i + 1)) hP hD rfl (fun j _ => su_flS (by have h5 : i = 0 ∨ i = 1 ∨ i = 2 ∨ i = 3 ∨ i = 4 := (by omega); rcases h5 with rfl | rfl | rfl | rfl | rfl <;> first | decide +kernel | (exfalso; omega)) j)
            have hP : va_P D vwCl [(h, .inr (0, [.ref w, .ref sh])), (w, .inl (cL, 5, .inr (.inl (su_fl (bW (2 ^ 301 - 1)) f0 (i + 1))))), (sh, .inl (cL, 5, .inr (.inl fs)))] H := hP
            have hD : va_D A [(h, .inr (0, [.ref w, .ref sh])), (w, .inl (cL, 5, .inr (.inl (su_fl (bW (2 ^ 301 - 1)) f0 (i + 1))))), (sh, .inl (cL, 5, .inr (.inl fs)))] := hD
            exact ih2 (i + 1) (by omega) (by omega) _ _ hP hD hS _ (lv_sub hl [0, 2, 3] rfl)
          · have c36 : 0 < 301 - (i * 64) := su_nle0 c36
            refine lv_lconst (v := lN 1) hx hb dX0_setBelow_39 (by decide) ?_
            refine lv_iload_n hx hb dX0_setBelow_40 rfl (lv_at hl 0 rfl) ?_
            refine lv_lshl (v := (lN 1) <<< ((nI (301 - (i * 64))).toInt64 &&& 63)) hx hb dX0_setBelow_41 (rfl) ?_
            refine lv_lconst (v := lN 1) hx hb dX0_setBelow_42 (by decide) ?_
            refine lv_lsub hx hb dX0_setBelow_43 ?_
            refine su_eql (((lN 1) <<< ((nI (301 - (i * 64))).toInt64 &&& 63)) - (lN 1)) (rfl) ?_
            refine lv_goto (tgt := 48) hx hb dX0_setBelow_44 (by decide) ?_
            refine su_last hx hb hK hP hD hS 1 1 rfl rfl (i := i) (by omega) (by decide) (va_up (su_fl (bW (2 ^ 301 - 1)) f0 i) i (((lN 1) <<< ((nI (301 - (i * 64))).toInt64 &&& 63)) - (lN 1))) (fun _ _ => rfl) dX0_setBelow_48 (fun H locs hP hD hS => ?_)
            have hP : va_P D vwCl [(h, .inr (0, [.ref w, .ref sh])), (w, .inl (cL, 5, .inr (.inl (va_up (su_fl (bW (2 ^ 301 - 1)) f0 i) i (((lN 1) <<< ((nI (301 - (i * 64))).toInt64 &&& 63)) - (lN 1)))))), (sh, .inl (cL, 5, .inr (.inl fs)))] H := hP
            have hD : va_D A [(h, .inr (0, [.ref w, .ref sh])), (w, .inl (cL, 5, .inr (.inl (va_up (su_fl (bW (2 ^ 301 - 1)) f0 i) i (((lN 1) <<< ((nI (301 - (i * 64))).toInt64 &&& 63)) - (lN 1)))))), (sh, .inl (cL, 5, .inr (.inl fs)))] := hD
            refine lv_iinc (v := nI (i + 1)) (lv' := [(2, .int (nI (i + 1))), (3, .int (nI (301 - (i * 64)))), (0, .ref h), (1, .int (nI 301))]) hx hb dX0_setBelow_49 hl (k := 1) rfl (su_inc _) (by decide) rfl (fun ls hl => ?_)
            refine lv_goto (tgt := 2) hx hb dX0_setBelow_52 (by decide) ?_
            obtain ⟨hP, hD⟩ := su_reL (q0 := 1) (su_fl (bW (2 ^ 301 - 1)) f0 (i + 1)) hP hD rfl (fun j _ => su_flS (by have h5 : i = 0 ∨ i = 1 ∨ i = 2 ∨ i = 3 ∨ i = 4 := (by omega); rcases h5 with rfl | rfl | rfl | rfl | rfl <;> first | decide +kernel | (exfalso; omega)) j)
            have hP : va_P D vwCl [(h, .inr (0, [.ref w, .ref sh])), (w, .inl (cL, 5, .inr (.inl (su_fl (bW (2 ^ 301 - 1)) f0 (i + 1))))), (sh, .inl (cL, 5, .inr (.inl fs)))] H := hP
            have hD : va_D A [(h, .inr (0, [.ref w, .ref sh])), (w, .inl (cL, 5, .inr (.inl (su_fl (bW (2 ^ 301 - 1)) f0 (i + 1))))), (sh, .inl (cL, 5, .inr (.inl fs)))] := hD
            exact ih2 (i + 1) (by omega) (by omega) _ _ hP hD hS _ (lv_sub hl [0, 2, 3] rfl)
        · have c26 : 64 ≤ 301 - (i * 64) := su_nlt (by omega) (by omega) c26
          refine lv_ldc2 hx hb hown k_104 dX0_setBelow_29 ?_
          refine lv_goto (tgt := 48) hx hb dX0_setBelow_32 (by decide) ?_
          refine su_last hx hb hK hP hD hS 1 1 rfl rfl (i := i) (by omega) (by decide) (va_up (su_fl (bW (2 ^ 301 - 1)) f0 i) i (-1)) (fun _ _ => rfl) dX0_setBelow_48 (fun H locs hP hD hS => ?_)
          have hP : va_P D vwCl [(h, .inr (0, [.ref w, .ref sh])), (w, .inl (cL, 5, .inr (.inl (va_up (su_fl (bW (2 ^ 301 - 1)) f0 i) i (-1))))), (sh, .inl (cL, 5, .inr (.inl fs)))] H := hP
          have hD : va_D A [(h, .inr (0, [.ref w, .ref sh])), (w, .inl (cL, 5, .inr (.inl (va_up (su_fl (bW (2 ^ 301 - 1)) f0 i) i (-1))))), (sh, .inl (cL, 5, .inr (.inl fs)))] := hD
          refine lv_iinc (v := nI (i + 1)) (lv' := [(2, .int (nI (i + 1))), (3, .int (nI (301 - (i * 64)))), (0, .ref h), (1, .int (nI 301))]) hx hb dX0_setBelow_49 hl (k := 1) rfl (su_inc _) (by decide) rfl (fun ls hl => ?_)
          refine lv_goto (tgt := 2) hx hb dX0_setBelow_52 (by decide) ?_
          obtain ⟨hP, hD⟩ := su_reL (q0 := 1) (su_fl (bW (2 ^ 301 - 1)) f0 (i + 1)) hP hD rfl (fun j _ => su_flS (by have h5 : i = 0 ∨ i = 1 ∨ i = 2 ∨ i = 3 ∨ i = 4 := (by omega); rcases h5 with rfl | rfl | rfl | rfl | rfl <;> first | decide +kernel | (exfalso; omega)) j)
          have hP : va_P D vwCl [(h, .inr (0, [.ref w, .ref sh])), (w, .inl (cL, 5, .inr (.inl (su_fl (bW (2 ^ 301 - 1)) f0 (i + 1))))), (sh, .inl (cL, 5, .inr (.inl fs)))] H := hP
          have hD : va_D A [(h, .inr (0, [.ref w, .ref sh])), (w, .inl (cL, 5, .inr (.inl (su_fl (bW (2 ^ 301 - 1)) f0 (i + 1))))), (sh, .inl (cL, 5, .inr (.inl fs)))] := hD
          exact ih2 (i + 1) (by omega) (by omega) _ _ hP hD hS _ (lv_sub hl [0, 2, 3] rfl)
  obtain ⟨hP, hD⟩ := su_reL (q0 := 1) (su_fl (bW (2 ^ 301 - 1)) f0 (0)) hP hD rfl (fun j _ => su_fl0 j)
  have hP : va_P D vwCl [(h, .inr (0, [.ref w, .ref sh])), (w, .inl (cL, 5, .inr (.inl (su_fl (bW (2 ^ 301 - 1)) f0 (0))))), (sh, .inl (cL, 5, .inr (.inl fs)))] H := hP
  have hD : va_D A [(h, .inr (0, [.ref w, .ref sh])), (w, .inl (cL, 5, .inr (.inl (su_fl (bW (2 ^ 301 - 1)) f0 (0))))), (sh, .inl (cL, 5, .inr (.inl fs)))] := hD
  exact loop2 ((5 - (0)) + 1) (0) (by omega) (by omega) _ _ hP hD hS _ (lv_sub hl [0, 1, 2] rfl)
set_option maxHeartbeats 4000000 in
set_option maxRecDepth 100000 in
theorem k_shiftS (l : Launch) (D : va_G) (cI cL cZ : ClassId) (sz : Nat) (h : Nat) (w : Nat) (sh : Nat) (nw : Nat) (V : Nat) (fs : Nat → Int64) (x : Int32) (z : Int) (hnw : nw ≤ 99) (hV : V < 2 ^ (64 * nw)) (hz : x.toInt = z) (hz1 : -1048576 < z) (hz2 : z < 1048576) :
    Met l yX0_shift (ws_ yX0_shift cX0_shift 10 none) { frames := 1, cells := 0, slots := 0, locals := 30 } (su_pre D (su_T cI cL cZ) sz [(h, .inr (0, [.ref w, .ref sh])), (w, .inl (cL, nw, .inr (.inl (bW V)))), (sh, .inl (cL, nw, .inr (.inl fs)))] [.ref h, .ref h, .int x]) (su_qv D (va_A [(h, .inr (0, [.ref w, .ref sh])), (w, .inl (cL, nw, .inr (.inl (bW V)))), (sh, .inl (cL, nw, .inr (.inl fs)))] sz) (fun (uu : Unit) => True) (fun (uu : Unit) => [(h, .inr (0, [.ref w, .ref sh])), (w, .inl (cL, nw, .inr (.inl (bW V)))), (sh, .inl (cL, nw, .inr (.inl (bW (shz V z)))))])) 0 0 (va_A [(h, .inr (0, [.ref w, .ref sh])), (w, .inl (cL, nw, .inr (.inl (bW V)))), (sh, .inl (cL, nw, .inr (.inl fs)))] sz) := by
  refine su_met (Qf := fun A => su_qv D A (fun (uu : Unit) => True) (fun (uu : Unit) => [(h, .inr (0, [.ref w, .ref sh])), (w, .inl (cL, nw, .inr (.inl (bW V)))), (sh, .inl (cL, nw, .inr (.inl (bW (shz V z)))))])) (cc := cX0_shift) (maxL := 10) (ret := none) (by decide) (Nat.le_of_ble_eq_true rfl) ?_
  intro p e s m args below meth c R Q A H locs ls hx hb hr hlocks hin hml hown hts hN hP hK hD hA hS hRm hQ hl
  have hown : s.vm.findClass RX0 = some m.cls := hown
  have hl : lv_has ls 10 [(0, .ref h), (1, .ref h), (2, .int x)] := hl
  have hR1 : 1 ≤ R.frames := by rw [hRm]; exact Nat.le_of_ble_eq_true rfl
  have hR2 : 30 ≤ R.locals := by rw [hRm]; exact Nat.le_of_ble_eq_true rfl
  have hR3 : 0 ≤ R.cells := by rw [hRm]; exact Nat.le_of_ble_eq_true rfl
  have hR4 : 0 ≤ R.slots := by rw [hRm]; exact Nat.le_of_ble_eq_true rfl
  have k_93 := hts _ q_93
  refine lv_iload_n hx hb dX0_shift_0 rfl (lv_at hl 2 rfl) ?_
  refine lv_bipush (v := nI 6) hx hb dX0_shift_1 (by decide) ?_
  refine lv_ishr hx hb dX0_shift_3 ?_
  refine lv_istore_n (lv' := [(3, .int (x >>> ((nI 6) &&& 31))), (0, .ref h), (1, .ref h), (2, .int x)]) hx hb dX0_shift_4 rfl hl (by decide) rfl (fun ls hl => ?_)
  refine lv_iload_n hx hb dX0_shift_5 rfl (lv_at hl 3 rfl) ?_
  refine lv_bipush (v := nI 63) hx hb dX0_shift_6 (by decide) ?_
  refine lv_iand hx hb dX0_shift_8 ?_
  refine lv_istore (lv' := [(4, .int (x &&& (nI 63))), (3, .int (x >>> ((nI 6) &&& 31))), (0, .ref h), (1, .ref h), (2, .int x)]) hx hb dX0_shift_9 hl (by decide) rfl (fun ls hl => ?_)
  refine lv_iconst (v := nI 0) hx hb dX0_shift_11 (by decide) ?_
  refine lv_istore (lv' := [(5, .int (nI 0)), (4, .int (x &&& (nI 63))), (3, .int (x >>> ((nI 6) &&& 31))), (0, .ref h), (1, .ref h), (2, .int x)]) hx hb dX0_shift_12 hl (by decide) rfl (fun ls hl => ?_)
  have loop14 : ∀ (k14 : Nat) (i : Nat) (f : Nat → Int64), (i ≤ nw) → (∀ j, j < i → f j = shw V x j) → nw - i < k14 → ∀ (H : Heap) (locs : List Loc), va_P D vwCl [(h, .inr (0, [.ref w, .ref sh])), (w, .inl (cL, nw, .inr (.inl (bW V)))), (sh, .inl (cL, nw, .inr (.inl f)))] H → va_D A [(h, .inr (0, [.ref w, .ref sh])), (w, .inl (cL, nw, .inr (.inl (bW V)))), (sh, .inl (cL, nw, .inr (.inl f)))] → va_S A s.heap H locs → ∀ ls : Array Slot, lv_has ls 10 [(5, .int (nI i)), (4, .int (x &&& (nI 63))), (3, .int (x >>> ((nI 6) &&& 31))), (0, .ref h), (1, .ref h), (2, .int x)] → W p l e R s m args below meth c H locs 0 0 Q (F0 m 14 ls []) := by
    intro k14
    induction k14 with
    | zero => intro i f hi hf hk; exact absurd hk (Nat.not_lt_zero _)
    | succ k14 ih14 =>
      intro i f hi hf hk14 H locs hP hD hS ls hl
      refine lv_iload hx hb dX0_shift_14 (lv_at hl 0 rfl) ?_
      refine lv_aload_n hx hb dX0_shift_16 rfl (lv_at hl 3 rfl) ?_
      refine va_get (D := D) (ci := 0) (v := .ref sh) (C := RX0) (T := TX0) (N := 2) hx hb hts in_X0 hown hK hP 0 rfl rfl 1 (by decide) k_93 (fun _ h9 => h9) rfl dX0_shift_17 ?_
      refine va_alen hx hb hK hP 2 1 rfl rfl (v := nI nw) rfl dX0_shift_20 ?_
      refine lv_icmp_ge (tgt := 75) hx hb dX0_shift_21 (by decide) (fun c21 => ?_) (fun c21 => ?_)
      · have c21 : nw ≤ i := su_ge (by omega) (by omega) c21
        obtain ⟨hP, hD⟩ := su_reL (q0 := 2) (bW (shz V z)) hP hD rfl (fun j hj => (hf j (by omega)).trans (shw_eq hz hz1 hz2 (by omega)))
        have hP : va_P D vwCl [(h, .inr (0, [.ref w, .ref sh])), (w, .inl (cL, nw, .inr (.inl (bW V)))), (sh, .inl (cL, nw, .inr (.inl (bW (shz V z)))))] H := hP
        have hD : va_D A [(h, .inr (0, [.ref w, .ref sh])), (w, .inl (cL, nw, .inr (.inl (bW V)))), (sh, .inl (cL, nw, .inr (.inl (bW (shz V z)))))] := hD
        rw [hQ]
        exact su_ev hx hb hr hlocks hS dX0_shift_75 () (trivial) hP hD
      · have c21 : i < nw := su_nge (by omega) (by omega) c21
        refine lv_aload_n hx hb dX0_shift_24 rfl (lv_at hl 4 rfl) ?_
        refine lv_iload hx hb dX0_shift_25 (lv_at hl 0 rfl) ?_
        refine lv_iload_n hx hb dX0_shift_27 rfl (lv_at hl 2 rfl) ?_
        refine lv_isub hx hb dX0_shift_28 ?_
        refine su_cl (wr := [(sh, .inl (cL, nw, .inr (.inl f)))]) (va_runV (As := [.int ((nI i) - (x >>> ((nI 6) &&& 31)))]) (rest := []) ⟨hx, hb, hml, hown, hts⟩ (k_wordAt l D cI cL cZ H.size (h) (w) (sh) (nw) (V) ((nI i) - (x >>> ((nI 6) &&& 31))) (hnw) (hV)) (cwV 1 hts (lw_gV q_356 q_358 q_2 q_34 q_359) rfl rfl rfl (by decide +kernel) ⟨Nat.le_trans (Nat.le_of_ble_eq_true rfl) hR1, Nat.le_trans (Nat.le_of_ble_eq_true rfl) hR2⟩) (su_pv hN hK hP hD [0, 1] [0, 1, 2] rfl rfl rfl (ci := 0) (q0 := 0) rfl rfl rfl) rfl rfl hl.1 rfl (lv_room (Nat.le_of_ble_eq_true rfl)) dX0_shift_29 ⟨Nat.le_trans (Nat.le_of_ble_eq_true rfl) hR3, Nat.le_trans (Nat.le_of_ble_eq_true rfl) hR4⟩) hP hD hS hA [0, 1] [2] rfl rfl (by decide) (by decide) (fun r uu H locs hw hP hD hS => ?_)
        obtain rfl : r = wA V ((nI i) - (x >>> ((nI 6) &&& 31))) := hw
        have hP : va_P D vwCl [(sh, .inl (cL, nw, .inr (.inl f))), (h, .inr (0, [.ref w, .ref sh])), (w, .inl (cL, nw, .inr (.inl (bW V))))] H := hP
        have hD : va_D A [(sh, .inl (cL, nw, .inr (.inl f))), (h, .inr (0, [.ref w, .ref sh])), (w, .inl (cL, nw, .inr (.inl (bW V))))] := hD
        refine lv_iload hx hb dX0_shift_32 (lv_at hl 1 rfl) ?_
        refine lv_lshl (v := (wA V ((nI i) - (x >>> ((nI 6) &&& 31)))) <<< ((x &&& (nI 63)).toInt64 &&& 63)) hx hb dX0_shift_34 (rfl) ?_
        refine lv_lstore (lv' := [(6, .long ((wA V ((nI i) - (x >>> ((nI 6) &&& 31)))) <<< ((x &&& (nI 63)).toInt64 &&& 63))), (5, .int (nI i)), (4, .int (x &&& (nI 63))), (3, .int (x >>> ((nI 6) &&& 31))), (0, .ref h), (1, .ref h), (2, .int x)]) hx hb dX0_shift_35 hl (by decide) rfl (fun ls hl => ?_)
        refine lv_aload_n hx hb dX0_shift_37 rfl (lv_at hl 5 rfl) ?_
        refine lv_iload hx hb dX0_shift_38 (lv_at hl 1 rfl) ?_
        refine lv_iload_n hx hb dX0_shift_40 rfl (lv_at hl 3 rfl) ?_
        refine lv_isub hx hb dX0_shift_41 ?_
        refine lv_iconst (v := nI 1) hx hb dX0_shift_42 (by decide) ?_
        refine lv_isub hx hb dX0_shift_43 ?_
        refine su_cl (wr := [(sh, .inl (cL, nw, .inr (.inl f)))]) (va_runV (As := [.int (((nI i) - (x >>> ((nI 6) &&& 31))) - (nI 1))]) (rest := []) ⟨hx, hb, hml, hown, hts⟩ (k_wordAt l D cI cL cZ H.size (h) (w) (sh) (nw) (V) (((nI i) - (x >>> ((nI 6) &&& 31))) - (nI 1)) (hnw) (hV)) (cwV 1 hts (lw_gV q_356 q_358 q_2 q_34 q_359) rfl rfl rfl (by decide +kernel) ⟨Nat.le_trans (Nat.le_of_ble_eq_true rfl) hR1, Nat.le_trans (Nat.le_of_ble_eq_true rfl) hR2⟩) (su_pv hN hK hP hD [1, 2] [0, 1, 2] rfl rfl rfl (ci := 0) (q0 := 0) rfl rfl rfl) rfl rfl hl.1 rfl (lv_room (Nat.le_of_ble_eq_true rfl)) dX0_shift_44 ⟨Nat.le_trans (Nat.le_of_ble_eq_true rfl) hR3, Nat.le_trans (Nat.le_of_ble_eq_true rfl) hR4⟩) hP hD hS hA [1, 2] [0] rfl rfl (by decide) (by decide) (fun r uu H locs hw hP hD hS => ?_)
        obtain rfl : r = wA V (((nI i) - (x >>> ((nI 6) &&& 31))) - (nI 1)) := hw
        have hP : va_P D vwCl [(sh, .inl (cL, nw, .inr (.inl f))), (h, .inr (0, [.ref w, .ref sh])), (w, .inl (cL, nw, .inr (.inl (bW V))))] H := hP
        have hD : va_D A [(sh, .inl (cL, nw, .inr (.inl f))), (h, .inr (0, [.ref w, .ref sh])), (w, .inl (cL, nw, .inr (.inl (bW V))))] := hD
        refine lv_bipush (v := nI 63) hx hb dX0_shift_47 (by decide) ?_
        refine lv_iload hx hb dX0_shift_49 (lv_at hl 2 rfl) ?_
        refine lv_isub hx hb dX0_shift_51 ?_
        refine lv_lushr (v := ((wA V (((nI i) - (x >>> ((nI 6) &&& 31))) - (nI 1))).toUInt64 >>> (((nI 63) - (x &&& (nI 63))).toInt64.toUInt64 &&& Int64.toUInt64 63)).toInt64) hx hb dX0_shift_52 (rfl) ?_
        refine lv_iconst (v := nI 1) hx hb dX0_shift_53 (by decide) ?_
        refine lv_lushr (v := ((((wA V (((nI i) - (x >>> ((nI 6) &&& 31))) - (nI 1))).toUInt64 >>> (((nI 63) - (x &&& (nI 63))).toInt64.toUInt64 &&& Int64.toUInt64 63)).toInt64).toUInt64 >>> ((nI 1).toInt64.toUInt64 &&& Int64.toUInt64 63)).toInt64) hx hb dX0_shift_54 (rfl) ?_
        refine lv_lstore (lv' := [(8, .long (((((wA V (((nI i) - (x >>> ((nI 6) &&& 31))) - (nI 1))).toUInt64 >>> (((nI 63) - (x &&& (nI 63))).toInt64.toUInt64 &&& Int64.toUInt64 63)).toInt64).toUInt64 >>> ((nI 1).toInt64.toUInt64 &&& Int64.toUInt64 63)).toInt64)), (6, .long ((wA V ((nI i) - (x >>> ((nI 6) &&& 31)))) <<< ((x &&& (nI 63)).toInt64 &&& 63))), (5, .int (nI i)), (4, .int (x &&& (nI 63))), (3, .int (x >>> ((nI 6) &&& 31))), (0, .ref h), (1, .ref h), (2, .int x)]) hx hb dX0_shift_55 hl (by decide) rfl (fun ls hl => ?_)
        refine lv_aload_n hx hb dX0_shift_57 rfl (lv_at hl 5 rfl) ?_
        refine va_get (D := D) (ci := 0) (v := .ref sh) (C := RX0) (T := TX0) (N := 2) hx hb hts in_X0 hown hK hP 1 rfl rfl 1 (by decide) k_93 (fun _ h9 => h9) rfl dX0_shift_58 ?_
        refine lv_iload hx hb dX0_shift_61 (lv_at hl 2 rfl) ?_
        refine lv_lload hx hb dX0_shift_63 (lv_at hl 1 rfl) ?_
        refine lv_lload hx hb dX0_shift_65 (lv_at hl 0 rfl) ?_
        refine lv_lor hx hb dX0_shift_67 ?_
        refine su_last hx hb hK hP hD hS 0 1 rfl rfl (i := i) (by omega) (by omega) (va_up f i (((wA V ((nI i) - (x >>> ((nI 6) &&& 31)))) <<< ((x &&& (nI 63)).toInt64 &&& 63)) ||| (((((wA V (((nI i) - (x >>> ((nI 6) &&& 31))) - (nI 1))).toUInt64 >>> (((nI 63) - (x &&& (nI 63))).toInt64.toUInt64 &&& Int64.toUInt64 63)).toInt64).toUInt64 >>> ((nI 1).toInt64.toUInt64 &&& Int64.toUInt64 63)).toInt64))) (fun _ _ => rfl) dX0_shift_68 (fun H locs hP hD hS => ?_)
        have hP : va_P D vwCl [(sh, .inl (cL, nw, .inr (.inl (va_up f i (((wA V ((nI i) - (x >>> ((nI 6) &&& 31)))) <<< ((x &&& (nI 63)).toInt64 &&& 63)) ||| (((((wA V (((nI i) - (x >>> ((nI 6) &&& 31))) - (nI 1))).toUInt64 >>> (((nI 63) - (x &&& (nI 63))).toInt64.toUInt64 &&& Int64.toUInt64 63)).toInt64).toUInt64 >>> ((nI 1).toInt64.toUInt64 &&& Int64.toUInt64 63)).toInt64)))))), (h, .inr (0, [.ref w, .ref sh])), (w, .inl (cL, nw, .inr (.inl (bW V))))] H := hP
        have hD : va_D A [(sh, .inl (cL, nw, .inr (.inl (va_up f i (((wA V ((nI i) - (x >>> ((nI 6) &&& 31)))) <<< ((x &&& (nI 63)).toInt64 &&& 63)) ||| (((((wA V (((nI i) - (x >>> ((nI 6) &&& 31))) - (nI 1))).toUInt64 >>> (((nI 63) - (x &&& (nI 63))).toInt64.toUInt64 &&& Int64.toUInt64 63)).toInt64).toUInt64 >>> ((nI 1).toInt64.toUInt64 &&& Int64.toUInt64 63)).toInt64)))))), (h, .inr (0, [.ref w, .ref sh])), (w, .inl (cL, nw, .inr (.inl (bW V))))] := hD
        refine lv_iinc (v := nI (i + 1)) (lv' := [(5, .int (nI (i + 1))), (8, .long (((((wA V (((nI i) - (x >>> ((nI 6) &&& 31))) - (nI 1))).toUInt64 >>> (((nI 63) - (x &&& (nI 63))).toInt64.toUInt64 &&& Int64.toUInt64 63)).toInt64).toUInt64 >>> ((nI 1).toInt64.toUInt64 &&& Int64.toUInt64 63)).toInt64)), (6, .long ((wA V ((nI i) - (x >>> ((nI 6) &&& 31)))) <<< ((x &&& (nI 63)).toInt64 &&& 63))), (4, .int (x &&& (nI 63))), (3, .int (x >>> ((nI 6) &&& 31))), (0, .ref h), (1, .ref h), (2, .int x)]) hx hb dX0_shift_69 hl (k := 2) rfl (su_inc _) (by decide) rfl (fun ls hl => ?_)
        refine lv_goto (tgt := 14) hx hb dX0_shift_72 (by decide) ?_
        exact ih14 (i + 1) (va_up f i (((wA V ((nI i) - (x >>> ((nI 6) &&& 31)))) <<< ((x &&& (nI 63)).toInt64 &&& 63)) ||| (((((wA V (((nI i) - (x >>> ((nI 6) &&& 31))) - (nI 1))).toUInt64 >>> (((nI 63) - (x &&& (nI 63))).toInt64.toUInt64 &&& Int64.toUInt64 63)).toInt64).toUInt64 >>> ((nI 1).toInt64.toUInt64 &&& Int64.toUInt64 63)).toInt64))) (by omega) (su_fillS hf rfl) (by omega) _ _ (hP.sub [1, 2, 0] rfl) (hD.sub [1, 2, 0] (by decide) rfl) hS _ (lv_sub hl [0, 3, 4, 5, 6, 7] rfl)
  exact loop14 ((nw - (0)) + 1) (0) (fs) (by omega) (fun j hj => absurd hj (Nat.not_lt_zero j)) (by omega) _ _ hP hD hS _ (lv_sub hl [0, 1, 2, 3, 4, 5] rfl)
set_option maxHeartbeats 4000000 in
set_option maxRecDepth 100000 in
theorem k_shiftO (l : Launch) (D : va_G) (cI cL cZ : ClassId) (sz : Nat) (h : Nat) (w : Nat) (sh : Nat) (nw : Nat) (fw : Nat → Int64) (fs : Nat → Int64) (h2 : Nat) (w2 : Nat) (s2 : Nat) (V : Nat) (x : Int32) (z : Int) (hnw : nw ≤ 99) (hV : V < 2 ^ (64 * nw)) (hz : x.toInt = z) (hz1 : -1048576 < z) (hz2 : z < 1048576) :
    Met l yX0_shift (ws_ yX0_shift cX0_shift 10 none) { frames := 1, cells := 0, slots := 0, locals := 30 } (su_pre D (su_T cI cL cZ) sz [(h, .inr (0, [.ref w, .ref sh])), (w, .inl (cL, nw, .inr (.inl fw))), (sh, .inl (cL, nw, .inr (.inl fs))), (h2, .inr (0, [.ref w2, .ref s2])), (w2, .inl (cL, nw, .inr (.inl (bW V))))] [.ref h, .ref h2, .int x]) (su_qv D (va_A [(h, .inr (0, [.ref w, .ref sh])), (w, .inl (cL, nw, .inr (.inl fw))), (sh, .inl (cL, nw, .inr (.inl fs))), (h2, .inr (0, [.ref w2, .ref s2])), (w2, .inl (cL, nw, .inr (.inl (bW V))))] sz) (fun (uu : Unit) => True) (fun (uu : Unit) => [(h, .inr (0, [.ref w, .ref sh])), (w, .inl (cL, nw, .inr (.inl fw))), (sh, .inl (cL, nw, .inr (.inl (bW (shz V z))))), (h2, .inr (0, [.ref w2, .ref s2])), (w2, .inl (cL, nw, .inr (.inl (bW V))))])) 0 0 (va_A [(h, .inr (0, [.ref w, .ref sh])), (w, .inl (cL, nw, .inr (.inl fw))), (sh, .inl (cL, nw, .inr (.inl fs))), (h2, .inr (0, [.ref w2, .ref s2])), (w2, .inl (cL, nw, .inr (.inl (bW V))))] sz) := by
  refine su_met (Qf := fun A => su_qv D A (fun (uu : Unit) => True) (fun (uu : Unit) => [(h, .inr (0, [.ref w, .ref sh])), (w, .inl (cL, nw, .inr (.inl fw))), (sh, .inl (cL, nw, .inr (.inl (bW (shz V z))))), (h2, .inr (0, [.ref w2, .ref s2])), (w2, .inl (cL, nw, .inr (.inl (bW V))))])) (cc := cX0_shift) (maxL := 10) (ret := none) (by decide) (Nat.le_of_ble_eq_true rfl) ?_
  intro p e s m args below meth c R Q A H locs ls hx hb hr hlocks hin hml hown hts hN hP hK hD hA hS hRm hQ hl
  have hown : s.vm.findClass RX0 = some m.cls := hown
  have hl : lv_has ls 10 [(0, .ref h), (1, .ref h2), (2, .int x)] := hl
  have hR1 : 1 ≤ R.frames := by rw [hRm]; exact Nat.le_of_ble_eq_true rfl
  have hR2 : 30 ≤ R.locals := by rw [hRm]; exact Nat.le_of_ble_eq_true rfl
  have hR3 : 0 ≤ R.cells := by rw [hRm]; exact Nat.le_of_ble_eq_true rfl
  have hR4 : 0 ≤ R.slots := by rw [hRm]; exact Nat.le_of_ble_eq_true rfl
  have k_93 := hts _ q_93
  refine lv_iload_n hx hb dX0_shift_0 rfl (lv_at hl 2 rfl) ?_
  refine lv_bipush (v := nI 6) hx hb dX0_shift_1 (by decide) ?_
  refine lv_ishr hx hb dX0_shift_3 ?_
  refine lv_istore_n (lv' := [(3, .int (x >>> ((nI 6) &&& 31))), (0, .ref h), (1, .ref h2), (2, .int x)]) hx hb dX0_shift_4 rfl hl (by decide) rfl (fun ls hl => ?_)
  refine lv_iload_n hx hb dX0_shift_5 rfl (lv_at hl 3 rfl) ?_
  refine lv_bipush (v := nI 63) hx hb dX0_shift_6 (by decide) ?_
  refine lv_iand hx hb dX0_shift_8 ?_
  refine lv_istore (lv' := [(4, .int (x &&& (nI 63))), (3, .int (x >>> ((nI 6) &&& 31))), (0, .ref h), (1, .ref h2), (2, .int x)]) hx hb dX0_shift_9 hl (by decide) rfl (fun ls hl => ?_)
  refine lv_iconst (v := nI 0) hx hb dX0_shift_11 (by decide) ?_
  refine lv_istore (lv' := [(5, .int (nI 0)), (4, .int (x &&& (nI 63))), (3, .int (x >>> ((nI 6) &&& 31))), (0, .ref h), (1, .ref h2), (2, .int x)]) hx hb dX0_shift_12 hl (by decide) rfl (fun ls hl => ?_)
  have loop14 : ∀ (k14 : Nat) (i : Nat) (f : Nat → Int64), (i ≤ nw) → (∀ j, j < i → f j = shw V x j) → nw - i < k14 → ∀ (H : Heap) (locs : List Loc), va_P D vwCl [(h, .inr (0, [.ref w, .ref sh])), (w, .inl (cL, nw, .inr (.inl fw))), (sh, .inl (cL, nw, .inr (.inl f))), (h2, .inr (0, [.ref w2, .ref s2])), (w2, .inl (cL, nw, .inr (.inl (bW V))))] H → va_D A [(h, .inr (0, [.ref w, .ref sh])), (w, .inl (cL, nw, .inr (.inl fw))), (sh, .inl (cL, nw, .inr (.inl f))), (h2, .inr (0, [.ref w2, .ref s2])), (w2, .inl (cL, nw, .inr (.inl (bW V))))] → va_S A s.heap H locs → ∀ ls : Array Slot, lv_has ls 10 [(5, .int (nI i)), (4, .int (x &&& (nI 63))), (3, .int (x >>> ((nI 6) &&& 31))), (0, .ref h), (1, .ref h2), (2, .int x)] → W p l e R s m args below meth c H locs 0 0 Q (F0 m 14 ls []) := by
    intro k14
    induction k14 with
    | zero => intro i f hi hf hk; exact absurd hk (Nat.not_lt_zero _)
    | succ k14 ih14 =>
      intro i f hi hf hk14 H locs hP hD hS ls hl
      refine lv_iload hx hb dX0_shift_14 (lv_at hl 0 rfl) ?_
      refine lv_aload_n hx hb dX0_shift_16 rfl (lv_at hl 3 rfl) ?_
      refine va_get (D := D) (ci := 0) (v := .ref sh) (C := RX0) (T := TX0) (N := 2) hx hb hts in_X0 hown hK hP 0 rfl rfl 1 (by decide) k_93 (fun _ h9 => h9) rfl dX0_shift_17 ?_
      refine va_alen hx hb hK hP 2 1 rfl rfl (v := nI nw) rfl dX0_shift_20 ?_
      refine lv_icmp_ge (tgt := 75) hx hb dX0_shift_21 (by decide) (fun c21 => ?_) (fun c21 => ?_)
      · have c21 : nw ≤ i := su_ge (by omega) (by omega) c21
        obtain ⟨hP, hD⟩ := su_reL (q0 := 2) (bW (shz V z)) hP hD rfl (fun j hj => (hf j (by omega)).trans (shw_eq hz hz1 hz2 (by omega)))
        have hP : va_P D vwCl [(h, .inr (0, [.ref w, .ref sh])), (w, .inl (cL, nw, .inr (.inl fw))), (sh, .inl (cL, nw, .inr (.inl (bW (shz V z))))), (h2, .inr (0, [.ref w2, .ref s2])), (w2, .inl (cL, nw, .inr (.inl (bW V))))] H := hP
        have hD : va_D A [(h, .inr (0, [.ref w, .ref sh])), (w, .inl (cL, nw, .inr (.inl fw))), (sh, .inl (cL, nw, .inr (.inl (bW (shz V z))))), (h2, .inr (0, [.ref w2, .ref s2])), (w2, .inl (cL, nw, .inr (.inl (bW V))))] := hD
        rw [hQ]
        exact su_ev hx hb hr hlocks hS dX0_shift_75 () (trivial) hP hD
      · have c21 : i < nw := su_nge (by omega) (by omega) c21
        refine lv_aload_n hx hb dX0_shift_24 rfl (lv_at hl 4 rfl) ?_
        refine lv_iload hx hb dX0_shift_25 (lv_at hl 0 rfl) ?_
        refine lv_iload_n hx hb dX0_shift_27 rfl (lv_at hl 2 rfl) ?_
        refine lv_isub hx hb dX0_shift_28 ?_
        refine su_cl (wr := [(h, .inr (0, [.ref w, .ref sh])), (w, .inl (cL, nw, .inr (.inl fw))), (sh, .inl (cL, nw, .inr (.inl f)))]) (va_runV (As := [.int ((nI i) - (x >>> ((nI 6) &&& 31)))]) (rest := []) ⟨hx, hb, hml, hown, hts⟩ (k_wordAt l D cI cL cZ H.size (h2) (w2) (s2) (nw) (V) ((nI i) - (x >>> ((nI 6) &&& 31))) (hnw) (hV)) (cwV 1 hts (lw_gV q_356 q_358 q_2 q_34 q_359) rfl rfl rfl (by decide +kernel) ⟨Nat.le_trans (Nat.le_of_ble_eq_true rfl) hR1, Nat.le_trans (Nat.le_of_ble_eq_true rfl) hR2⟩) (su_pv hN hK hP hD [3, 4] [0, 1, 2] rfl rfl rfl (ci := 0) (q0 := 0) rfl rfl rfl) rfl rfl hl.1 rfl (lv_room (Nat.le_of_ble_eq_true rfl)) dX0_shift_29 ⟨Nat.le_trans (Nat.le_of_ble_eq_true rfl) hR3, Nat.le_trans (Nat.le_of_ble_eq_true rfl) hR4⟩) hP hD hS hA [3, 4] [0, 1, 2] rfl rfl (by decide) (by decide) (fun r uu H locs hw hP hD hS => ?_)
        obtain rfl : r = wA V ((nI i) - (x >>> ((nI 6) &&& 31))) := hw
        have hP : va_P D vwCl [(h, .inr (0, [.ref w, .ref sh])), (w, .inl (cL, nw, .inr (.inl fw))), (sh, .inl (cL, nw, .inr (.inl f))), (h2, .inr (0, [.ref w2, .ref s2])), (w2, .inl (cL, nw, .inr (.inl (bW V))))] H := hP
        have hD : va_D A [(h, .inr (0, [.ref w, .ref sh])), (w, .inl (cL, nw, .inr (.inl fw))), (sh, .inl (cL, nw, .inr (.inl f))), (h2, .inr (0, [.ref w2, .ref s2])), (w2, .inl (cL, nw, .inr (.inl (bW V))))] := hD
        refine lv_iload hx hb dX0_shift_32 (lv_at hl 1 rfl) ?_
        refine lv_lshl (v := (wA V ((nI i) - (x >>> ((nI 6) &&& 31)))) <<< ((x &&& (nI 63)).toInt64 &&& 63)) hx hb dX0_shift_34 (rfl) ?_
        refine lv_lstore (lv' := [(6, .long ((wA V ((nI i) - (x >>> ((nI 6) &&& 31)))) <<< ((x &&& (nI 63)).toInt64 &&& 63))), (5, .int (nI i)), (4, .int (x &&& (nI 63))), (3, .int (x >>> ((nI 6) &&& 31))), (0, .ref h), (1, .ref h2), (2, .int x)]) hx hb dX0_shift_35 hl (by decide) rfl (fun ls hl => ?_)
        refine lv_aload_n hx hb dX0_shift_37 rfl (lv_at hl 5 rfl) ?_
        refine lv_iload hx hb dX0_shift_38 (lv_at hl 1 rfl) ?_
        refine lv_iload_n hx hb dX0_shift_40 rfl (lv_at hl 3 rfl) ?_
        refine lv_isub hx hb dX0_shift_41 ?_
        refine lv_iconst (v := nI 1) hx hb dX0_shift_42 (by decide) ?_
        refine lv_isub hx hb dX0_shift_43 ?_
        refine su_cl (wr := [(h, .inr (0, [.ref w, .ref sh])), (w, .inl (cL, nw, .inr (.inl fw))), (sh, .inl (cL, nw, .inr (.inl f)))]) (va_runV (As := [.int (((nI i) - (x >>> ((nI 6) &&& 31))) - (nI 1))]) (rest := []) ⟨hx, hb, hml, hown, hts⟩ (k_wordAt l D cI cL cZ H.size (h2) (w2) (s2) (nw) (V) (((nI i) - (x >>> ((nI 6) &&& 31))) - (nI 1)) (hnw) (hV)) (cwV 1 hts (lw_gV q_356 q_358 q_2 q_34 q_359) rfl rfl rfl (by decide +kernel) ⟨Nat.le_trans (Nat.le_of_ble_eq_true rfl) hR1, Nat.le_trans (Nat.le_of_ble_eq_true rfl) hR2⟩) (su_pv hN hK hP hD [3, 4] [0, 1, 2] rfl rfl rfl (ci := 0) (q0 := 0) rfl rfl rfl) rfl rfl hl.1 rfl (lv_room (Nat.le_of_ble_eq_true rfl)) dX0_shift_44 ⟨Nat.le_trans (Nat.le_of_ble_eq_true rfl) hR3, Nat.le_trans (Nat.le_of_ble_eq_true rfl) hR4⟩) hP hD hS hA [3, 4] [0, 1, 2] rfl rfl (by decide) (by decide) (fun r uu H locs hw hP hD hS => ?_)
        obtain rfl : r = wA V (((nI i) - (x >>> ((nI 6) &&& 31))) - (nI 1)) := hw
        have hP : va_P D vwCl [(h, .inr (0, [.ref w, .ref sh])), (w, .inl (cL, nw, .inr (.inl fw))), (sh, .inl (cL, nw, .inr (.inl f))), (h2, .inr (0, [.ref w2, .ref s2])), (w2, .inl (cL, nw, .inr (.inl (bW V))))] H := hP
        have hD : va_D A [(h, .inr (0, [.ref w, .ref sh])), (w, .inl (cL, nw, .inr (.inl fw))), (sh, .inl (cL, nw, .inr (.inl f))), (h2, .inr (0, [.ref w2, .ref s2])), (w2, .inl (cL, nw, .inr (.inl (bW V))))] := hD
        refine lv_bipush (v := nI 63) hx hb dX0_shift_47 (by decide) ?_
        refine lv_iload hx hb dX0_shift_49 (lv_at hl 2 rfl) ?_
        refine lv_isub hx hb dX0_shift_51 ?_
        refine lv_lushr (v := ((wA V (((nI i) - (x >>> ((nI 6) &&& 31))) - (nI 1))).toUInt64 >>> (((nI 63) - (x &&& (nI 63))).toInt64.toUInt64 &&& Int64.toUInt64 63)).toInt64) hx hb dX0_shift_52 (rfl) ?_
        refine lv_iconst (v := nI 1) hx hb dX0_shift_53 (by decide) ?_
        refine lv_lushr (v := ((((wA V (((nI i) - (x >>> ((nI 6) &&& 31))) - (nI 1))).toUInt64 >>> (((nI 63) - (x &&& (nI 63))).toInt64.toUInt64 &&& Int64.toUInt64 63)).toInt64).toUInt64 >>> ((nI 1).toInt64.toUInt64 &&& Int64.toUInt64 63)).toInt64) hx hb dX0_shift_54 (rfl) ?_
        refine lv_lstore (lv' := [(8, .long (((((wA V (((nI i) - (x >>> ((nI 6) &&& 31))) - (nI 1))).toUInt64 >>> (((nI 63) - (x &&& (nI 63))).toInt64.toUInt64 &&& Int64.toUInt64 63)).toInt64).toUInt64 >>> ((nI 1).toInt64.toUInt64 &&& Int64.toUInt64 63)).toInt64)), (6, .long ((wA V ((nI i) - (x >>> ((nI 6) &&& 31)))) <<< ((x &&& (nI 63)).toInt64 &&& 63))), (5, .int (nI i)), (4, .int (x &&& (nI 63))), (3, .int (x >>> ((nI 6) &&& 31))), (0, .ref h), (1, .ref h2), (2, .int x)]) hx hb dX0_shift_55 hl (by decide) rfl (fun ls hl => ?_)
        refine lv_aload_n hx hb dX0_shift_57 rfl (lv_at hl 5 rfl) ?_
        refine va_get (D := D) (ci := 0) (v := .ref sh) (C := RX0) (T := TX0) (N := 2) hx hb hts in_X0 hown hK hP 0 rfl rfl 1 (by decide) k_93 (fun _ h9 => h9) rfl dX0_shift_58 ?_
        refine lv_iload hx hb dX0_shift_61 (lv_at hl 2 rfl) ?_
        refine lv_lload hx hb dX0_shift_63 (lv_at hl 1 rfl) ?_
        refine lv_lload hx hb dX0_shift_65 (lv_at hl 0 rfl) ?_
        refine lv_lor hx hb dX0_shift_67 ?_
        refine su_last hx hb hK hP hD hS 2 1 rfl rfl (i := i) (by omega) (by omega) (va_up f i (((wA V ((nI i) - (x >>> ((nI 6) &&& 31)))) <<< ((x &&& (nI 63)).toInt64 &&& 63)) ||| (((((wA V (((nI i) - (x >>> ((nI 6) &&& 31))) - (nI 1))).toUInt64 >>> (((nI 63) - (x &&& (nI 63))).toInt64.toUInt64 &&& Int64.toUInt64 63)).toInt64).toUInt64 >>> ((nI 1).toInt64.toUInt64 &&& Int64.toUInt64 63)).toInt64))) (fun _ _ => rfl) dX0_shift_68 (fun H locs hP hD hS => ?_)
        have hP : va_P D vwCl [(h, .inr (0, [.ref w, .ref sh])), (w, .inl (cL, nw, .inr (.inl fw))), (sh, .inl (cL, nw, .inr (.inl (va_up f i (((wA V ((nI i) - (x >>> ((nI 6) &&& 31)))) <<< ((x &&& (nI 63)).toInt64 &&& 63)) ||| (((((wA V (((nI i) - (x >>> ((nI 6) &&& 31))) - (nI 1))).toUInt64 >>> (((nI 63) - (x &&& (nI 63))).toInt64.toUInt64 &&& Int64.toUInt64 63)).toInt64).toUInt64 >>> ((nI 1).toInt64.toUInt64 &&& Int64.toUInt64 63)).toInt64)))))), (h2, .inr (0, [.ref w2, .ref s2])), (w2, .inl (cL, nw, .inr (.inl (bW V))))] H := hP
        have hD : va_D A [(h, .inr (0, [.ref w, .ref sh])), (w, .inl (cL, nw, .inr (.inl fw))), (sh, .inl (cL, nw, .inr (.inl (va_up f i (((wA V ((nI i) - (x >>> ((nI 6) &&& 31)))) <<< ((x &&& (nI 63)).toInt64 &&& 63)) ||| (((((wA V (((nI i) - (x >>> ((nI 6) &&& 31))) - (nI 1))).toUInt64 >>> (((nI 63) - (x &&& (nI 63))).toInt64.toUInt64 &&& Int64.toUInt64 63)).toInt64).toUInt64 >>> ((nI 1).toInt64.toUInt64 &&& Int64.toUInt64 63)).toInt64)))))), (h2, .inr (0, [.ref w2, .ref s2])), (w2, .inl (cL, nw, .inr (.inl (bW V))))] := hD
        refine lv_iinc (v := nI (i + 1)) (lv' := [(5, .int (nI (i + 1))), (8, .long (((((wA V (((nI i) - (x >>> ((nI 6) &&& 31))) - (nI 1))).toUInt64 >>> (((nI 63) - (x &&& (nI 63))).toInt64.toUInt64 &&& Int64.toUInt64 63)).toInt64).toUInt64 >>> ((nI 1).toInt64.toUInt64 &&& Int64.toUInt64 63)).toInt64)), (6, .long ((wA V ((nI i) - (x >>> ((nI 6) &&& 31)))) <<< ((x &&& (nI 63)).toInt64 &&& 63))), (4, .int (x &&& (nI 63))), (3, .int (x >>> ((nI 6) &&& 31))), (0, .ref h), (1, .ref h2), (2, .int x)]) hx hb dX0_shift_69 hl (k := 2) rfl (su_inc _) (by decide) rfl (fun ls hl => ?_)
        refine lv_goto (tgt := 14) hx hb dX0_shift_72 (by decide) ?_
        exact ih14 (i + 1) (va_up f i (((wA V ((nI i) - (x >>> ((nI 6) &&& 31)))) <<< ((x &&& (nI 63)).toInt64 &&& 63)) ||| (((((wA V (((nI i) - (x >>> ((nI 6) &&& 31))) - (nI 1))).toUInt64 >>> (((nI 63) - (x &&& (nI 63))).toInt64.toUInt64 &&& Int64.toUInt64 63)).toInt64).toUInt64 >>> ((nI 1).toInt64.toUInt64 &&& Int64.toUInt64 63)).toInt64))) (by omega) (su_fillS hf rfl) (by omega) _ _ hP hD hS _ (lv_sub hl [0, 3, 4, 5, 6, 7] rfl)
  exact loop14 ((nw - (0)) + 1) (0) (fs) (by omega) (fun j hj => absurd hj (Nat.not_lt_zero j)) (by omega) _ _ hP hD hS _ (lv_sub hl [0, 1, 2, 3, 4, 5] rfl)
set_option maxHeartbeats 4000000 in
set_option maxRecDepth 100000 in
theorem k_orS (l : Launch) (D : va_G) (cI cL cZ : ClassId) (sz : Nat) (h : Nat) (w : Nat) (sh : Nat) (nw : Nat) (V : Nat) (fs : Nat → Int64) (x : Int32) (z : Int) (hnw : nw ≤ 99) (hV : V < 2 ^ (64 * nw)) (hz : x.toInt = z) (hz1 : -1048576 < z) (hz2 : z < 1048576) :
    Met l yX0_or (ws_ yX0_or cX0_or 4 none) { frames := 2, cells := 0, slots := 0, locals := 70 } (su_pre D (su_T cI cL cZ) sz [(h, .inr (0, [.ref w, .ref sh])), (w, .inl (cL, nw, .inr (.inl (bW V)))), (sh, .inl (cL, nw, .inr (.inl fs)))] [.ref h, .ref h, .int x]) (su_qv D (va_A [(h, .inr (0, [.ref w, .ref sh])), (w, .inl (cL, nw, .inr (.inl (bW V)))), (sh, .inl (cL, nw, .inr (.inl fs)))] sz) (fun (uu : Unit) => True) (fun (uu : Unit) => [(h, .inr (0, [.ref w, .ref sh])), (w, .inl (cL, nw, .inr (.inl (bW (V ||| shz V z))))), (sh, .inl (cL, nw, .inr (.inl (bW (shz V z)))))])) 0 0 (va_A [(h, .inr (0, [.ref w, .ref sh])), (w, .inl (cL, nw, .inr (.inl (bW V)))), (sh, .inl (cL, nw, .inr (.inl fs)))] sz) := by
  refine su_met (Qf := fun A => su_qv D A (fun (uu : Unit) => True) (fun (uu : Unit) => [(h, .inr (0, [.ref w, .ref sh])), (w, .inl (cL, nw, .inr (.inl (bW (V ||| shz V z))))), (sh, .inl (cL, nw, .inr (.inl (bW (shz V z)))))])) (cc := cX0_or) (maxL := 4) (ret := none) (by decide) (Nat.le_of_ble_eq_true rfl) ?_
  intro p e s m args below meth c R Q A H locs ls hx hb hr hlocks hin hml hown hts hN hP hK hD hA hS hRm hQ hl
  have hown : s.vm.findClass RX0 = some m.cls := hown
  have hl : lv_has ls 4 [(0, .ref h), (1, .ref h), (2, .int x)] := hl
  have hR1 : 2 ≤ R.frames := by rw [hRm]; exact Nat.le_of_ble_eq_true rfl
  have hR2 : 70 ≤ R.locals := by rw [hRm]; exact Nat.le_of_ble_eq_true rfl
  have hR3 : 0 ≤ R.cells := by rw [hRm]; exact Nat.le_of_ble_eq_true rfl
  have hR4 : 0 ≤ R.slots := by rw [hRm]; exact Nat.le_of_ble_eq_true rfl
  have k_92 := hts _ q_92
  have k_93 := hts _ q_93
  refine lv_aload_n hx hb dX0_or_0 rfl (lv_at hl 0 rfl) ?_
  refine lv_aload_n hx hb dX0_or_1 rfl (lv_at hl 1 rfl) ?_
  refine lv_iload_n hx hb dX0_or_2 rfl (lv_at hl 2 rfl) ?_
  refine su_cv (wr := []) (va_runV (As := [.ref h, .int x]) (rest := []) ⟨hx, hb, hml, hown, hts⟩ (k_shiftS l D cI cL cZ H.size (h) (w) (sh) (nw) (V) (fs) (x) (z) (hnw) (hV) (hz) (hz1) (hz2)) (cwV 2 hts (lw_gV q_352 q_354 q_1 q_34 q_355) rfl rfl rfl (by decide +kernel) ⟨Nat.le_trans (Nat.le_of_ble_eq_true rfl) hR1, Nat.le_trans (Nat.le_of_ble_eq_true rfl) hR2⟩) (su_pv hN hK hP hD [0, 1, 2] [0, 1, 2] rfl rfl rfl (ci := 0) (q0 := 0) rfl rfl rfl) rfl rfl hl.1 rfl (lv_room (Nat.le_of_ble_eq_true rfl)) dX0_or_3 ⟨Nat.le_trans (Nat.le_of_ble_eq_true rfl) hR3, Nat.le_trans (Nat.le_of_ble_eq_true rfl) hR4⟩) hP hD hS hA [0, 1, 2] [] rfl rfl (by decide) (by decide) (fun uu H locs hw hP hD hS => ?_)
  have hP : va_P D vwCl [(h, .inr (0, [.ref w, .ref sh])), (w, .inl (cL, nw, .inr (.inl (bW V)))), (sh, .inl (cL, nw, .inr (.inl (bW (shz V z)))))] H := hP
  have hD : va_D A [(h, .inr (0, [.ref w, .ref sh])), (w, .inl (cL, nw, .inr (.inl (bW V)))), (sh, .inl (cL, nw, .inr (.inl (bW (shz V z)))))] := hD
  refine lv_iconst (v := nI 0) hx hb dX0_or_6 (by decide) ?_
  refine lv_istore_n (lv' := [(3, .int (nI 0)), (0, .ref h), (1, .ref h), (2, .int x)]) hx hb dX0_or_7 rfl hl (by decide) rfl (fun ls hl => ?_)
  have loop8 : ∀ (k8 : Nat) (i : Nat), (i ≤ nw) → nw - i < k8 → ∀ (H : Heap) (locs : List Loc), va_P D vwCl [(h, .inr (0, [.ref w, .ref sh])), (w, .inl (cL, nw, .inr (.inl (su_fl (bW (V ||| shz V z)) (bW V) i)))), (sh, .inl (cL, nw, .inr (.inl (bW (shz V z)))))] H → va_D A [(h, .inr (0, [.ref w, .ref sh])), (w, .inl (cL, nw, .inr (.inl (su_fl (bW (V ||| shz V z)) (bW V) i)))), (sh, .inl (cL, nw, .inr (.inl (bW (shz V z)))))] → va_S A s.heap H locs → ∀ ls : Array Slot, lv_has ls 4 [(3, .int (nI i)), (0, .ref h), (1, .ref h), (2, .int x)] → W p l e R s m args below meth c H locs 0 0 Q (F0 m 8 ls []) := by
    intro k8
    induction k8 with
    | zero => intro i hi hk; exact absurd hk (Nat.not_lt_zero _)
    | succ k8 ih8 =>
      intro i hi hk8 H locs hP hD hS ls hl
      refine lv_iload_n hx hb dX0_or_8 rfl (lv_at hl 0 rfl) ?_
      refine lv_aload_n hx hb dX0_or_9 rfl (lv_at hl 1 rfl) ?_
      refine va_get (D := D) (ci := 0) (v := .ref w) (C := RX0) (T := TX0) (N := 2) hx hb hts in_X0 hown hK hP 0 rfl rfl 0 (by decide) k_92 (fun _ h9 => h9) rfl dX0_or_10 ?_
      refine va_alen hx hb hK hP 1 1 rfl rfl (v := nI nw) rfl dX0_or_13 ?_
      refine lv_icmp_ge (tgt := 47) hx hb dX0_or_14 (by decide) (fun c14 => ?_) (fun c14 => ?_)
      · have c14 : nw ≤ i := su_ge (by omega) (by omega) c14
        obtain ⟨hP, hD⟩ := su_reL (q0 := 1) (bW (V ||| shz V z)) hP hD rfl (fun j hj => su_flN (by omega))
        have hP : va_P D vwCl [(h, .inr (0, [.ref w, .ref sh])), (w, .inl (cL, nw, .inr (.inl (bW (V ||| shz V z))))), (sh, .inl (cL, nw, .inr (.inl (bW (shz V z)))))] H := hP
        have hD : va_D A [(h, .inr (0, [.ref w, .ref sh])), (w, .inl (cL, nw, .inr (.inl (bW (V ||| shz V z))))), (sh, .inl (cL, nw, .inr (.inl (bW (shz V z)))))] := hD
        rw [hQ]
        exact su_ev hx hb hr hlocks hS dX0_or_47 () (trivial) hP hD
      · have c14 : i < nw := su_nge (by omega) (by omega) c14
        refine lv_iload_n hx hb dX0_or_17 rfl (lv_at hl 0 rfl) ?_
        refine lv_aload_n hx hb dX0_or_18 rfl (lv_at hl 1 rfl) ?_
        refine va_get (D := D) (ci := 0) (v := .ref sh) (C := RX0) (T := TX0) (N := 2) hx hb hts in_X0 hown hK hP 0 rfl rfl 1 (by decide) k_93 (fun _ h9 => h9) rfl dX0_or_19 ?_
        refine va_alen hx hb hK hP 2 1 rfl rfl (v := nI nw) rfl dX0_or_22 ?_
        refine lv_icmp_ge (tgt := 47) hx hb dX0_or_23 (by decide) (fun c23 => ?_) (fun c23 => ?_)
        · have c23 : nw ≤ i := su_ge (by omega) (by omega) c23
          omega
        · have c23 : i < nw := su_nge (by omega) (by omega) c23
          refine lv_aload_n hx hb dX0_or_26 rfl (lv_at hl 1 rfl) ?_
          refine va_get (D := D) (ci := 0) (v := .ref w) (C := RX0) (T := TX0) (N := 2) hx hb hts in_X0 hown hK hP 0 rfl rfl 0 (by decide) k_92 (fun _ h9 => h9) rfl dX0_or_27 ?_
          refine lv_iload_n hx hb dX0_or_30 rfl (lv_at hl 0 rfl) ?_
          refine lv_dup2_11 hx hb dX0_or_31 rfl rfl ?_
          refine su_lald hx hb hK hP 1 1 rfl rfl (i := i) (by omega) (by omega) (lN (V >>> (64 * i))) (su_flA i) dX0_or_32 ?_
          refine lv_aload_n hx hb dX0_or_33 rfl (lv_at hl 1 rfl) ?_
          refine va_get (D := D) (ci := 0) (v := .ref sh) (C := RX0) (T := TX0) (N := 2) hx hb hts in_X0 hown hK hP 0 rfl rfl 1 (by decide) k_93 (fun _ h9 => h9) rfl dX0_or_34 ?_
          refine lv_iload_n hx hb dX0_or_37 rfl (lv_at hl 0 rfl) ?_
          refine su_lald hx hb hK hP 2 1 rfl rfl (i := i) (by omega) (by omega) (lN ((shz V z) >>> (64 * i))) (rfl) dX0_or_38 ?_
          refine lv_lor hx hb dX0_or_39 ?_
          refine su_last hx hb hK hP hD hS 1 1 rfl rfl (i := i) (by omega) (by omega) (va_up (su_fl (bW (V ||| shz V z)) (bW V) i) i ((lN (V >>> (64 * i))) ||| (lN ((shz V z) >>> (64 * i))))) (fun _ _ => rfl) dX0_or_40 (fun H locs hP hD hS => ?_)
          have hP : va_P D vwCl [(h, .inr (0, [.ref w, .ref sh])), (w, .inl (cL, nw, .inr (.inl (va_up (su_fl (bW (V ||| shz V z)) (bW V) i) i ((lN (V >>> (64 * i))) ||| (lN ((shz V z) >>> (64 * i)))))))), (sh, .inl (cL, nw, .inr (.inl (bW (shz V z)))))] H := hP
          have hD : va_D A [(h, .inr (0, [.ref w, .ref sh])), (w, .inl (cL, nw, .inr (.inl (va_up (su_fl (bW (V ||| shz V z)) (bW V) i) i ((lN (V >>> (64 * i))) ||| (lN ((shz V z) >>> (64 * i)))))))), (sh, .inl (cL, nw, .inr (.inl (bW (shz V z)))))] := hD
          refine lv_iinc (v := nI (i + 1)) (lv' := [(3, .int (nI (i + 1))), (0, .ref h), (1, .ref h), (2, .int x)]) hx hb dX0_or_41 hl (k := 0) rfl (su_inc _) (by decide) rfl (fun ls hl => ?_)
          refine lv_goto (tgt := 8) hx hb dX0_or_44 (by decide) ?_
          obtain ⟨hP, hD⟩ := su_reL (q0 := 1) (su_fl (bW (V ||| shz V z)) (bW V) (i + 1)) hP hD rfl (fun j _ => su_flS (bW_or _ _ i) j)
          have hP : va_P D vwCl [(h, .inr (0, [.ref w, .ref sh])), (w, .inl (cL, nw, .inr (.inl (su_fl (bW (V ||| shz V z)) (bW V) (i + 1))))), (sh, .inl (cL, nw, .inr (.inl (bW (shz V z)))))] H := hP
          have hD : va_D A [(h, .inr (0, [.ref w, .ref sh])), (w, .inl (cL, nw, .inr (.inl (su_fl (bW (V ||| shz V z)) (bW V) (i + 1))))), (sh, .inl (cL, nw, .inr (.inl (bW (shz V z)))))] := hD
          exact ih8 (i + 1) (by omega) (by omega) _ _ hP hD hS _ (lv_sub hl [0, 1, 2, 3] rfl)
  obtain ⟨hP, hD⟩ := su_reL (q0 := 1) (su_fl (bW (V ||| shz V z)) (bW V) (0)) hP hD rfl (fun j _ => su_fl0 j)
  have hP : va_P D vwCl [(h, .inr (0, [.ref w, .ref sh])), (w, .inl (cL, nw, .inr (.inl (su_fl (bW (V ||| shz V z)) (bW V) (0))))), (sh, .inl (cL, nw, .inr (.inl (bW (shz V z)))))] H := hP
  have hD : va_D A [(h, .inr (0, [.ref w, .ref sh])), (w, .inl (cL, nw, .inr (.inl (su_fl (bW (V ||| shz V z)) (bW V) (0))))), (sh, .inl (cL, nw, .inr (.inl (bW (shz V z)))))] := hD
  exact loop8 ((nw - (0)) + 1) (0) (by omega) (by omega) _ _ hP hD hS _ (lv_sub hl [0, 1, 2, 3] rfl)
set_option maxHeartbeats 4000000 in
set_option maxRecDepth 100000 in
theorem k_orO (l : Launch) (D : va_G) (cI cL cZ : ClassId) (sz : Nat) (h : Nat) (w : Nat) (sh : Nat) (nw : Nat) (V : Nat) (fs : Nat → Int64) (h2 : Nat) (w2 : Nat) (s2 : Nat) (F : Nat) (x : Int32) (z : Int) (hnw : nw ≤ 99) (hF : F < 2 ^ (64 * nw)) (hz : x.toInt = z) (hz1 : -1048576 < z) (hz2 : z < 1048576) :
    Met l yX0_or (ws_ yX0_or cX0_or 4 none) { frames := 2, cells := 0, slots := 0, locals := 70 } (su_pre D (su_T cI cL cZ) sz [(h, .inr (0, [.ref w, .ref sh])), (w, .inl (cL, nw, .inr (.inl (bW V)))), (sh, .inl (cL, nw, .inr (.inl fs))), (h2, .inr (0, [.ref w2, .ref s2])), (w2, .inl (cL, nw, .inr (.inl (bW F))))] [.ref h, .ref h2, .int x]) (su_qv D (va_A [(h, .inr (0, [.ref w, .ref sh])), (w, .inl (cL, nw, .inr (.inl (bW V)))), (sh, .inl (cL, nw, .inr (.inl fs))), (h2, .inr (0, [.ref w2, .ref s2])), (w2, .inl (cL, nw, .inr (.inl (bW F))))] sz) (fun (uu : Unit) => True) (fun (uu : Unit) => [(h, .inr (0, [.ref w, .ref sh])), (w, .inl (cL, nw, .inr (.inl (bW (V ||| shz F z))))), (sh, .inl (cL, nw, .inr (.inl (bW (shz F z))))), (h2, .inr (0, [.ref w2, .ref s2])), (w2, .inl (cL, nw, .inr (.inl (bW F))))])) 0 0 (va_A [(h, .inr (0, [.ref w, .ref sh])), (w, .inl (cL, nw, .inr (.inl (bW V)))), (sh, .inl (cL, nw, .inr (.inl fs))), (h2, .inr (0, [.ref w2, .ref s2])), (w2, .inl (cL, nw, .inr (.inl (bW F))))] sz) := by
  refine su_met (Qf := fun A => su_qv D A (fun (uu : Unit) => True) (fun (uu : Unit) => [(h, .inr (0, [.ref w, .ref sh])), (w, .inl (cL, nw, .inr (.inl (bW (V ||| shz F z))))), (sh, .inl (cL, nw, .inr (.inl (bW (shz F z))))), (h2, .inr (0, [.ref w2, .ref s2])), (w2, .inl (cL, nw, .inr (.inl (bW F))))])) (cc := cX0_or) (maxL := 4) (ret := none) (by decide) (Nat.le_of_ble_eq_true rfl) ?_
  intro p e s m args below meth c R Q A H locs ls hx hb hr hlocks hin hml hown hts hN hP hK hD hA hS hRm hQ hl
  have hown : s.vm.findClass RX0 = some m.cls := hown
  have hl : lv_has ls 4 [(0, .ref h), (1, .ref h2), (2, .int x)] := hl
  have hR1 : 2 ≤ R.frames := by rw [hRm]; exact Nat.le_of_ble_eq_true rfl
  have hR2 : 70 ≤ R.locals := by rw [hRm]; exact Nat.le_of_ble_eq_true rfl
  have hR3 : 0 ≤ R.cells := by rw [hRm]; exact Nat.le_of_ble_eq_true rfl
  have hR4 : 0 ≤ R.slots := by rw [hRm]; exact Nat.le_of_ble_eq_true rfl
  have k_92 := hts _ q_92
  have k_93 := hts _ q_93
  refine lv_aload_n hx hb dX0_or_0 rfl (lv_at hl 0 rfl) ?_
  refine lv_aload_n hx hb dX0_or_1 rfl (lv_at hl 1 rfl) ?_
  refine lv_iload_n hx hb dX0_or_2 rfl (lv_at hl 2 rfl) ?_
  refine su_cv (wr := []) (va_runV (As := [.ref h2, .int x]) (rest := []) ⟨hx, hb, hml, hown, hts⟩ (k_shiftO l D cI cL cZ H.size (h) (w) (sh) (nw) (bW V) (fs) (h2) (w2) (s2) (F) (x) (z) (hnw) (hF) (hz) (hz1) (hz2)) (cwV 2 hts (lw_gV q_352 q_354 q_1 q_34 q_355) rfl rfl rfl (by decide +kernel) ⟨Nat.le_trans (Nat.le_of_ble_eq_true rfl) hR1, Nat.le_trans (Nat.le_of_ble_eq_true rfl) hR2⟩) (su_pv hN hK hP hD [0, 1, 2, 3, 4] [0, 1, 2] rfl rfl rfl (ci := 0) (q0 := 0) rfl rfl rfl) rfl rfl hl.1 rfl (lv_room (Nat.le_of_ble_eq_true rfl)) dX0_or_3 ⟨Nat.le_trans (Nat.le_of_ble_eq_true rfl) hR3, Nat.le_trans (Nat.le_of_ble_eq_true rfl) hR4⟩) hP hD hS hA [0, 1, 2, 3, 4] [] rfl rfl (by decide) (by decide) (fun uu H locs hw hP hD hS => ?_)
  have hP : va_P D vwCl [(h, .inr (0, [.ref w, .ref sh])), (w, .inl (cL, nw, .inr (.inl (bW V)))), (sh, .inl (cL, nw, .inr (.inl (bW (shz F z))))), (h2, .inr (0, [.ref w2, .ref s2])), (w2, .inl (cL, nw, .inr (.inl (bW F))))] H := hP
  have hD : va_D A [(h, .inr (0, [.ref w, .ref sh])), (w, .inl (cL, nw, .inr (.inl (bW V)))), (sh, .inl (cL, nw, .inr (.inl (bW (shz F z))))), (h2, .inr (0, [.ref w2, .ref s2])), (w2, .inl (cL, nw, .inr (.inl (bW F))))] := hD
  refine lv_iconst (v := nI 0) hx hb dX0_or_6 (by decide) ?_
  refine lv_istore_n (lv' := [(3, .int (nI 0)), (0, .ref h), (1, .ref h2), (2, .int x)]) hx hb dX0_or_7 rfl hl (by decide) rfl (fun ls hl => ?_)
  have loop8 : ∀ (k8 : Nat) (i : Nat), (i ≤ nw) → nw - i < k8 → ∀ (H : Heap) (locs : List Loc), va_P D vwCl [(h, .inr (0, [.ref w, .ref sh])), (w, .inl (cL, nw, .inr (.inl (su_fl (bW (V ||| shz F z)) (bW V) i)))), (sh, .inl (cL, nw, .inr (.inl (bW (shz F z))))), (h2, .inr (0, [.ref w2, .ref s2])), (w2, .inl (cL, nw, .inr (.inl (bW F))))] H → va_D A [(h, .inr (0, [.ref w, .ref sh])), (w, .inl (cL, nw, .inr (.inl (su_fl (bW (V ||| shz F z)) (bW V) i)))), (sh, .inl (cL, nw, .inr (.inl (bW (shz F z))))), (h2, .inr (0, [.ref w2, .ref s2])), (w2, .inl (cL, nw, .inr (.inl (bW F))))] → va_S A s.heap H locs → ∀ ls : Array Slot, lv_has ls 4 [(3, .int (nI i)), (0, .ref h), (1, .ref h2), (2, .int x)] → W p l e R s m args below meth c H locs 0 0 Q (F0 m 8 ls []) := by
    intro k8
    induction k8 with
    | zero => intro i hi hk; exact absurd hk (Nat.not_lt_zero _)
    | succ k8 ih8 =>
      intro i hi hk8 H locs hP hD hS ls hl
      refine lv_iload_n hx hb dX0_or_8 rfl (lv_at hl 0 rfl) ?_
      refine lv_aload_n hx hb dX0_or_9 rfl (lv_at hl 1 rfl) ?_
      refine va_get (D := D) (ci := 0) (v := .ref w) (C := RX0) (T := TX0) (N := 2) hx hb hts in_X0 hown hK hP 0 rfl rfl 0 (by decide) k_92 (fun _ h9 => h9) rfl dX0_or_10 ?_
      refine va_alen hx hb hK hP 1 1 rfl rfl (v := nI nw) rfl dX0_or_13 ?_
      refine lv_icmp_ge (tgt := 47) hx hb dX0_or_14 (by decide) (fun c14 => ?_) (fun c14 => ?_)
      · have c14 : nw ≤ i := su_ge (by omega) (by omega) c14
        obtain ⟨hP, hD⟩ := su_reL (q0 := 1) (bW (V ||| shz F z)) hP hD rfl (fun j hj => su_flN (by omega))
        have hP : va_P D vwCl [(h, .inr (0, [.ref w, .ref sh])), (w, .inl (cL, nw, .inr (.inl (bW (V ||| shz F z))))), (sh, .inl (cL, nw, .inr (.inl (bW (shz F z))))), (h2, .inr (0, [.ref w2, .ref s2])), (w2, .inl (cL, nw, .inr (.inl (bW F))))] H := hP
        have hD : va_D A [(h, .inr (0, [.ref w, .ref sh])), (w, .inl (cL, nw, .inr (.inl (bW (V ||| shz F z))))), (sh, .inl (cL, nw, .inr (.inl (bW (shz F z))))), (h2, .inr (0, [.ref w2, .ref s2])), (w2, .inl (cL, nw, .inr (.inl (bW F))))] := hD
        rw [hQ]
        exact su_ev hx hb hr hlocks hS dX0_or_47 () (trivial) hP hD
      · have c14 : i < nw := su_nge (by omega) (by omega) c14
        refine lv_iload_n hx hb dX0_or_17 rfl (lv_at hl 0 rfl) ?_
        refine lv_aload_n hx hb dX0_or_18 rfl (lv_at hl 1 rfl) ?_
        refine va_get (D := D) (ci := 0) (v := .ref sh) (C := RX0) (T := TX0) (N := 2) hx hb hts in_X0 hown hK hP 0 rfl rfl 1 (by decide) k_93 (fun _ h9 => h9) rfl dX0_or_19 ?_
        refine va_alen hx hb hK hP 2 1 rfl rfl (v := nI nw) rfl dX0_or_22 ?_
        refine lv_icmp_ge (tgt := 47) hx hb dX0_or_23 (by decide) (fun c23 => ?_) (fun c23 => ?_)
        · have c23 : nw ≤ i := su_ge (by omega) (by omega) c23
          omega
        · have c23 : i < nw := su_nge (by omega) (by omega) c23
          refine lv_aload_n hx hb dX0_or_26 rfl (lv_at hl 1 rfl) ?_
          refine va_get (D := D) (ci := 0) (v := .ref w) (C := RX0) (T := TX0) (N := 2) hx hb hts in_X0 hown hK hP 0 rfl rfl 0 (by decide) k_92 (fun _ h9 => h9) rfl dX0_or_27 ?_
          refine lv_iload_n hx hb dX0_or_30 rfl (lv_at hl 0 rfl) ?_
          refine lv_dup2_11 hx hb dX0_or_31 rfl rfl ?_
          refine su_lald hx hb hK hP 1 1 rfl rfl (i := i) (by omega) (by omega) (lN (V >>> (64 * i))) (su_flA i) dX0_or_32 ?_
          refine lv_aload_n hx hb dX0_or_33 rfl (lv_at hl 1 rfl) ?_
          refine va_get (D := D) (ci := 0) (v := .ref sh) (C := RX0) (T := TX0) (N := 2) hx hb hts in_X0 hown hK hP 0 rfl rfl 1 (by decide) k_93 (fun _ h9 => h9) rfl dX0_or_34 ?_
          refine lv_iload_n hx hb dX0_or_37 rfl (lv_at hl 0 rfl) ?_
          refine su_lald hx hb hK hP 2 1 rfl rfl (i := i) (by omega) (by omega) (lN ((shz F z) >>> (64 * i))) (rfl) dX0_or_38 ?_
          refine lv_lor hx hb dX0_or_39 ?_
          refine su_last hx hb hK hP hD hS 1 1 rfl rfl (i := i) (by omega) (by omega) (va_up (su_fl (bW (V ||| shz F z)) (bW V) i) i ((lN (V >>> (64 * i))) ||| (lN ((shz F z) >>> (64 * i))))) (fun _ _ => rfl) dX0_or_40 (fun H locs hP hD hS => ?_)
          have hP : va_P D vwCl [(h, .inr (0, [.ref w, .ref sh])), (w, .inl (cL, nw, .inr (.inl (va_up (su_fl (bW (V ||| shz F z)) (bW V) i) i ((lN (V >>> (64 * i))) ||| (lN ((shz F z) >>> (64 * i)))))))), (sh, .inl (cL, nw, .inr (.inl (bW (shz F z))))), (h2, .inr (0, [.ref w2, .ref s2])), (w2, .inl (cL, nw, .inr (.inl (bW F))))] H := hP
          have hD : va_D A [(h, .inr (0, [.ref w, .ref sh])), (w, .inl (cL, nw, .inr (.inl (va_up (su_fl (bW (V ||| shz F z)) (bW V) i) i ((lN (V >>> (64 * i))) ||| (lN ((shz F z) >>> (64 * i)))))))), (sh, .inl (cL, nw, .inr (.inl (bW (shz F z))))), (h2, .inr (0, [.ref w2, .ref s2])), (w2, .inl (cL, nw, .inr (.inl (bW F))))] := hD
          refine lv_iinc (v := nI (i + 1)) (lv' := [(3, .int (nI (i + 1))), (0, .ref h), (1, .ref h2), (2, .int x)]) hx hb dX0_or_41 hl (k := 0) rfl (su_inc _) (by decide) rfl (fun ls hl => ?_)
          refine lv_goto (tgt := 8) hx hb dX0_or_44 (by decide) ?_
          obtain ⟨hP, hD⟩ := su_reL (q0 := 1) (su_fl (bW (V ||| shz F z)) (bW V) (i + 1)) hP hD rfl (fun j _ => su_flS (bW_or _ _ i) j)
          have hP : va_P D vwCl [(h, .inr (0, [.ref w, .ref sh])), (w, .inl (cL, nw, .inr (.inl (su_fl (bW (V ||| shz F z)) (bW V) (i + 1))))), (sh, .inl (cL, nw, .inr (.inl (bW (shz F z))))), (h2, .inr (0, [.ref w2, .ref s2])), (w2, .inl (cL, nw, .inr (.inl (bW F))))] H := hP
          have hD : va_D A [(h, .inr (0, [.ref w, .ref sh])), (w, .inl (cL, nw, .inr (.inl (su_fl (bW (V ||| shz F z)) (bW V) (i + 1))))), (sh, .inl (cL, nw, .inr (.inl (bW (shz F z))))), (h2, .inr (0, [.ref w2, .ref s2])), (w2, .inl (cL, nw, .inr (.inl (bW F))))] := hD
          exact ih8 (i + 1) (by omega) (by omega) _ _ hP hD hS _ (lv_sub hl [0, 1, 2, 3] rfl)
  obtain ⟨hP, hD⟩ := su_reL (q0 := 1) (su_fl (bW (V ||| shz F z)) (bW V) (0)) hP hD rfl (fun j _ => su_fl0 j)
  have hP : va_P D vwCl [(h, .inr (0, [.ref w, .ref sh])), (w, .inl (cL, nw, .inr (.inl (su_fl (bW (V ||| shz F z)) (bW V) (0))))), (sh, .inl (cL, nw, .inr (.inl (bW (shz F z))))), (h2, .inr (0, [.ref w2, .ref s2])), (w2, .inl (cL, nw, .inr (.inl (bW F))))] H := hP
  have hD : va_D A [(h, .inr (0, [.ref w, .ref sh])), (w, .inl (cL, nw, .inr (.inl (su_fl (bW (V ||| shz F z)) (bW V) (0))))), (sh, .inl (cL, nw, .inr (.inl (bW (shz F z))))), (h2, .inr (0, [.ref w2, .ref s2])), (w2, .inl (cL, nw, .inr (.inl (bW F))))] := hD
  exact loop8 ((nw - (0)) + 1) (0) (by omega) (by omega) _ _ hP hD hS _ (lv_sub hl [0, 1, 2, 3] rfl)
set_option maxHeartbeats 4000000 in
set_option maxRecDepth 100000 in
theorem k_andS (l : Launch) (D : va_G) (cI cL cZ : ClassId) (sz : Nat) (h : Nat) (w : Nat) (sh : Nat) (nw : Nat) (V : Nat) (fs : Nat → Int64) (x : Int32) (z : Int) (hnw : nw ≤ 99) (hV : V < 2 ^ (64 * nw)) (hz : x.toInt = z) (hz1 : -1048576 < z) (hz2 : z < 1048576) :
    Met l yX0_and (ws_ yX0_and cX0_and 4 none) { frames := 2, cells := 0, slots := 0, locals := 70 } (su_pre D (su_T cI cL cZ) sz [(h, .inr (0, [.ref w, .ref sh])), (w, .inl (cL, nw, .inr (.inl (bW V)))), (sh, .inl (cL, nw, .inr (.inl fs)))] [.ref h, .ref h, .int x]) (su_qv D (va_A [(h, .inr (0, [.ref w, .ref sh])), (w, .inl (cL, nw, .inr (.inl (bW V)))), (sh, .inl (cL, nw, .inr (.inl fs)))] sz) (fun (uu : Unit) => True) (fun (uu : Unit) => [(h, .inr (0, [.ref w, .ref sh])), (w, .inl (cL, nw, .inr (.inl (bW (V &&& shz V z))))), (sh, .inl (cL, nw, .inr (.inl (bW (shz V z)))))])) 0 0 (va_A [(h, .inr (0, [.ref w, .ref sh])), (w, .inl (cL, nw, .inr (.inl (bW V)))), (sh, .inl (cL, nw, .inr (.inl fs)))] sz) := by
  refine su_met (Qf := fun A => su_qv D A (fun (uu : Unit) => True) (fun (uu : Unit) => [(h, .inr (0, [.ref w, .ref sh])), (w, .inl (cL, nw, .inr (.inl (bW (V &&& shz V z))))), (sh, .inl (cL, nw, .inr (.inl (bW (shz V z)))))])) (cc := cX0_and) (maxL := 4) (ret := none) (by decide) (Nat.le_of_ble_eq_true rfl) ?_
  intro p e s m args below meth c R Q A H locs ls hx hb hr hlocks hin hml hown hts hN hP hK hD hA hS hRm hQ hl
  have hown : s.vm.findClass RX0 = some m.cls := hown
  have hl : lv_has ls 4 [(0, .ref h), (1, .ref h), (2, .int x)] := hl
  have hR1 : 2 ≤ R.frames := by rw [hRm]; exact Nat.le_of_ble_eq_true rfl
  have hR2 : 70 ≤ R.locals := by rw [hRm]; exact Nat.le_of_ble_eq_true rfl
  have hR3 : 0 ≤ R.cells := by rw [hRm]; exact Nat.le_of_ble_eq_true rfl
  have hR4 : 0 ≤ R.slots := by rw [hRm]; exact Nat.le_of_ble_eq_true rfl
  have k_92 := hts _ q_92
  have k_93 := hts _ q_93
  refine lv_aload_n hx hb dX0_and_0 rfl (lv_at hl 0 rfl) ?_
  refine lv_aload_n hx hb dX0_and_1 rfl (lv_at hl 1 rfl) ?_
  refine lv_iload_n hx hb dX0_and_2 rfl (lv_at hl 2 rfl) ?_
  refine su_cv (wr := []) (va_runV (As := [.ref h, .int x]) (rest := []) ⟨hx, hb, hml, hown, hts⟩ (k_shiftS l D cI cL cZ H.size (h) (w) (sh) (nw) (V) (fs) (x) (z) (hnw) (hV) (hz) (hz1) (hz2)) (cwV 2 hts (lw_gV q_352 q_354 q_1 q_34 q_355) rfl rfl rfl (by decide +kernel) ⟨Nat.le_trans (Nat.le_of_ble_eq_true rfl) hR1, Nat.le_trans (Nat.le_of_ble_eq_true rfl) hR2⟩) (su_pv hN hK hP hD [0, 1, 2] [0, 1, 2] rfl rfl rfl (ci := 0) (q0 := 0) rfl rfl rfl) rfl rfl hl.1 rfl (lv_room (Nat.le_of_ble_eq_true rfl)) dX0_and_3 ⟨Nat.le_trans (Nat.le_of_ble_eq_true rfl) hR3, Nat.le_trans (Nat.le_of_ble_eq_true rfl) hR4⟩) hP hD hS hA [0, 1, 2] [] rfl rfl (by decide) (by decide) (fun uu H locs hw hP hD hS => ?_)
  have hP : va_P D vwCl [(h, .inr (0, [.ref w, .ref sh])), (w, .inl (cL, nw, .inr (.inl (bW V)))), (sh, .inl (cL, nw, .inr (.inl (bW (shz V z)))))] H := hP
  have hD : va_D A [(h, .inr (0, [.ref w, .ref sh])), (w, .inl (cL, nw, .inr (.inl (bW V)))), (sh, .inl (cL, nw, .inr (.inl (bW (shz V z)))))] := hD
  refine lv_iconst (v := nI 0) hx hb dX0_and_6 (by decide) ?_
  refine lv_istore_n (lv' := [(3, .int (nI 0)), (0, .ref h), (1, .ref h), (2, .int x)]) hx hb dX0_and_7 rfl hl (by decide) rfl (fun ls hl => ?_)
  have loop8 : ∀ (k8 : Nat) (i : Nat), (i ≤ nw) → nw - i < k8 → ∀ (H : Heap) (locs : List Loc), va_P D vwCl [(h, .inr (0, [.ref w, .ref sh])), (w, .inl (cL, nw, .inr (.inl (su_fl (bW (V &&& shz V z)) (bW V) i)))), (sh, .inl (cL, nw, .inr (.inl (bW (shz V z)))))] H → va_D A [(h, .inr (0, [.ref w, .ref sh])), (w, .inl (cL, nw, .inr (.inl (su_fl (bW (V &&& shz V z)) (bW V) i)))), (sh, .inl (cL, nw, .inr (.inl (bW (shz V z)))))] → va_S A s.heap H locs → ∀ ls : Array Slot, lv_has ls 4 [(3, .int (nI i)), (0, .ref h), (1, .ref h), (2, .int x)] → W p l e R s m args below meth c H locs 0 0 Q (F0 m 8 ls []) := by
    intro k8
    induction k8 with
    | zero => intro i hi hk; exact absurd hk (Nat.not_lt_zero _)
    | succ k8 ih8 =>
      intro i hi hk8 H locs hP hD hS ls hl
      refine lv_iload_n hx hb dX0_and_8 rfl (lv_at hl 0 rfl) ?_
      refine lv_aload_n hx hb dX0_and_9 rfl (lv_at hl 1 rfl) ?_
      refine va_get (D := D) (ci := 0) (v := .ref w) (C := RX0) (T := TX0) (N := 2) hx hb hts in_X0 hown hK hP 0 rfl rfl 0 (by decide) k_92 (fun _ h9 => h9) rfl dX0_and_10 ?_
      refine va_alen hx hb hK hP 1 1 rfl rfl (v := nI nw) rfl dX0_and_13 ?_
      refine lv_icmp_ge (tgt := 47) hx hb dX0_and_14 (by decide) (fun c14 => ?_) (fun c14 => ?_)
      · have c14 : nw ≤ i := su_ge (by omega) (by omega) c14
        obtain ⟨hP, hD⟩ := su_reL (q0 := 1) (bW (V &&& shz V z)) hP hD rfl (fun j hj => su_flN (by omega))
        have hP : va_P D vwCl [(h, .inr (0, [.ref w, .ref sh])), (w, .inl (cL, nw, .inr (.inl (bW (V &&& shz V z))))), (sh, .inl (cL, nw, .inr (.inl (bW (shz V z)))))] H := hP
        have hD : va_D A [(h, .inr (0, [.ref w, .ref sh])), (w, .inl (cL, nw, .inr (.inl (bW (V &&& shz V z))))), (sh, .inl (cL, nw, .inr (.inl (bW (shz V z)))))] := hD
        rw [hQ]
        exact su_ev hx hb hr hlocks hS dX0_and_47 () (trivial) hP hD
      · have c14 : i < nw := su_nge (by omega) (by omega) c14
        refine lv_iload_n hx hb dX0_and_17 rfl (lv_at hl 0 rfl) ?_
        refine lv_aload_n hx hb dX0_and_18 rfl (lv_at hl 1 rfl) ?_
        refine va_get (D := D) (ci := 0) (v := .ref sh) (C := RX0) (T := TX0) (N := 2) hx hb hts in_X0 hown hK hP 0 rfl rfl 1 (by decide) k_93 (fun _ h9 => h9) rfl dX0_and_19 ?_
        refine va_alen hx hb hK hP 2 1 rfl rfl (v := nI nw) rfl dX0_and_22 ?_
        refine lv_icmp_ge (tgt := 47) hx hb dX0_and_23 (by decide) (fun c23 => ?_) (fun c23 => ?_)
        · have c23 : nw ≤ i := su_ge (by omega) (by omega) c23
          omega
        · have c23 : i < nw := su_nge (by omega) (by omega) c23
          refine lv_aload_n hx hb dX0_and_26 rfl (lv_at hl 1 rfl) ?_
          refine va_get (D := D) (ci := 0) (v := .ref w) (C := RX0) (T := TX0) (N := 2) hx hb hts in_X0 hown hK hP 0 rfl rfl 0 (by decide) k_92 (fun _ h9 => h9) rfl dX0_and_27 ?_
          refine lv_iload_n hx hb dX0_and_30 rfl (lv_at hl 0 rfl) ?_
          refine lv_dup2_11 hx hb dX0_and_31 rfl rfl ?_
          refine su_lald hx hb hK hP 1 1 rfl rfl (i := i) (by omega) (by omega) (lN (V >>> (64 * i))) (su_flA i) dX0_and_32 ?_
          refine lv_aload_n hx hb dX0_and_33 rfl (lv_at hl 1 rfl) ?_
          refine va_get (D := D) (ci := 0) (v := .ref sh) (C := RX0) (T := TX0) (N := 2) hx hb hts in_X0 hown hK hP 0 rfl rfl 1 (by decide) k_93 (fun _ h9 => h9) rfl dX0_and_34 ?_
          refine lv_iload_n hx hb dX0_and_37 rfl (lv_at hl 0 rfl) ?_
          refine su_lald hx hb hK hP 2 1 rfl rfl (i := i) (by omega) (by omega) (lN ((shz V z) >>> (64 * i))) (rfl) dX0_and_38 ?_
          refine lv_land hx hb dX0_and_39 ?_
          refine su_last hx hb hK hP hD hS 1 1 rfl rfl (i := i) (by omega) (by omega) (va_up (su_fl (bW (V &&& shz V z)) (bW V) i) i ((lN (V >>> (64 * i))) &&& (lN ((shz V z) >>> (64 * i))))) (fun _ _ => rfl) dX0_and_40 (fun H locs hP hD hS => ?_)
          have hP : va_P D vwCl [(h, .inr (0, [.ref w, .ref sh])), (w, .inl (cL, nw, .inr (.inl (va_up (su_fl (bW (V &&& shz V z)) (bW V) i) i ((lN (V >>> (64 * i))) &&& (lN ((shz V z) >>> (64 * i)))))))), (sh, .inl (cL, nw, .inr (.inl (bW (shz V z)))))] H := hP
          have hD : va_D A [(h, .inr (0, [.ref w, .ref sh])), (w, .inl (cL, nw, .inr (.inl (va_up (su_fl (bW (V &&& shz V z)) (bW V) i) i ((lN (V >>> (64 * i))) &&& (lN ((shz V z) >>> (64 * i)))))))), (sh, .inl (cL, nw, .inr (.inl (bW (shz V z)))))] := hD
          refine lv_iinc (v := nI (i + 1)) (lv' := [(3, .int (nI (i + 1))), (0, .ref h), (1, .ref h), (2, .int x)]) hx hb dX0_and_41 hl (k := 0) rfl (su_inc _) (by decide) rfl (fun ls hl => ?_)
          refine lv_goto (tgt := 8) hx hb dX0_and_44 (by decide) ?_
          obtain ⟨hP, hD⟩ := su_reL (q0 := 1) (su_fl (bW (V &&& shz V z)) (bW V) (i + 1)) hP hD rfl (fun j _ => su_flS (bW_and _ _ i) j)
          have hP : va_P D vwCl [(h, .inr (0, [.ref w, .ref sh])), (w, .inl (cL, nw, .inr (.inl (su_fl (bW (V &&& shz V z)) (bW V) (i + 1))))), (sh, .inl (cL, nw, .inr (.inl (bW (shz V z)))))] H := hP
          have hD : va_D A [(h, .inr (0, [.ref w, .ref sh])), (w, .inl (cL, nw, .inr (.inl (su_fl (bW (V &&& shz V z)) (bW V) (i + 1))))), (sh, .inl (cL, nw, .inr (.inl (bW (shz V z)))))] := hD
          exact ih8 (i + 1) (by omega) (by omega) _ _ hP hD hS _ (lv_sub hl [0, 1, 2, 3] rfl)
  obtain ⟨hP, hD⟩ := su_reL (q0 := 1) (su_fl (bW (V &&& shz V z)) (bW V) (0)) hP hD rfl (fun j _ => su_fl0 j)
  have hP : va_P D vwCl [(h, .inr (0, [.ref w, .ref sh])), (w, .inl (cL, nw, .inr (.inl (su_fl (bW (V &&& shz V z)) (bW V) (0))))), (sh, .inl (cL, nw, .inr (.inl (bW (shz V z)))))] H := hP
  have hD : va_D A [(h, .inr (0, [.ref w, .ref sh])), (w, .inl (cL, nw, .inr (.inl (su_fl (bW (V &&& shz V z)) (bW V) (0))))), (sh, .inl (cL, nw, .inr (.inl (bW (shz V z)))))] := hD
  exact loop8 ((nw - (0)) + 1) (0) (by omega) (by omega) _ _ hP hD hS _ (lv_sub hl [0, 1, 2, 3] rfl)
set_option maxHeartbeats 4000000 in
set_option maxRecDepth 100000 in
theorem k_andO (l : Launch) (D : va_G) (cI cL cZ : ClassId) (sz : Nat) (h : Nat) (w : Nat) (sh : Nat) (nw : Nat) (V : Nat) (fs : Nat → Int64) (h2 : Nat) (w2 : Nat) (s2 : Nat) (F : Nat) (x : Int32) (z : Int) (hnw : nw ≤ 99) (hF : F < 2 ^ (64 * nw)) (hz : x.toInt = z) (hz1 : -1048576 < z) (hz2 : z < 1048576) :
    Met l yX0_and (ws_ yX0_and cX0_and 4 none) { frames := 2, cells := 0, slots := 0, locals := 70 } (su_pre D (su_T cI cL cZ) sz [(h, .inr (0, [.ref w, .ref sh])), (w, .inl (cL, nw, .inr (.inl (bW V)))), (sh, .inl (cL, nw, .inr (.inl fs))), (h2, .inr (0, [.ref w2, .ref s2])), (w2, .inl (cL, nw, .inr (.inl (bW F))))] [.ref h, .ref h2, .int x]) (su_qv D (va_A [(h, .inr (0, [.ref w, .ref sh])), (w, .inl (cL, nw, .inr (.inl (bW V)))), (sh, .inl (cL, nw, .inr (.inl fs))), (h2, .inr (0, [.ref w2, .ref s2])), (w2, .inl (cL, nw, .inr (.inl (bW F))))] sz) (fun (uu : Unit) => True) (fun (uu : Unit) => [(h, .inr (0, [.ref w, .ref sh])), (w, .inl (cL, nw, .inr (.inl (bW (V &&& shz F z))))), (sh, .inl (cL, nw, .inr (.inl (bW (shz F z))))), (h2, .inr (0, [.ref w2, .ref s2])), (w2, .inl (cL, nw, .inr (.inl (bW F))))])) 0 0 (va_A [(h, .inr (0, [.ref w, .ref sh])), (w, .inl (cL, nw, .inr (.inl (bW V)))), (sh, .inl (cL, nw, .inr (.inl fs))), (h2, .inr (0, [.ref w2, .ref s2])), (w2, .inl (cL, nw, .inr (.inl (bW F))))] sz) := by
  refine su_met (Qf := fun A => su_qv D A (fun (uu : Unit) => True) (fun (uu : Unit) => [(h, .inr (0, [.ref w, .ref sh])), (w, .inl (cL, nw, .inr (.inl (bW (V &&& shz F z))))), (sh, .inl (cL, nw, .inr (.inl (bW (shz F z))))), (h2, .inr (0, [.ref w2, .ref s2])), (w2, .inl (cL, nw, .inr (.inl (bW F))))])) (cc := cX0_and) (maxL := 4) (ret := none) (by decide) (Nat.le_of_ble_eq_true rfl) ?_
  intro p e s m args below meth c R Q A H locs ls hx hb hr hlocks hin hml hown hts hN hP hK hD hA hS hRm hQ hl
  have hown : s.vm.findClass RX0 = some m.cls := hown
  have hl : lv_has ls 4 [(0, .ref h), (1, .ref h2), (2, .int x)] := hl
  have hR1 : 2 ≤ R.frames := by rw [hRm]; exact Nat.le_of_ble_eq_true rfl
  have hR2 : 70 ≤ R.locals := by rw [hRm]; exact Nat.le_of_ble_eq_true rfl
  have hR3 : 0 ≤ R.cells := by rw [hRm]; exact Nat.le_of_ble_eq_true rfl
  have hR4 : 0 ≤ R.slots := by rw [hRm]; exact Nat.le_of_ble_eq_true rfl
  have k_92 := hts _ q_92
  have k_93 := hts _ q_93
  refine lv_aload_n hx hb dX0_and_0 rfl (lv_at hl 0 rfl) ?_
  refine lv_aload_n hx hb dX0_and_1 rfl (lv_at hl 1 rfl) ?_
  refine lv_iload_n hx hb dX0_and_2 rfl (lv_at hl 2 rfl) ?_
  refine su_cv (wr := []) (va_runV (As := [.ref h2, .int x]) (rest := []) ⟨hx, hb, hml, hown, hts⟩ (k_shiftO l D cI cL cZ H.size (h) (w) (sh) (nw) (bW V) (fs) (h2) (w2) (s2) (F) (x) (z) (hnw) (hF) (hz) (hz1) (hz2)) (cwV 2 hts (lw_gV q_352 q_354 q_1 q_34 q_355) rfl rfl rfl (by decide +kernel) ⟨Nat.le_trans (Nat.le_of_ble_eq_true rfl) hR1, Nat.le_trans (Nat.le_of_ble_eq_true rfl) hR2⟩) (su_pv hN hK hP hD [0, 1, 2, 3, 4] [0, 1, 2] rfl rfl rfl (ci := 0) (q0 := 0) rfl rfl rfl) rfl rfl hl.1 rfl (lv_room (Nat.le_of_ble_eq_true rfl)) dX0_and_3 ⟨Nat.le_trans (Nat.le_of_ble_eq_true rfl) hR3, Nat.le_trans (Nat.le_of_ble_eq_true rfl) hR4⟩) hP hD hS hA [0, 1, 2, 3, 4] [] rfl rfl (by decide) (by decide) (fun uu H locs hw hP hD hS => ?_)
  have hP : va_P D vwCl [(h, .inr (0, [.ref w, .ref sh])), (w, .inl (cL, nw, .inr (.inl (bW V)))), (sh, .inl (cL, nw, .inr (.inl (bW (shz F z))))), (h2, .inr (0, [.ref w2, .ref s2])), (w2, .inl (cL, nw, .inr (.inl (bW F))))] H := hP
  have hD : va_D A [(h, .inr (0, [.ref w, .ref sh])), (w, .inl (cL, nw, .inr (.inl (bW V)))), (sh, .inl (cL, nw, .inr (.inl (bW (shz F z))))), (h2, .inr (0, [.ref w2, .ref s2])), (w2, .inl (cL, nw, .inr (.inl (bW F))))] := hD
  refine lv_iconst (v := nI 0) hx hb dX0_and_6 (by decide) ?_
  refine lv_istore_n (lv' := [(3, .int (nI 0)), (0, .ref h), (1, .ref h2), (2, .int x)]) hx hb dX0_and_7 rfl hl (by decide) rfl (fun ls hl => ?_)
  have loop8 : ∀ (k8 : Nat) (i : Nat), (i ≤ nw) → nw - i < k8 → ∀ (H : Heap) (locs : List Loc), va_P D vwCl [(h, .inr (0, [.ref w, .ref sh])), (w, .inl (cL, nw, .inr (.inl (su_fl (bW (V &&& shz F z)) (bW V) i)))), (sh, .inl (cL, nw, .inr (.inl (bW (shz F z))))), (h2, .inr (0, [.ref w2, .ref s2])), (w2, .inl (cL, nw, .inr (.inl (bW F))))] H → va_D A [(h, .inr (0, [.ref w, .ref sh])), (w, .inl (cL, nw, .inr (.inl (su_fl (bW (V &&& shz F z)) (bW V) i)))), (sh, .inl (cL, nw, .inr (.inl (bW (shz F z))))), (h2, .inr (0, [.ref w2, .ref s2])), (w2, .inl (cL, nw, .inr (.inl (bW F))))] → va_S A s.heap H locs → ∀ ls : Array Slot, lv_has ls 4 [(3, .int (nI i)), (0, .ref h), (1, .ref h2), (2, .int x)] → W p l e R s m args below meth c H locs 0 0 Q (F0 m 8 ls []) := by
    intro k8
    induction k8 with
    | zero => intro i hi hk; exact absurd hk (Nat.not_lt_zero _)
    | succ k8 ih8 =>
      intro i hi hk8 H locs hP hD hS ls hl
      refine lv_iload_n hx hb dX0_and_8 rfl (lv_at hl 0 rfl) ?_
      refine lv_aload_n hx hb dX0_and_9 rfl (lv_at hl 1 rfl) ?_
      refine va_get (D := D) (ci := 0) (v := .ref w) (C := RX0) (T := TX0) (N := 2) hx hb hts in_X0 hown hK hP 0 rfl rfl 0 (by decide) k_92 (fun _ h9 => h9) rfl dX0_and_10 ?_
      refine va_alen hx hb hK hP 1 1 rfl rfl (v := nI nw) rfl dX0_and_13 ?_
      refine lv_icmp_ge (tgt := 47) hx hb dX0_and_14 (by decide) (fun c14 => ?_) (fun c14 => ?_)
      · have c14 : nw ≤ i := su_ge (by omega) (by omega) c14
        obtain ⟨hP, hD⟩ := su_reL (q0 := 1) (bW (V &&& shz F z)) hP hD rfl (fun j hj => su_flN (by omega))
        have hP : va_P D vwCl [(h, .inr (0, [.ref w, .ref sh])), (w, .inl (cL, nw, .inr (.inl (bW (V &&& shz F z))))), (sh, .inl (cL, nw, .inr (.inl (bW (shz F z))))), (h2, .inr (0, [.ref w2, .ref s2])), (w2, .inl (cL, nw, .inr (.inl (bW F))))] H := hP
        have hD : va_D A [(h, .inr (0, [.ref w, .ref sh])), (w, .inl (cL, nw, .inr (.inl (bW (V &&& shz F z))))), (sh, .inl (cL, nw, .inr (.inl (bW (shz F z))))), (h2, .inr (0, [.ref w2, .ref s2])), (w2, .inl (cL, nw, .inr (.inl (bW F))))] := hD
        rw [hQ]
        exact su_ev hx hb hr hlocks hS dX0_and_47 () (trivial) hP hD
      · have c14 : i < nw := su_nge (by omega) (by omega) c14
        refine lv_iload_n hx hb dX0_and_17 rfl (lv_at hl 0 rfl) ?_
        refine lv_aload_n hx hb dX0_and_18 rfl (lv_at hl 1 rfl) ?_
        refine va_get (D := D) (ci := 0) (v := .ref sh) (C := RX0) (T := TX0) (N := 2) hx hb hts in_X0 hown hK hP 0 rfl rfl 1 (by decide) k_93 (fun _ h9 => h9) rfl dX0_and_19 ?_
        refine va_alen hx hb hK hP 2 1 rfl rfl (v := nI nw) rfl dX0_and_22 ?_
        refine lv_icmp_ge (tgt := 47) hx hb dX0_and_23 (by decide) (fun c23 => ?_) (fun c23 => ?_)
        · have c23 : nw ≤ i := su_ge (by omega) (by omega) c23
          omega
        · have c23 : i < nw := su_nge (by omega) (by omega) c23
          refine lv_aload_n hx hb dX0_and_26 rfl (lv_at hl 1 rfl) ?_
          refine va_get (D := D) (ci := 0) (v := .ref w) (C := RX0) (T := TX0) (N := 2) hx hb hts in_X0 hown hK hP 0 rfl rfl 0 (by decide) k_92 (fun _ h9 => h9) rfl dX0_and_27 ?_
          refine lv_iload_n hx hb dX0_and_30 rfl (lv_at hl 0 rfl) ?_
          refine lv_dup2_11 hx hb dX0_and_31 rfl rfl ?_
          refine su_lald hx hb hK hP 1 1 rfl rfl (i := i) (by omega) (by omega) (lN (V >>> (64 * i))) (su_flA i) dX0_and_32 ?_
          refine lv_aload_n hx hb dX0_and_33 rfl (lv_at hl 1 rfl) ?_
          refine va_get (D := D) (ci := 0) (v := .ref sh) (C := RX0) (T := TX0) (N := 2) hx hb hts in_X0 hown hK hP 0 rfl rfl 1 (by decide) k_93 (fun _ h9 => h9) rfl dX0_and_34 ?_
          refine lv_iload_n hx hb dX0_and_37 rfl (lv_at hl 0 rfl) ?_
          refine su_lald hx hb hK hP 2 1 rfl rfl (i := i) (by omega) (by omega) (lN ((shz F z) >>> (64 * i))) (rfl) dX0_and_38 ?_
          refine lv_land hx hb dX0_and_39 ?_
          refine su_last hx hb hK hP hD hS 1 1 rfl rfl (i := i) (by omega) (by omega) (va_up (su_fl (bW (V &&& shz F z)) (bW V) i) i ((lN (V >>> (64 * i))) &&& (lN ((shz F z) >>> (64 * i))))) (fun _ _ => rfl) dX0_and_40 (fun H locs hP hD hS => ?_)
          have hP : va_P D vwCl [(h, .inr (0, [.ref w, .ref sh])), (w, .inl (cL, nw, .inr (.inl (va_up (su_fl (bW (V &&& shz F z)) (bW V) i) i ((lN (V >>> (64 * i))) &&& (lN ((shz F z) >>> (64 * i)))))))), (sh, .inl (cL, nw, .inr (.inl (bW (shz F z))))), (h2, .inr (0, [.ref w2, .ref s2])), (w2, .inl (cL, nw, .inr (.inl (bW F))))] H := hP
          have hD : va_D A [(h, .inr (0, [.ref w, .ref sh])), (w, .inl (cL, nw, .inr (.inl (va_up (su_fl (bW (V &&& shz F z)) (bW V) i) i ((lN (V >>> (64 * i))) &&& (lN ((shz F z) >>> (64 * i)))))))), (sh, .inl (cL, nw, .inr (.inl (bW (shz F z))))), (h2, .inr (0, [.ref w2, .ref s2])), (w2, .inl (cL, nw, .inr (.inl (bW F))))] := hD
          refine lv_iinc (v := nI (i + 1)) (lv' := [(3, .int (nI (i + 1))), (0, .ref h), (1, .ref h2), (2, .int x)]) hx hb dX0_and_41 hl (k := 0) rfl (su_inc _) (by decide) rfl (fun ls hl => ?_)
          refine lv_goto (tgt := 8) hx hb dX0_and_44 (by decide) ?_
          obtain ⟨hP, hD⟩ := su_reL (q0 := 1) (su_fl (bW (V &&& shz F z)) (bW V) (i + 1)) hP hD rfl (fun j _ => su_flS (bW_and _ _ i) j)
          have hP : va_P D vwCl [(h, .inr (0, [.ref w, .ref sh])), (w, .inl (cL, nw, .inr (.inl (su_fl (bW (V &&& shz F z)) (bW V) (i + 1))))), (sh, .inl (cL, nw, .inr (.inl (bW (shz F z))))), (h2, .inr (0, [.ref w2, .ref s2])), (w2, .inl (cL, nw, .inr (.inl (bW F))))] H := hP
          have hD : va_D A [(h, .inr (0, [.ref w, .ref sh])), (w, .inl (cL, nw, .inr (.inl (su_fl (bW (V &&& shz F z)) (bW V) (i + 1))))), (sh, .inl (cL, nw, .inr (.inl (bW (shz F z))))), (h2, .inr (0, [.ref w2, .ref s2])), (w2, .inl (cL, nw, .inr (.inl (bW F))))] := hD
          exact ih8 (i + 1) (by omega) (by omega) _ _ hP hD hS _ (lv_sub hl [0, 1, 2, 3] rfl)
  obtain ⟨hP, hD⟩ := su_reL (q0 := 1) (su_fl (bW (V &&& shz F z)) (bW V) (0)) hP hD rfl (fun j _ => su_fl0 j)
  have hP : va_P D vwCl [(h, .inr (0, [.ref w, .ref sh])), (w, .inl (cL, nw, .inr (.inl (su_fl (bW (V &&& shz F z)) (bW V) (0))))), (sh, .inl (cL, nw, .inr (.inl (bW (shz F z))))), (h2, .inr (0, [.ref w2, .ref s2])), (w2, .inl (cL, nw, .inr (.inl (bW F))))] H := hP
  have hD : va_D A [(h, .inr (0, [.ref w, .ref sh])), (w, .inl (cL, nw, .inr (.inl (su_fl (bW (V &&& shz F z)) (bW V) (0))))), (sh, .inl (cL, nw, .inr (.inl (bW (shz F z))))), (h2, .inr (0, [.ref w2, .ref s2])), (w2, .inl (cL, nw, .inr (.inl (bW F))))] := hD
  exact loop8 ((nw - (0)) + 1) (0) (by omega) (by omega) _ _ hP hD hS _ (lv_sub hl [0, 1, 2, 3] rfl)
set_option maxHeartbeats 4000000 in
set_option maxRecDepth 100000 in
theorem k_plusS (l : Launch) (D : va_G) (cI cL cZ : ClassId) (sz : Nat) (h : Nat) (w : Nat) (sh : Nat) (nw : Nat) (V : Nat) (fs : Nat → Int64) (x : Int32) (z : Int) (hnw : nw ≤ 99) (hV : V < 2 ^ (64 * nw)) (hz : x.toInt = z) (hz1 : -1048576 < z) (hz2 : z < 1048576) :
    Met l yX0_plus (ws_ yX0_plus cX0_plus 12 none) { frames := 2, cells := 0, slots := 0, locals := 70 } (su_pre D (su_T cI cL cZ) sz [(h, .inr (0, [.ref w, .ref sh])), (w, .inl (cL, nw, .inr (.inl (bW V)))), (sh, .inl (cL, nw, .inr (.inl fs)))] [.ref h, .ref h, .int x]) (su_qv D (va_A [(h, .inr (0, [.ref w, .ref sh])), (w, .inl (cL, nw, .inr (.inl (bW V)))), (sh, .inl (cL, nw, .inr (.inl fs)))] sz) (fun (uu : Unit) => True) (fun (uu : Unit) => [(h, .inr (0, [.ref w, .ref sh])), (w, .inl (cL, nw, .inr (.inl (bW (V + shz V z))))), (sh, .inl (cL, nw, .inr (.inl (bW (shz V z)))))])) 0 0 (va_A [(h, .inr (0, [.ref w, .ref sh])), (w, .inl (cL, nw, .inr (.inl (bW V)))), (sh, .inl (cL, nw, .inr (.inl fs)))] sz) := by
  refine su_met (Qf := fun A => su_qv D A (fun (uu : Unit) => True) (fun (uu : Unit) => [(h, .inr (0, [.ref w, .ref sh])), (w, .inl (cL, nw, .inr (.inl (bW (V + shz V z))))), (sh, .inl (cL, nw, .inr (.inl (bW (shz V z)))))])) (cc := cX0_plus) (maxL := 12) (ret := none) (by decide) (Nat.le_of_ble_eq_true rfl) ?_
  intro p e s m args below meth c R Q A H locs ls hx hb hr hlocks hin hml hown hts hN hP hK hD hA hS hRm hQ hl
  have hown : s.vm.findClass RX0 = some m.cls := hown
  have hl : lv_has ls 12 [(0, .ref h), (1, .ref h), (2, .int x)] := hl
  have hR1 : 2 ≤ R.frames := by rw [hRm]; exact Nat.le_of_ble_eq_true rfl
  have hR2 : 70 ≤ R.locals := by rw [hRm]; exact Nat.le_of_ble_eq_true rfl
  have hR3 : 0 ≤ R.cells := by rw [hRm]; exact Nat.le_of_ble_eq_true rfl
  have hR4 : 0 ≤ R.slots := by rw [hRm]; exact Nat.le_of_ble_eq_true rfl
  have k_92 := hts _ q_92
  have k_93 := hts _ q_93
  have k_104 := hts _ q_104
  refine lv_aload_n hx hb dX0_plus_0 rfl (lv_at hl 0 rfl) ?_
  refine lv_aload_n hx hb dX0_plus_1 rfl (lv_at hl 1 rfl) ?_
  refine lv_iload_n hx hb dX0_plus_2 rfl (lv_at hl 2 rfl) ?_
  refine su_cv (wr := []) (va_runV (As := [.ref h, .int x]) (rest := []) ⟨hx, hb, hml, hown, hts⟩ (k_shiftS l D cI cL cZ H.size (h) (w) (sh) (nw) (V) (fs) (x) (z) (hnw) (hV) (hz) (hz1) (hz2)) (cwV 2 hts (lw_gV q_352 q_354 q_1 q_34 q_355) rfl rfl rfl (by decide +kernel) ⟨Nat.le_trans (Nat.le_of_ble_eq_true rfl) hR1, Nat.le_trans (Nat.le_of_ble_eq_true rfl) hR2⟩) (su_pv hN hK hP hD [0, 1, 2] [0, 1, 2] rfl rfl rfl (ci := 0) (q0 := 0) rfl rfl rfl) rfl rfl hl.1 rfl (lv_room (Nat.le_of_ble_eq_true rfl)) dX0_plus_3 ⟨Nat.le_trans (Nat.le_of_ble_eq_true rfl) hR3, Nat.le_trans (Nat.le_of_ble_eq_true rfl) hR4⟩) hP hD hS hA [0, 1, 2] [] rfl rfl (by decide) (by decide) (fun uu H locs hw hP hD hS => ?_)
  have hP : va_P D vwCl [(h, .inr (0, [.ref w, .ref sh])), (w, .inl (cL, nw, .inr (.inl (bW V)))), (sh, .inl (cL, nw, .inr (.inl (bW (shz V z)))))] H := hP
  have hD : va_D A [(h, .inr (0, [.ref w, .ref sh])), (w, .inl (cL, nw, .inr (.inl (bW V)))), (sh, .inl (cL, nw, .inr (.inl (bW (shz V z)))))] := hD
  refine lv_lconst (v := lN 0) hx hb dX0_plus_6 (by decide) ?_
  refine lv_lstore_n (lv' := [(3, .long (lN 0)), (0, .ref h), (1, .ref h), (2, .int x)]) hx hb dX0_plus_7 rfl hl (by decide) rfl (fun ls hl => ?_)
  refine lv_iconst (v := nI 0) hx hb dX0_plus_8 (by decide) ?_
  refine lv_istore (lv' := [(5, .int (nI 0)), (3, .long (lN 0)), (0, .ref h), (1, .ref h), (2, .int x)]) hx hb dX0_plus_9 hl (by decide) rfl (fun ls hl => ?_)
  have loop11 : ∀ (k11 : Nat) (i : Nat), (i ≤ nw) → nw - i < k11 → ∀ (H : Heap) (locs : List Loc), va_P D vwCl [(h, .inr (0, [.ref w, .ref sh])), (w, .inl (cL, nw, .inr (.inl (su_fl (bW (V + shz V z)) (bW V) i)))), (sh, .inl (cL, nw, .inr (.inl (bW (shz V z)))))] H → va_D A [(h, .inr (0, [.ref w, .ref sh])), (w, .inl (cL, nw, .inr (.inl (su_fl (bW (V + shz V z)) (bW V) i)))), (sh, .inl (cL, nw, .inr (.inl (bW (shz V z)))))] → va_S A s.heap H locs → ∀ ls : Array Slot, lv_has ls 12 [(5, .int (nI i)), (3, .long (lN (cry V (shz V z) i))), (0, .ref h), (1, .ref h), (2, .int x)] → W p l e R s m args below meth c H locs 0 0 Q (F0 m 11 ls []) := by
    intro k11
    induction k11 with
    | zero => intro i hi hk; exact absurd hk (Nat.not_lt_zero _)
    | succ k11 ih11 =>
      intro i hi hk11 H locs hP hD hS ls hl
      refine lv_iload hx hb dX0_plus_11 (lv_at hl 0 rfl) ?_
      refine lv_aload_n hx hb dX0_plus_13 rfl (lv_at hl 2 rfl) ?_
      refine va_get (D := D) (ci := 0) (v := .ref w) (C := RX0) (T := TX0) (N := 2) hx hb hts in_X0 hown hK hP 0 rfl rfl 0 (by decide) k_92 (fun _ h9 => h9) rfl dX0_plus_14 ?_
      refine va_alen hx hb hK hP 1 1 rfl rfl (v := nI nw) rfl dX0_plus_17 ?_
      refine lv_icmp_ge (tgt := 95) hx hb dX0_plus_18 (by decide) (fun c18 => ?_) (fun c18 => ?_)
      · have c18 : nw ≤ i := su_ge (by omega) (by omega) c18
        obtain ⟨hP, hD⟩ := su_reL (q0 := 1) (bW (V + shz V z)) hP hD rfl (fun j hj => su_flN (by omega))
        have hP : va_P D vwCl [(h, .inr (0, [.ref w, .ref sh])), (w, .inl (cL, nw, .inr (.inl (bW (V + shz V z))))), (sh, .inl (cL, nw, .inr (.inl (bW (shz V z)))))] H := hP
        have hD : va_D A [(h, .inr (0, [.ref w, .ref sh])), (w, .inl (cL, nw, .inr (.inl (bW (V + shz V z))))), (sh, .inl (cL, nw, .inr (.inl (bW (shz V z)))))] := hD
        rw [hQ]
        exact su_ev hx hb hr hlocks hS dX0_plus_95 () (trivial) hP hD
      · have c18 : i < nw := su_nge (by omega) (by omega) c18
        refine lv_iload hx hb dX0_plus_21 (lv_at hl 0 rfl) ?_
        refine lv_aload_n hx hb dX0_plus_23 rfl (lv_at hl 2 rfl) ?_
        refine va_get (D := D) (ci := 0) (v := .ref sh) (C := RX0) (T := TX0) (N := 2) hx hb hts in_X0 hown hK hP 0 rfl rfl 1 (by decide) k_93 (fun _ h9 => h9) rfl dX0_plus_24 ?_
        refine va_alen hx hb hK hP 2 1 rfl rfl (v := nI nw) rfl dX0_plus_27 ?_
        refine lv_icmp_ge (tgt := 95) hx hb dX0_plus_28 (by decide) (fun c28 => ?_) (fun c28 => ?_)
        · have c28 : nw ≤ i := su_ge (by omega) (by omega) c28
          omega
        · have c28 : i < nw := su_nge (by omega) (by omega) c28
          refine lv_aload_n hx hb dX0_plus_31 rfl (lv_at hl 2 rfl) ?_
          refine va_get (D := D) (ci := 0) (v := .ref w) (C := RX0) (T := TX0) (N := 2) hx hb hts in_X0 hown hK hP 0 rfl rfl 0 (by decide) k_92 (fun _ h9 => h9) rfl dX0_plus_32 ?_
          refine lv_iload hx hb dX0_plus_35 (lv_at hl 0 rfl) ?_
          refine su_lald hx hb hK hP 1 1 rfl rfl (i := i) (by omega) (by omega) (lN (V >>> (64 * i))) (su_flA i) dX0_plus_37 ?_
          refine lv_lstore (lv' := [(6, .long (lN (V >>> (64 * i)))), (5, .int (nI i)), (3, .long (lN (cry V (shz V z) i))), (0, .ref h), (1, .ref h), (2, .int x)]) hx hb dX0_plus_38 hl (by decide) rfl (fun ls hl => ?_)
          refine lv_aload_n hx hb dX0_plus_40 rfl (lv_at hl 3 rfl) ?_
          refine va_get (D := D) (ci := 0) (v := .ref sh) (C := RX0) (T := TX0) (N := 2) hx hb hts in_X0 hown hK hP 0 rfl rfl 1 (by decide) k_93 (fun _ h9 => h9) rfl dX0_plus_41 ?_
          refine lv_iload hx hb dX0_plus_44 (lv_at hl 1 rfl) ?_
          refine su_lald hx hb hK hP 2 1 rfl rfl (i := i) (by omega) (by omega) (lN (shz V z >>> (64 * i))) (rfl) dX0_plus_46 ?_
          refine lv_lstore (lv' := [(8, .long (lN (shz V z >>> (64 * i)))), (6, .long (lN (V >>> (64 * i)))), (5, .int (nI i)), (3, .long (lN (cry V (shz V z) i))), (0, .ref h), (1, .ref h), (2, .int x)]) hx hb dX0_plus_47 hl (by decide) rfl (fun ls hl => ?_)
          refine lv_lload hx hb dX0_plus_49 (lv_at hl 1 rfl) ?_
          refine lv_lload hx hb dX0_plus_51 (lv_at hl 0 rfl) ?_
          refine lv_ladd hx hb dX0_plus_53 ?_
          refine su_eql (lN ((V >>> (64 * i)) + (shz V z >>> (64 * i)))) (lN_add _ _) ?_
          refine lv_lload_n hx hb dX0_plus_54 rfl (lv_at hl 3 rfl) ?_
          refine lv_ladd hx hb dX0_plus_55 ?_
          refine su_eql (lN (((V >>> (64 * i)) + (shz V z >>> (64 * i))) + (cry V (shz V z) i))) (lN_add _ _) ?_
          refine lv_lstore (lv' := [(10, .long (lN (((V >>> (64 * i)) + (shz V z >>> (64 * i))) + (cry V (shz V z) i)))), (8, .long (lN (shz V z >>> (64 * i)))), (6, .long (lN (V >>> (64 * i)))), (5, .int (nI i)), (3, .long (lN (cry V (shz V z) i))), (0, .ref h), (1, .ref h), (2, .int x)]) hx hb dX0_plus_56 hl (by decide) rfl (fun ls hl => ?_)
          refine lv_lload hx hb dX0_plus_58 (lv_at hl 2 rfl) ?_
          refine lv_lload hx hb dX0_plus_60 (lv_at hl 1 rfl) ?_
          refine lv_land hx hb dX0_plus_62 ?_
          refine lv_lload hx hb dX0_plus_63 (lv_at hl 2 rfl) ?_
          refine lv_lload hx hb dX0_plus_65 (lv_at hl 1 rfl) ?_
          refine lv_lor hx hb dX0_plus_67 ?_
          refine lv_lload hx hb dX0_plus_68 (lv_at hl 0 rfl) ?_
          refine lv_ldc2 hx hb hown k_104 dX0_plus_70 ?_
          refine lv_lxor hx hb dX0_plus_73 ?_
          refine lv_land hx hb dX0_plus_74 ?_
          refine lv_lor hx hb dX0_plus_75 ?_
          refine lv_bipush (v := nI 63) hx hb dX0_plus_76 (by decide) ?_
          refine lv_lushr (v := lN (cry V (shz V z) (i + 1))) hx hb dX0_plus_78 (by rw [su_carry (cry1 _ _ _), cryS]) ?_
          refine lv_lstore_n (lv' := [(3, .long (lN (cry V (shz V z) (i + 1)))), (10, .long (lN (((V >>> (64 * i)) + (shz V z >>> (64 * i))) + (cry V (shz V z) i)))), (8, .long (lN (shz V z >>> (64 * i)))), (6, .long (lN (V >>> (64 * i)))), (5, .int (nI i)), (0, .ref h), (1, .ref h), (2, .int x)]) hx hb dX0_plus_79 rfl hl (by decide) rfl (fun ls hl => ?_)
          refine lv_aload_n hx hb dX0_plus_80 rfl (lv_at hl 5 rfl) ?_
          refine va_get (D := D) (ci := 0) (v := .ref w) (C := RX0) (T := TX0) (N := 2) hx hb hts in_X0 hown hK hP 0 rfl rfl 0 (by decide) k_92 (fun _ h9 => h9) rfl dX0_plus_81 ?_
          refine lv_iload hx hb dX0_plus_84 (lv_at hl 4 rfl) ?_
          refine lv_lload hx hb dX0_plus_86 (lv_at hl 1 rfl) ?_
          refine su_last hx hb hK hP hD hS 1 1 rfl rfl (i := i) (by omega) (by omega) (va_up (su_fl (bW (V + shz V z)) (bW V) i) i (lN (((V >>> (64 * i)) + (shz V z >>> (64 * i))) + (cry V (shz V z) i)))) (fun _ _ => rfl) dX0_plus_88 (fun H locs hP hD hS => ?_)
          have hP : va_P D vwCl [(h, .inr (0, [.ref w, .ref sh])), (w, .inl (cL, nw, .inr (.inl (va_up (su_fl (bW (V + shz V z)) (bW V) i) i (lN (((V >>> (64 * i)) + (shz V z >>> (64 * i))) + (cry V (shz V z) i))))))), (sh, .inl (cL, nw, .inr (.inl (bW (shz V z)))))] H := hP
          have hD : va_D A [(h, .inr (0, [.ref w, .ref sh])), (w, .inl (cL, nw, .inr (.inl (va_up (su_fl (bW (V + shz V z)) (bW V) i) i (lN (((V >>> (64 * i)) + (shz V z >>> (64 * i))) + (cry V (shz V z) i))))))), (sh, .inl (cL, nw, .inr (.inl (bW (shz V z)))))] := hD
          refine lv_iinc (v := nI (i + 1)) (lv' := [(5, .int (nI (i + 1))), (3, .long (lN (cry V (shz V z) (i + 1)))), (10, .long (lN (((V >>> (64 * i)) + (shz V z >>> (64 * i))) + (cry V (shz V z) i)))), (8, .long (lN (shz V z >>> (64 * i)))), (6, .long (lN (V >>> (64 * i)))), (0, .ref h), (1, .ref h), (2, .int x)]) hx hb dX0_plus_89 hl (k := 4) rfl (su_inc _) (by decide) rfl (fun ls hl => ?_)
          refine lv_goto (tgt := 11) hx hb dX0_plus_92 (by decide) ?_
          obtain ⟨hP, hD⟩ := su_reL (q0 := 1) (su_fl (bW (V + shz V z)) (bW V) (i + 1)) hP hD rfl (fun j _ => su_flS (by rw [su_addW]; rfl) j)
          have hP : va_P D vwCl [(h, .inr (0, [.ref w, .ref sh])), (w, .inl (cL, nw, .inr (.inl (su_fl (bW (V + shz V z)) (bW V) (i + 1))))), (sh, .inl (cL, nw, .inr (.inl (bW (shz V z)))))] H := hP
          have hD : va_D A [(h, .inr (0, [.ref w, .ref sh])), (w, .inl (cL, nw, .inr (.inl (su_fl (bW (V + shz V z)) (bW V) (i + 1))))), (sh, .inl (cL, nw, .inr (.inl (bW (shz V z)))))] := hD
          exact ih11 (i + 1) (by omega) (by omega) _ _ hP hD hS _ (lv_sub hl [0, 1, 5, 6, 7] rfl)
  obtain ⟨hP, hD⟩ := su_reL (q0 := 1) (su_fl (bW (V + shz V z)) (bW V) (0)) hP hD rfl (fun j _ => su_fl0 j)
  have hP : va_P D vwCl [(h, .inr (0, [.ref w, .ref sh])), (w, .inl (cL, nw, .inr (.inl (su_fl (bW (V + shz V z)) (bW V) (0))))), (sh, .inl (cL, nw, .inr (.inl (bW (shz V z)))))] H := hP
  have hD : va_D A [(h, .inr (0, [.ref w, .ref sh])), (w, .inl (cL, nw, .inr (.inl (su_fl (bW (V + shz V z)) (bW V) (0))))), (sh, .inl (cL, nw, .inr (.inl (bW (shz V z)))))] := hD
  have hl : lv_has ls 12 [(5, .int (nI 0)), (3, .long (lN (cry V (shz V z) (0)))), (0, .ref h), (1, .ref h), (2, .int x)] := by rw [show (lN (cry V (shz V z) (0))) = (lN 0) from (by rw [cry0])]; exact hl
  exact loop11 ((nw - (0)) + 1) (0) (by omega) (by omega) _ _ hP hD hS _ (lv_sub hl [0, 1, 2, 3, 4] rfl)
set_option maxHeartbeats 4000000 in
set_option maxRecDepth 100000 in
theorem k_xor (l : Launch) (D : va_G) (cI cL cZ : ClassId) (sz : Nat) (h : Nat) (w : Nat) (sh : Nat) (nw : Nat) (V : Nat) (fs : Nat → Int64) (h2 : Nat) (w2 : Nat) (s2 : Nat) (F : Nat) (hnw : nw ≤ 99) (hF : F < 2 ^ (64 * nw)) :
    Met l yX0_xor (ws_ yX0_xor cX0_xor 3 none) { frames := 1, cells := 0, slots := 0, locals := 30 } (su_pre D (su_T cI cL cZ) sz [(h, .inr (0, [.ref w, .ref sh])), (w, .inl (cL, nw, .inr (.inl (bW V)))), (sh, .inl (cL, nw, .inr (.inl fs))), (h2, .inr (0, [.ref w2, .ref s2])), (w2, .inl (cL, nw, .inr (.inl (bW F))))] [.ref h, .ref h2]) (su_qv D (va_A [(h, .inr (0, [.ref w, .ref sh])), (w, .inl (cL, nw, .inr (.inl (bW V)))), (sh, .inl (cL, nw, .inr (.inl fs))), (h2, .inr (0, [.ref w2, .ref s2])), (w2, .inl (cL, nw, .inr (.inl (bW F))))] sz) (fun (uu : Unit) => True) (fun (uu : Unit) => [(h, .inr (0, [.ref w, .ref sh])), (w, .inl (cL, nw, .inr (.inl (bW (V ^^^ F))))), (sh, .inl (cL, nw, .inr (.inl fs))), (h2, .inr (0, [.ref w2, .ref s2])), (w2, .inl (cL, nw, .inr (.inl (bW F))))])) 0 0 (va_A [(h, .inr (0, [.ref w, .ref sh])), (w, .inl (cL, nw, .inr (.inl (bW V)))), (sh, .inl (cL, nw, .inr (.inl fs))), (h2, .inr (0, [.ref w2, .ref s2])), (w2, .inl (cL, nw, .inr (.inl (bW F))))] sz) := by
  refine su_met (Qf := fun A => su_qv D A (fun (uu : Unit) => True) (fun (uu : Unit) => [(h, .inr (0, [.ref w, .ref sh])), (w, .inl (cL, nw, .inr (.inl (bW (V ^^^ F))))), (sh, .inl (cL, nw, .inr (.inl fs))), (h2, .inr (0, [.ref w2, .ref s2])), (w2, .inl (cL, nw, .inr (.inl (bW F))))])) (cc := cX0_xor) (maxL := 3) (ret := none) (by decide) (Nat.le_of_ble_eq_true rfl) ?_
  intro p e s m args below meth c R Q A H locs ls hx hb hr hlocks hin hml hown hts hN hP hK hD hA hS hRm hQ hl
  have hown : s.vm.findClass RX0 = some m.cls := hown
  have hl : lv_has ls 3 [(0, .ref h), (1, .ref h2)] := hl
  have hR1 : 1 ≤ R.frames := by rw [hRm]; exact Nat.le_of_ble_eq_true rfl
  have hR2 : 30 ≤ R.locals := by rw [hRm]; exact Nat.le_of_ble_eq_true rfl
  have hR3 : 0 ≤ R.cells := by rw [hRm]; exact Nat.le_of_ble_eq_true rfl
  have hR4 : 0 ≤ R.slots := by rw [hRm]; exact Nat.le_of_ble_eq_true rfl
  have k_92 := hts _ q_92
  refine lv_iconst (v := nI 0) hx hb dX0_xor_0 (by decide) ?_
  refine lv_istore_n (lv' := [(2, .int (nI 0)), (0, .ref h), (1, .ref h2)]) hx hb dX0_xor_1 rfl hl (by decide) rfl (fun ls hl => ?_)
  have loop2 : ∀ (k2 : Nat) (i : Nat), (i ≤ nw) → nw - i < k2 → ∀ (H : Heap) (locs : List Loc), va_P D vwCl [(h, .inr (0, [.ref w, .ref sh])), (w, .inl (cL, nw, .inr (.inl (su_fl (bW (V ^^^ F)) (bW V) i)))), (sh, .inl (cL, nw, .inr (.inl fs))), (h2, .inr (0, [.ref w2, .ref s2])), (w2, .inl (cL, nw, .inr (.inl (bW F))))] H → va_D A [(h, .inr (0, [.ref w, .ref sh])), (w, .inl (cL, nw, .inr (.inl (su_fl (bW (V ^^^ F)) (bW V) i)))), (sh, .inl (cL, nw, .inr (.inl fs))), (h2, .inr (0, [.ref w2, .ref s2])), (w2, .inl (cL, nw, .inr (.inl (bW F))))] → va_S A s.heap H locs → ∀ ls : Array Slot, lv_has ls 3 [(2, .int (nI i)), (0, .ref h), (1, .ref h2)] → W p l e R s m args below meth c H locs 0 0 Q (F0 m 2 ls []) := by
    intro k2
    induction k2 with
    | zero => intro i hi hk; exact absurd hk (Nat.not_lt_zero _)
    | succ k2 ih2 =>
      intro i hi hk2 H locs hP hD hS ls hl
      refine lv_iload_n hx hb dX0_xor_2 rfl (lv_at hl 0 rfl) ?_
      refine lv_aload_n hx hb dX0_xor_3 rfl (lv_at hl 1 rfl) ?_
      refine va_get (D := D) (ci := 0) (v := .ref w) (C := RX0) (T := TX0) (N := 2) hx hb hts in_X0 hown hK hP 0 rfl rfl 0 (by decide) k_92 (fun _ h9 => h9) rfl dX0_xor_4 ?_
      refine va_alen hx hb hK hP 1 1 rfl rfl (v := nI nw) rfl dX0_xor_7 ?_
      refine lv_icmp_ge (tgt := 31) hx hb dX0_xor_8 (by decide) (fun c8 => ?_) (fun c8 => ?_)
      · have c8 : nw ≤ i := su_ge (by omega) (by omega) c8
        obtain ⟨hP, hD⟩ := su_reL (q0 := 1) (bW (V ^^^ F)) hP hD rfl (fun j hj => su_flN (by omega))
        have hP : va_P D vwCl [(h, .inr (0, [.ref w, .ref sh])), (w, .inl (cL, nw, .inr (.inl (bW (V ^^^ F))))), (sh, .inl (cL, nw, .inr (.inl fs))), (h2, .inr (0, [.ref w2, .ref s2])), (w2, .inl (cL, nw, .inr (.inl (bW F))))] H := hP
        have hD : va_D A [(h, .inr (0, [.ref w, .ref sh])), (w, .inl (cL, nw, .inr (.inl (bW (V ^^^ F))))), (sh, .inl (cL, nw, .inr (.inl fs))), (h2, .inr (0, [.ref w2, .ref s2])), (w2, .inl (cL, nw, .inr (.inl (bW F))))] := hD
        rw [hQ]
        exact su_ev hx hb hr hlocks hS dX0_xor_31 () (trivial) hP hD
      · have c8 : i < nw := su_nge (by omega) (by omega) c8
        refine lv_aload_n hx hb dX0_xor_11 rfl (lv_at hl 1 rfl) ?_
        refine va_get (D := D) (ci := 0) (v := .ref w) (C := RX0) (T := TX0) (N := 2) hx hb hts in_X0 hown hK hP 0 rfl rfl 0 (by decide) k_92 (fun _ h9 => h9) rfl dX0_xor_12 ?_
        refine lv_iload_n hx hb dX0_xor_15 rfl (lv_at hl 0 rfl) ?_
        refine lv_dup2_11 hx hb dX0_xor_16 rfl rfl ?_
        refine su_lald hx hb hK hP 1 1 rfl rfl (i := i) (by omega) (by omega) (lN (V >>> (64 * i))) (su_flA i) dX0_xor_17 ?_
        refine lv_aload_n hx hb dX0_xor_18 rfl (lv_at hl 2 rfl) ?_
        refine lv_iload_n hx hb dX0_xor_19 rfl (lv_at hl 0 rfl) ?_
        refine su_cl (wr := [(h, .inr (0, [.ref w, .ref sh])), (w, .inl (cL, nw, .inr (.inl (su_fl (bW (V ^^^ F)) (bW V) i)))), (sh, .inl (cL, nw, .inr (.inl fs)))]) (va_runV (As := [.int (nI i)]) (rest := [.long (lN (V >>> (64 * i))), .int (nI i), .ref w]) ⟨hx, hb, hml, hown, hts⟩ (k_wordAt l D cI cL cZ H.size (h2) (w2) (s2) (nw) (F) (nI i) (hnw) (hF)) (cwV 1 hts (lw_gV q_356 q_358 q_2 q_34 q_359) rfl rfl rfl (by decide +kernel) ⟨Nat.le_trans (Nat.le_of_ble_eq_true rfl) hR1, Nat.le_trans (Nat.le_of_ble_eq_true rfl) hR2⟩) (su_pv hN hK hP hD [3, 4] [0, 1, 2] rfl rfl rfl (ci := 0) (q0 := 0) rfl rfl rfl) rfl rfl hl.1 rfl (lv_room (Nat.le_of_ble_eq_true rfl)) dX0_xor_20 ⟨Nat.le_trans (Nat.le_of_ble_eq_true rfl) hR3, Nat.le_trans (Nat.le_of_ble_eq_true rfl) hR4⟩) hP hD hS hA [3, 4] [0, 1, 2] rfl rfl (by decide) (by decide) (fun r uu H locs hw hP hD hS => ?_)
        obtain rfl : r = wA F (nI i) := hw
        have hP : va_P D vwCl [(h, .inr (0, [.ref w, .ref sh])), (w, .inl (cL, nw, .inr (.inl (su_fl (bW (V ^^^ F)) (bW V) i)))), (sh, .inl (cL, nw, .inr (.inl fs))), (h2, .inr (0, [.ref w2, .ref s2])), (w2, .inl (cL, nw, .inr (.inl (bW F))))] H := hP
        have hD : va_D A [(h, .inr (0, [.ref w, .ref sh])), (w, .inl (cL, nw, .inr (.inl (su_fl (bW (V ^^^ F)) (bW V) i)))), (sh, .inl (cL, nw, .inr (.inl fs))), (h2, .inr (0, [.ref w2, .ref s2])), (w2, .inl (cL, nw, .inr (.inl (bW F))))] := hD
        refine su_eql (lN (F >>> (64 * i))) (wA_n (by omega)) ?_
        refine lv_lxor hx hb dX0_xor_23 ?_
        refine su_last hx hb hK hP hD hS 1 1 rfl rfl (i := i) (by omega) (by omega) (va_up (su_fl (bW (V ^^^ F)) (bW V) i) i ((lN (V >>> (64 * i))) ^^^ (lN (F >>> (64 * i))))) (fun _ _ => rfl) dX0_xor_24 (fun H locs hP hD hS => ?_)
        have hP : va_P D vwCl [(h, .inr (0, [.ref w, .ref sh])), (w, .inl (cL, nw, .inr (.inl (va_up (su_fl (bW (V ^^^ F)) (bW V) i) i ((lN (V >>> (64 * i))) ^^^ (lN (F >>> (64 * i)))))))), (sh, .inl (cL, nw, .inr (.inl fs))), (h2, .inr (0, [.ref w2, .ref s2])), (w2, .inl (cL, nw, .inr (.inl (bW F))))] H := hP
        have hD : va_D A [(h, .inr (0, [.ref w, .ref sh])), (w, .inl (cL, nw, .inr (.inl (va_up (su_fl (bW (V ^^^ F)) (bW V) i) i ((lN (V >>> (64 * i))) ^^^ (lN (F >>> (64 * i)))))))), (sh, .inl (cL, nw, .inr (.inl fs))), (h2, .inr (0, [.ref w2, .ref s2])), (w2, .inl (cL, nw, .inr (.inl (bW F))))] := hD
        refine lv_iinc (v := nI (i + 1)) (lv' := [(2, .int (nI (i + 1))), (0, .ref h), (1, .ref h2)]) hx hb dX0_xor_25 hl (k := 0) rfl (su_inc _) (by decide) rfl (fun ls hl => ?_)
        refine lv_goto (tgt := 2) hx hb dX0_xor_28 (by decide) ?_
        obtain ⟨hP, hD⟩ := su_reL (q0 := 1) (su_fl (bW (V ^^^ F)) (bW V) (i + 1)) hP hD rfl (fun j _ => su_flS (bW_xor _ _ i) j)
        have hP : va_P D vwCl [(h, .inr (0, [.ref w, .ref sh])), (w, .inl (cL, nw, .inr (.inl (su_fl (bW (V ^^^ F)) (bW V) (i + 1))))), (sh, .inl (cL, nw, .inr (.inl fs))), (h2, .inr (0, [.ref w2, .ref s2])), (w2, .inl (cL, nw, .inr (.inl (bW F))))] H := hP
        have hD : va_D A [(h, .inr (0, [.ref w, .ref sh])), (w, .inl (cL, nw, .inr (.inl (su_fl (bW (V ^^^ F)) (bW V) (i + 1))))), (sh, .inl (cL, nw, .inr (.inl fs))), (h2, .inr (0, [.ref w2, .ref s2])), (w2, .inl (cL, nw, .inr (.inl (bW F))))] := hD
        exact ih2 (i + 1) (by omega) (by omega) _ _ hP hD hS _ (lv_sub hl [0, 1, 2] rfl)
  obtain ⟨hP, hD⟩ := su_reL (q0 := 1) (su_fl (bW (V ^^^ F)) (bW V) (0)) hP hD rfl (fun j _ => su_fl0 j)
  have hP : va_P D vwCl [(h, .inr (0, [.ref w, .ref sh])), (w, .inl (cL, nw, .inr (.inl (su_fl (bW (V ^^^ F)) (bW V) (0))))), (sh, .inl (cL, nw, .inr (.inl fs))), (h2, .inr (0, [.ref w2, .ref s2])), (w2, .inl (cL, nw, .inr (.inl (bW F))))] H := hP
  have hD : va_D A [(h, .inr (0, [.ref w, .ref sh])), (w, .inl (cL, nw, .inr (.inl (su_fl (bW (V ^^^ F)) (bW V) (0))))), (sh, .inl (cL, nw, .inr (.inl fs))), (h2, .inr (0, [.ref w2, .ref s2])), (w2, .inl (cL, nw, .inr (.inl (bW F))))] := hD
  exact loop2 ((nw - (0)) + 1) (0) (by omega) (by omega) _ _ hP hD hS _ (lv_sub hl [0, 1, 2] rfl)
set_option maxHeartbeats 4000000 in
set_option maxRecDepth 100000 in
theorem k_andNot (l : Launch) (D : va_G) (cI cL cZ : ClassId) (sz : Nat) (h : Nat) (w : Nat) (sh : Nat) (nw : Nat) (V : Nat) (fs : Nat → Int64) (h2 : Nat) (w2 : Nat) (s2 : Nat) (F : Nat) (hnw : nw ≤ 99) (hF : F < 2 ^ (64 * nw)) :
    Met l yX0_andNot (ws_ yX0_andNot cX0_andNot 3 none) { frames := 1, cells := 0, slots := 0, locals := 30 } (su_pre D (su_T cI cL cZ) sz [(h, .inr (0, [.ref w, .ref sh])), (w, .inl (cL, nw, .inr (.inl (bW V)))), (sh, .inl (cL, nw, .inr (.inl fs))), (h2, .inr (0, [.ref w2, .ref s2])), (w2, .inl (cL, nw, .inr (.inl (bW F))))] [.ref h, .ref h2]) (su_qv D (va_A [(h, .inr (0, [.ref w, .ref sh])), (w, .inl (cL, nw, .inr (.inl (bW V)))), (sh, .inl (cL, nw, .inr (.inl fs))), (h2, .inr (0, [.ref w2, .ref s2])), (w2, .inl (cL, nw, .inr (.inl (bW F))))] sz) (fun (uu : Unit) => True) (fun (uu : Unit) => [(h, .inr (0, [.ref w, .ref sh])), (w, .inl (cL, nw, .inr (.inl (bW (V ^^^ (V &&& F)))))), (sh, .inl (cL, nw, .inr (.inl fs))), (h2, .inr (0, [.ref w2, .ref s2])), (w2, .inl (cL, nw, .inr (.inl (bW F))))])) 0 0 (va_A [(h, .inr (0, [.ref w, .ref sh])), (w, .inl (cL, nw, .inr (.inl (bW V)))), (sh, .inl (cL, nw, .inr (.inl fs))), (h2, .inr (0, [.ref w2, .ref s2])), (w2, .inl (cL, nw, .inr (.inl (bW F))))] sz) := by
  refine su_met (Qf := fun A => su_qv D A (fun (uu : Unit) => True) (fun (uu : Unit) => [(h, .inr (0, [.ref w, .ref sh])), (w, .inl (cL, nw, .inr (.inl (bW (V ^^^ (V &&& F)))))), (sh, .inl (cL, nw, .inr (.inl fs))), (h2, .inr (0, [.ref w2, .ref s2])), (w2, .inl (cL, nw, .inr (.inl (bW F))))])) (cc := cX0_andNot) (maxL := 3) (ret := none) (by decide) (Nat.le_of_ble_eq_true rfl) ?_
  intro p e s m args below meth c R Q A H locs ls hx hb hr hlocks hin hml hown hts hN hP hK hD hA hS hRm hQ hl
  have hown : s.vm.findClass RX0 = some m.cls := hown
  have hl : lv_has ls 3 [(0, .ref h), (1, .ref h2)] := hl
  have hR1 : 1 ≤ R.frames := by rw [hRm]; exact Nat.le_of_ble_eq_true rfl
  have hR2 : 30 ≤ R.locals := by rw [hRm]; exact Nat.le_of_ble_eq_true rfl
  have hR3 : 0 ≤ R.cells := by rw [hRm]; exact Nat.le_of_ble_eq_true rfl
  have hR4 : 0 ≤ R.slots := by rw [hRm]; exact Nat.le_of_ble_eq_true rfl
  have k_92 := hts _ q_92
  have k_104 := hts _ q_104
  refine lv_iconst (v := nI 0) hx hb dX0_andNot_0 (by decide) ?_
  refine lv_istore_n (lv' := [(2, .int (nI 0)), (0, .ref h), (1, .ref h2)]) hx hb dX0_andNot_1 rfl hl (by decide) rfl (fun ls hl => ?_)
  have loop2 : ∀ (k2 : Nat) (i : Nat), (i ≤ nw) → nw - i < k2 → ∀ (H : Heap) (locs : List Loc), va_P D vwCl [(h, .inr (0, [.ref w, .ref sh])), (w, .inl (cL, nw, .inr (.inl (su_fl (bW (V ^^^ (V &&& F))) (bW V) i)))), (sh, .inl (cL, nw, .inr (.inl fs))), (h2, .inr (0, [.ref w2, .ref s2])), (w2, .inl (cL, nw, .inr (.inl (bW F))))] H → va_D A [(h, .inr (0, [.ref w, .ref sh])), (w, .inl (cL, nw, .inr (.inl (su_fl (bW (V ^^^ (V &&& F))) (bW V) i)))), (sh, .inl (cL, nw, .inr (.inl fs))), (h2, .inr (0, [.ref w2, .ref s2])), (w2, .inl (cL, nw, .inr (.inl (bW F))))] → va_S A s.heap H locs → ∀ ls : Array Slot, lv_has ls 3 [(2, .int (nI i)), (0, .ref h), (1, .ref h2)] → W p l e R s m args below meth c H locs 0 0 Q (F0 m 2 ls []) := by
    intro k2
    induction k2 with
    | zero => intro i hi hk; exact absurd hk (Nat.not_lt_zero _)
    | succ k2 ih2 =>
      intro i hi hk2 H locs hP hD hS ls hl
      refine lv_iload_n hx hb dX0_andNot_2 rfl (lv_at hl 0 rfl) ?_
      refine lv_aload_n hx hb dX0_andNot_3 rfl (lv_at hl 1 rfl) ?_
      refine va_get (D := D) (ci := 0) (v := .ref w) (C := RX0) (T := TX0) (N := 2) hx hb hts in_X0 hown hK hP 0 rfl rfl 0 (by decide) k_92 (fun _ h9 => h9) rfl dX0_andNot_4 ?_
      refine va_alen hx hb hK hP 1 1 rfl rfl (v := nI nw) rfl dX0_andNot_7 ?_
      refine lv_icmp_ge (tgt := 35) hx hb dX0_andNot_8 (by decide) (fun c8 => ?_) (fun c8 => ?_)
      · have c8 : nw ≤ i := su_ge (by omega) (by omega) c8
        obtain ⟨hP, hD⟩ := su_reL (q0 := 1) (bW (V ^^^ (V &&& F))) hP hD rfl (fun j hj => su_flN (by omega))
        have hP : va_P D vwCl [(h, .inr (0, [.ref w, .ref sh])), (w, .inl (cL, nw, .inr (.inl (bW (V ^^^ (V &&& F)))))), (sh, .inl (cL, nw, .inr (.inl fs))), (h2, .inr (0, [.ref w2, .ref s2])), (w2, .inl (cL, nw, .inr (.inl (bW F))))] H := hP
        have hD : va_D A [(h, .inr (0, [.ref w, .ref sh])), (w, .inl (cL, nw, .inr (.inl (bW (V ^^^ (V &&& F)))))), (sh, .inl (cL, nw, .inr (.inl fs))), (h2, .inr (0, [.ref w2, .ref s2])), (w2, .inl (cL, nw, .inr (.inl (bW F))))] := hD
        rw [hQ]
        exact su_ev hx hb hr hlocks hS dX0_andNot_35 () (trivial) hP hD
      · have c8 : i < nw := su_nge (by omega) (by omega) c8
        refine lv_aload_n hx hb dX0_andNot_11 rfl (lv_at hl 1 rfl) ?_
        refine va_get (D := D) (ci := 0) (v := .ref w) (C := RX0) (T := TX0) (N := 2) hx hb hts in_X0 hown hK hP 0 rfl rfl 0 (by decide) k_92 (fun _ h9 => h9) rfl dX0_andNot_12 ?_
        refine lv_iload_n hx hb dX0_andNot_15 rfl (lv_at hl 0 rfl) ?_
        refine lv_dup2_11 hx hb dX0_andNot_16 rfl rfl ?_
        refine su_lald hx hb hK hP 1 1 rfl rfl (i := i) (by omega) (by omega) (lN (V >>> (64 * i))) (su_flA i) dX0_andNot_17 ?_
        refine lv_aload_n hx hb dX0_andNot_18 rfl (lv_at hl 2 rfl) ?_
        refine lv_iload_n hx hb dX0_andNot_19 rfl (lv_at hl 0 rfl) ?_
        refine su_cl (wr := [(h, .inr (0, [.ref w, .ref sh])), (w, .inl (cL, nw, .inr (.inl (su_fl (bW (V ^^^ (V &&& F))) (bW V) i)))), (sh, .inl (cL, nw, .inr (.inl fs)))]) (va_runV (As := [.int (nI i)]) (rest := [.long (lN (V >>> (64 * i))), .int (nI i), .ref w]) ⟨hx, hb, hml, hown, hts⟩ (k_wordAt l D cI cL cZ H.size (h2) (w2) (s2) (nw) (F) (nI i) (hnw) (hF)) (cwV 1 hts (lw_gV q_356 q_358 q_2 q_34 q_359) rfl rfl rfl (by decide +kernel) ⟨Nat.le_trans (Nat.le_of_ble_eq_true rfl) hR1, Nat.le_trans (Nat.le_of_ble_eq_true rfl) hR2⟩) (su_pv hN hK hP hD [3, 4] [0, 1, 2] rfl rfl rfl (ci := 0) (q0 := 0) rfl rfl rfl) rfl rfl hl.1 rfl (lv_room (Nat.le_of_ble_eq_true rfl)) dX0_andNot_20 ⟨Nat.le_trans (Nat.le_of_ble_eq_true rfl) hR3, Nat.le_trans (Nat.le_of_ble_eq_true rfl) hR4⟩) hP hD hS hA [3, 4] [0, 1, 2] rfl rfl (by decide) (by decide) (fun r uu H locs hw hP hD hS => ?_)
        obtain rfl : r = wA F (nI i) := hw
        have hP : va_P D vwCl [(h, .inr (0, [.ref w, .ref sh])), (w, .inl (cL, nw, .inr (.inl (su_fl (bW (V ^^^ (V &&& F))) (bW V) i)))), (sh, .inl (cL, nw, .inr (.inl fs))), (h2, .inr (0, [.ref w2, .ref s2])), (w2, .inl (cL, nw, .inr (.inl (bW F))))] H := hP
        have hD : va_D A [(h, .inr (0, [.ref w, .ref sh])), (w, .inl (cL, nw, .inr (.inl (su_fl (bW (V ^^^ (V &&& F))) (bW V) i)))), (sh, .inl (cL, nw, .inr (.inl fs))), (h2, .inr (0, [.ref w2, .ref s2])), (w2, .inl (cL, nw, .inr (.inl (bW F))))] := hD
        refine su_eql (lN (F >>> (64 * i))) (wA_n (by omega)) ?_
        refine lv_ldc2 hx hb hown k_104 dX0_andNot_23 ?_
        refine lv_lxor hx hb dX0_andNot_26 ?_
        refine lv_land hx hb dX0_andNot_27 ?_
        refine su_last hx hb hK hP hD hS 1 1 rfl rfl (i := i) (by omega) (by omega) (va_up (su_fl (bW (V ^^^ (V &&& F))) (bW V) i) i ((lN (V >>> (64 * i))) &&& ((lN (F >>> (64 * i))) ^^^ (-1)))) (fun _ _ => rfl) dX0_andNot_28 (fun H locs hP hD hS => ?_)
        have hP : va_P D vwCl [(h, .inr (0, [.ref w, .ref sh])), (w, .inl (cL, nw, .inr (.inl (va_up (su_fl (bW (V ^^^ (V &&& F))) (bW V) i) i ((lN (V >>> (64 * i))) &&& ((lN (F >>> (64 * i))) ^^^ (-1))))))), (sh, .inl (cL, nw, .inr (.inl fs))), (h2, .inr (0, [.ref w2, .ref s2])), (w2, .inl (cL, nw, .inr (.inl (bW F))))] H := hP
        have hD : va_D A [(h, .inr (0, [.ref w, .ref sh])), (w, .inl (cL, nw, .inr (.inl (va_up (su_fl (bW (V ^^^ (V &&& F))) (bW V) i) i ((lN (V >>> (64 * i))) &&& ((lN (F >>> (64 * i))) ^^^ (-1))))))), (sh, .inl (cL, nw, .inr (.inl fs))), (h2, .inr (0, [.ref w2, .ref s2])), (w2, .inl (cL, nw, .inr (.inl (bW F))))] := hD
        refine lv_iinc (v := nI (i + 1)) (lv' := [(2, .int (nI (i + 1))), (0, .ref h), (1, .ref h2)]) hx hb dX0_andNot_29 hl (k := 0) rfl (su_inc _) (by decide) rfl (fun ls hl => ?_)
        refine lv_goto (tgt := 2) hx hb dX0_andNot_32 (by decide) ?_
        obtain ⟨hP, hD⟩ := su_reL (q0 := 1) (su_fl (bW (V ^^^ (V &&& F))) (bW V) (i + 1)) hP hD rfl (fun j _ => su_flS (bW_an _ _ i) j)
        have hP : va_P D vwCl [(h, .inr (0, [.ref w, .ref sh])), (w, .inl (cL, nw, .inr (.inl (su_fl (bW (V ^^^ (V &&& F))) (bW V) (i + 1))))), (sh, .inl (cL, nw, .inr (.inl fs))), (h2, .inr (0, [.ref w2, .ref s2])), (w2, .inl (cL, nw, .inr (.inl (bW F))))] H := hP
        have hD : va_D A [(h, .inr (0, [.ref w, .ref sh])), (w, .inl (cL, nw, .inr (.inl (su_fl (bW (V ^^^ (V &&& F))) (bW V) (i + 1))))), (sh, .inl (cL, nw, .inr (.inl fs))), (h2, .inr (0, [.ref w2, .ref s2])), (w2, .inl (cL, nw, .inr (.inl (bW F))))] := hD
        exact ih2 (i + 1) (by omega) (by omega) _ _ hP hD hS _ (lv_sub hl [0, 1, 2] rfl)
  obtain ⟨hP, hD⟩ := su_reL (q0 := 1) (su_fl (bW (V ^^^ (V &&& F))) (bW V) (0)) hP hD rfl (fun j _ => su_fl0 j)
  have hP : va_P D vwCl [(h, .inr (0, [.ref w, .ref sh])), (w, .inl (cL, nw, .inr (.inl (su_fl (bW (V ^^^ (V &&& F))) (bW V) (0))))), (sh, .inl (cL, nw, .inr (.inl fs))), (h2, .inr (0, [.ref w2, .ref s2])), (w2, .inl (cL, nw, .inr (.inl (bW F))))] H := hP
  have hD : va_D A [(h, .inr (0, [.ref w, .ref sh])), (w, .inl (cL, nw, .inr (.inl (su_fl (bW (V ^^^ (V &&& F))) (bW V) (0))))), (sh, .inl (cL, nw, .inr (.inl fs))), (h2, .inr (0, [.ref w2, .ref s2])), (w2, .inl (cL, nw, .inr (.inl (bW F))))] := hD
  exact loop2 ((nw - (0)) + 1) (0) (by omega) (by omega) _ _ hP hD hS _ (lv_sub hl [0, 1, 2] rfl)
set_option maxHeartbeats 4000000 in
set_option maxRecDepth 100000 in
theorem k_isSet (l : Launch) (D : va_G) (cI cL cZ : ClassId) (sz : Nat) (h : Nat) (w : Nat) (sh : Nat) (nw : Nat) (V : Nat) (b : Nat) (hnw : nw ≤ 99) (hV : V < 2 ^ (64 * nw)) (hb2 : b < 2 ^ 31) :
    Met l yX0_isSet (ws_ yX0_isSet cX0_isSet 2 (some .boolean)) { frames := 1, cells := 0, slots := 0, locals := 30 } (su_pre D (su_T cI cL cZ) sz [(h, .inr (0, [.ref w, .ref sh])), (w, .inl (cL, nw, .inr (.inl (bW V))))] [.ref h, .int (nI b)]) (su_qi D (va_A [(h, .inr (0, [.ref w, .ref sh])), (w, .inl (cL, nw, .inr (.inl (bW V))))] sz) (fun (r : Int32) (uu : Unit) => r = bI (V.testBit b)) (fun (uu : Unit) => [(h, .inr (0, [.ref w, .ref sh])), (w, .inl (cL, nw, .inr (.inl (bW V))))])) 0 0 (va_A [(h, .inr (0, [.ref w, .ref sh])), (w, .inl (cL, nw, .inr (.inl (bW V))))] sz) := by
  refine su_met (Qf := fun A => su_qi D A (fun (r : Int32) (uu : Unit) => r = bI (V.testBit b)) (fun (uu : Unit) => [(h, .inr (0, [.ref w, .ref sh])), (w, .inl (cL, nw, .inr (.inl (bW V))))])) (cc := cX0_isSet) (maxL := 2) (ret := (some .boolean)) (by decide) (Nat.le_of_ble_eq_true rfl) ?_
  intro p e s m args below meth c R Q A H locs ls hx hb hr hlocks hin hml hown hts hN hP hK hD hA hS hRm hQ hl
  have hown : s.vm.findClass RX0 = some m.cls := hown
  have hl : lv_has ls 2 [(0, .ref h), (1, .int (nI b))] := hl
  have hR1 : 1 ≤ R.frames := by rw [hRm]; exact Nat.le_of_ble_eq_true rfl
  have hR2 : 30 ≤ R.locals := by rw [hRm]; exact Nat.le_of_ble_eq_true rfl
  have hR3 : 0 ≤ R.cells := by rw [hRm]; exact Nat.le_of_ble_eq_true rfl
  have hR4 : 0 ≤ R.slots := by rw [hRm]; exact Nat.le_of_ble_eq_true rfl
  refine lv_aload_n hx hb dX0_isSet_0 rfl (lv_at hl 0 rfl) ?_
  refine lv_iload_n hx hb dX0_isSet_1 rfl (lv_at hl 1 rfl) ?_
  refine lv_bipush (v := nI 6) hx hb dX0_isSet_2 (by decide) ?_
  refine lv_ishr hx hb dX0_isSet_4 ?_
  refine su_eqi (nI (b / 64)) (su_s6 hb2) ?_
  refine su_cl (wr := []) (va_runV (As := [.int (nI (b / 64))]) (rest := []) ⟨hx, hb, hml, hown, hts⟩ (k_wordAt l D cI cL cZ H.size (h) (w) (sh) (nw) (V) (nI (b / 64)) (hnw) (hV)) (cwV 1 hts (lw_gV q_356 q_358 q_2 q_34 q_359) rfl rfl rfl (by decide +kernel) ⟨Nat.le_trans (Nat.le_of_ble_eq_true rfl) hR1, Nat.le_trans (Nat.le_of_ble_eq_true rfl) hR2⟩) (su_pv hN hK hP hD [0, 1] [0, 1, 2] rfl rfl rfl (ci := 0) (q0 := 0) rfl rfl rfl) rfl rfl hl.1 rfl (lv_room (Nat.le_of_ble_eq_true rfl)) dX0_isSet_5 ⟨Nat.le_trans (Nat.le_of_ble_eq_true rfl) hR3, Nat.le_trans (Nat.le_of_ble_eq_true rfl) hR4⟩) hP hD hS hA [0, 1] [] rfl rfl (by decide) (by decide) (fun r uu H locs hw hP hD hS => ?_)
  obtain rfl : r = wA V (nI (b / 64)) := hw
  have hP : va_P D vwCl [(h, .inr (0, [.ref w, .ref sh])), (w, .inl (cL, nw, .inr (.inl (bW V))))] H := hP
  have hD : va_D A [(h, .inr (0, [.ref w, .ref sh])), (w, .inl (cL, nw, .inr (.inl (bW V))))] := hD
  refine su_eql (lN (V >>> (64 * (b / 64)))) (wA_n (by omega)) ?_
  refine lv_iload_n hx hb dX0_isSet_8 rfl (lv_at hl 1 rfl) ?_
  refine lv_bipush (v := nI 63) hx hb dX0_isSet_9 (by decide) ?_
  refine lv_iand hx hb dX0_isSet_11 ?_
  refine su_eqi (nI (b % 64)) (su_a63 (by omega)) ?_
  refine lv_lushr (v := ((lN (V >>> (64 * (b / 64)))).toUInt64 >>> ((nI (b % 64)).toInt64.toUInt64 &&& Int64.toUInt64 63)).toInt64) hx hb dX0_isSet_12 (rfl) ?_
  refine lv_lconst (v := lN 1) hx hb dX0_isSet_13 (by decide) ?_
  refine lv_land hx hb dX0_isSet_14 ?_
  refine su_eql (lN (if V.testBit b = true then 1 else 0)) (su_isSet V) ?_
  refine lv_lconst (v := lN 0) hx hb dX0_isSet_15 (by decide) ?_
  refine W.lcmp hx hb dX0_isSet_16 ?_
  refine su_eqi (bI (V.testBit b)) (su_cmpB _) ?_
  refine lv_if_eq (tgt := 24) hx hb dX0_isSet_17 (by decide) (fun c17 => ?_) (fun c17 => ?_)
  · have c17 : V.testBit b = false := bI_e c17
    refine lv_iconst (v := nI 0) hx hb dX0_isSet_24 (by decide) ?_
    rw [hQ]
    exact su_ez hx hb hr hlocks hS dX0_isSet_25 (by decide) () (by rw [c17]; decide) hP hD
  · have c17 : V.testBit b = true := bI_n c17
    refine lv_iconst (v := nI 1) hx hb dX0_isSet_20 (by decide) ?_
    refine lv_goto (tgt := 25) hx hb dX0_isSet_21 (by decide) ?_
    rw [hQ]
    exact su_ez hx hb hr hlocks hS dX0_isSet_25 (by decide) () (by rw [c17]; decide) hP hD
set_option maxHeartbeats 4000000 in
set_option maxRecDepth 100000 in
theorem k_fieldAt (l : Launch) (D : va_G) (cI cL cZ : ClassId) (sz : Nat) (h : Nat) (w : Nat) (sh : Nat) (nw : Nat) (V : Nat) (b : Nat) (hnw : nw ≤ 99) (hV : V < 2 ^ (64 * nw)) (hb2 : b < 2 ^ 30) :
    Met l yX0_fieldAt (ws_ yX0_fieldAt cX0_fieldAt 6 (some .long)) { frames := 1, cells := 0, slots := 0, locals := 30 } (su_pre D (su_T cI cL cZ) sz [(h, .inr (0, [.ref w, .ref sh])), (w, .inl (cL, nw, .inr (.inl (bW V))))] [.ref h, .int (nI b)]) (su_ql D (va_A [(h, .inr (0, [.ref w, .ref sh])), (w, .inl (cL, nw, .inr (.inl (bW V))))] sz) (fun (r : Int64) (uu : Unit) => r = lN (V >>> b)) (fun (uu : Unit) => [(h, .inr (0, [.ref w, .ref sh])), (w, .inl (cL, nw, .inr (.inl (bW V))))])) 0 0 (va_A [(h, .inr (0, [.ref w, .ref sh])), (w, .inl (cL, nw, .inr (.inl (bW V))))] sz) := by
  refine su_met (Qf := fun A => su_ql D A (fun (r : Int64) (uu : Unit) => r = lN (V >>> b)) (fun (uu : Unit) => [(h, .inr (0, [.ref w, .ref sh])), (w, .inl (cL, nw, .inr (.inl (bW V))))])) (cc := cX0_fieldAt) (maxL := 6) (ret := (some .long)) (by decide) (Nat.le_of_ble_eq_true rfl) ?_
  intro p e s m args below meth c R Q A H locs ls hx hb hr hlocks hin hml hown hts hN hP hK hD hA hS hRm hQ hl
  have hown : s.vm.findClass RX0 = some m.cls := hown
  have hl : lv_has ls 6 [(0, .ref h), (1, .int (nI b))] := hl
  have hR1 : 1 ≤ R.frames := by rw [hRm]; exact Nat.le_of_ble_eq_true rfl
  have hR2 : 30 ≤ R.locals := by rw [hRm]; exact Nat.le_of_ble_eq_true rfl
  have hR3 : 0 ≤ R.cells := by rw [hRm]; exact Nat.le_of_ble_eq_true rfl
  have hR4 : 0 ≤ R.slots := by rw [hRm]; exact Nat.le_of_ble_eq_true rfl
  refine lv_iload_n hx hb dX0_fieldAt_0 rfl (lv_at hl 1 rfl) ?_
  refine lv_bipush (v := nI 6) hx hb dX0_fieldAt_1 (by decide) ?_
  refine lv_ishr hx hb dX0_fieldAt_3 ?_
  refine su_eqi (nI (b / 64)) (su_s6 (by omega)) ?_
  refine lv_istore_n (lv' := [(2, .int (nI (b / 64))), (0, .ref h), (1, .int (nI b))]) hx hb dX0_fieldAt_4 rfl hl (by decide) rfl (fun ls hl => ?_)
  refine lv_iload_n hx hb dX0_fieldAt_5 rfl (lv_at hl 2 rfl) ?_
  refine lv_bipush (v := nI 63) hx hb dX0_fieldAt_6 (by decide) ?_
  refine lv_iand hx hb dX0_fieldAt_8 ?_
  refine su_eqi (nI (b % 64)) (su_a63 (by omega)) ?_
  refine lv_istore_n (lv' := [(3, .int (nI (b % 64))), (2, .int (nI (b / 64))), (0, .ref h), (1, .int (nI b))]) hx hb dX0_fieldAt_9 rfl hl (by decide) rfl (fun ls hl => ?_)
  refine lv_aload_n hx hb dX0_fieldAt_10 rfl (lv_at hl 2 rfl) ?_
  refine lv_iload_n hx hb dX0_fieldAt_11 rfl (lv_at hl 1 rfl) ?_
  refine su_cl (wr := []) (va_runV (As := [.int (nI (b / 64))]) (rest := []) ⟨hx, hb, hml, hown, hts⟩ (k_wordAt l D cI cL cZ H.size (h) (w) (sh) (nw) (V) (nI (b / 64)) (hnw) (hV)) (cwV 1 hts (lw_gV q_356 q_358 q_2 q_34 q_359) rfl rfl rfl (by decide +kernel) ⟨Nat.le_trans (Nat.le_of_ble_eq_true rfl) hR1, Nat.le_trans (Nat.le_of_ble_eq_true rfl) hR2⟩) (su_pv hN hK hP hD [0, 1] [0, 1, 2] rfl rfl rfl (ci := 0) (q0 := 0) rfl rfl rfl) rfl rfl hl.1 rfl (lv_room (Nat.le_of_ble_eq_true rfl)) dX0_fieldAt_12 ⟨Nat.le_trans (Nat.le_of_ble_eq_true rfl) hR3, Nat.le_trans (Nat.le_of_ble_eq_true rfl) hR4⟩) hP hD hS hA [0, 1] [] rfl rfl (by decide) (by decide) (fun r uu H locs hw hP hD hS => ?_)
  obtain rfl : r = wA V (nI (b / 64)) := hw
  have hP : va_P D vwCl [(h, .inr (0, [.ref w, .ref sh])), (w, .inl (cL, nw, .inr (.inl (bW V))))] H := hP
  have hD : va_D A [(h, .inr (0, [.ref w, .ref sh])), (w, .inl (cL, nw, .inr (.inl (bW V))))] := hD
  refine su_eql (lN (V >>> (64 * (b / 64)))) (wA_n (by omega)) ?_
  refine lv_iload_n hx hb dX0_fieldAt_15 rfl (lv_at hl 0 rfl) ?_
  refine lv_lushr (v := lN (V >>> (64 * (b / 64)) % 2 ^ 64 / 2 ^ (b % 64))) hx hb dX0_fieldAt_16 (su_lu (Nat.mod_lt _ (by decide))) ?_
  refine lv_lstore (lv' := [(4, .long (lN (V >>> (64 * (b / 64)) % 2 ^ 64 / 2 ^ (b % 64)))), (3, .int (nI (b % 64))), (2, .int (nI (b / 64))), (0, .ref h), (1, .int (nI b))]) hx hb dX0_fieldAt_17 hl (by decide) rfl (fun ls hl => ?_)
  refine lv_iload_n hx hb dX0_fieldAt_19 rfl (lv_at hl 1 rfl) ?_
  refine lv_if_ne (tgt := 28) hx hb dX0_fieldAt_20 (by decide) (fun c20 => ?_) (fun c20 => ?_)
  · have c20 : b % 64 ≠ 0 := su_nz c20
    refine lv_lload hx hb dX0_fieldAt_28 (lv_at hl 0 rfl) ?_
    refine lv_aload_n hx hb dX0_fieldAt_30 rfl (lv_at hl 3 rfl) ?_
    refine lv_iload_n hx hb dX0_fieldAt_31 rfl (lv_at hl 2 rfl) ?_
    refine lv_iconst (v := nI 1) hx hb dX0_fieldAt_32 (by decide) ?_
    refine lv_iadd hx hb dX0_fieldAt_33 ?_
    refine su_eqi (nI ((b / 64) + 1)) (nI_add _ _) ?_
    refine su_cl (wr := []) (va_runV (As := [.int (nI ((b / 64) + 1))]) (rest := [.long (lN (V >>> (64 * (b / 64)) % 2 ^ 64 / 2 ^ (b % 64)))]) ⟨hx, hb, hml, hown, hts⟩ (k_wordAt l D cI cL cZ H.size (h) (w) (sh) (nw) (V) (nI (b / 64 + 1)) (hnw) (hV)) (cwV 1 hts (lw_gV q_356 q_358 q_2 q_34 q_359) rfl rfl rfl (by decide +kernel) ⟨Nat.le_trans (Nat.le_of_ble_eq_true rfl) hR1, Nat.le_trans (Nat.le_of_ble_eq_true rfl) hR2⟩) (su_pv hN hK hP hD [0, 1] [0, 1, 2] rfl rfl rfl (ci := 0) (q0 := 0) rfl rfl rfl) rfl rfl hl.1 rfl (lv_room (Nat.le_of_ble_eq_true rfl)) dX0_fieldAt_34 ⟨Nat.le_trans (Nat.le_of_ble_eq_true rfl) hR3, Nat.le_trans (Nat.le_of_ble_eq_true rfl) hR4⟩) hP hD hS hA [0, 1] [] rfl rfl (by decide) (by decide) (fun r uu H locs hw hP hD hS => ?_)
    obtain rfl : r = wA V (nI (b / 64 + 1)) := hw
    have hP : va_P D vwCl [(h, .inr (0, [.ref w, .ref sh])), (w, .inl (cL, nw, .inr (.inl (bW V))))] H := hP
    have hD : va_D A [(h, .inr (0, [.ref w, .ref sh])), (w, .inl (cL, nw, .inr (.inl (bW V))))] := hD
    refine su_eql (lN (V >>> (64 * (b / 64 + 1)))) (wA_n (by omega)) ?_
    refine lv_bipush (v := nI 64) hx hb dX0_fieldAt_37 (by decide) ?_
    refine lv_iload_n hx hb dX0_fieldAt_39 rfl (lv_at hl 1 rfl) ?_
    refine lv_isub hx hb dX0_fieldAt_40 ?_
    refine su_eqi (nI (64 - (b % 64))) (pk_sub (by omega)) ?_
    refine lv_lshl (v := lN (V >>> (64 * (b / 64 + 1)) * 2 ^ (64 - b % 64))) hx hb dX0_fieldAt_41 (su_lw _ (by omega)) ?_
    refine lv_lor hx hb dX0_fieldAt_42 ?_
    refine su_eql (lN (V >>> b)) (su_field1 c20) ?_
    rw [hQ]
    exact su_el hx hb hr hlocks hS dX0_fieldAt_43 () (rfl) hP hD
  · have c20 : b % 64 = 0 := su_z (by omega) c20
    refine lv_lload hx hb dX0_fieldAt_23 (lv_at hl 0 rfl) ?_
    refine lv_goto (tgt := 43) hx hb dX0_fieldAt_25 (by decide) ?_
    rw [hQ]
    exact su_el hx hb hr hlocks hS dX0_fieldAt_43 () (su_field0 c20) hP hD
set_option maxHeartbeats 4000000 in
set_option maxRecDepth 100000 in
theorem k_endOfSet (l : Launch) (D : va_G) (cI cL cZ : ClassId) (sz : Nat) (h : Nat) (w : Nat) (sh : Nat) (nw : Nat) (V : Nat) (hnw : nw ≤ 99) (hV : V < 2 ^ (64 * nw)) :
    Met l yX0_endOfSet (ws_ yX0_endOfSet cX0_endOfSet 2 (some .int)) { frames := 2, cells := 0, slots := 0, locals := 60 } (su_pre D (su_T cI cL cZ) sz [(h, .inr (0, [.ref w, .ref sh])), (w, .inl (cL, nw, .inr (.inl (bW V))))] [.ref h]) (su_qi D (va_A [(h, .inr (0, [.ref w, .ref sh])), (w, .inl (cL, nw, .inr (.inl (bW V))))] sz) (fun (r : Int32) (uu : Unit) => r = nI (su_end V (64 * nw))) (fun (uu : Unit) => [(h, .inr (0, [.ref w, .ref sh])), (w, .inl (cL, nw, .inr (.inl (bW V))))])) 0 0 (va_A [(h, .inr (0, [.ref w, .ref sh])), (w, .inl (cL, nw, .inr (.inl (bW V))))] sz) := by
  refine su_met (Qf := fun A => su_qi D A (fun (r : Int32) (uu : Unit) => r = nI (su_end V (64 * nw))) (fun (uu : Unit) => [(h, .inr (0, [.ref w, .ref sh])), (w, .inl (cL, nw, .inr (.inl (bW V))))])) (cc := cX0_endOfSet) (maxL := 2) (ret := (some .int)) (by decide) (Nat.le_of_ble_eq_true rfl) ?_
  intro p e s m args below meth c R Q A H locs ls hx hb hr hlocks hin hml hown hts hN hP hK hD hA hS hRm hQ hl
  have hown : s.vm.findClass RX0 = some m.cls := hown
  have hl : lv_has ls 2 [(0, .ref h)] := hl
  have hR1 : 2 ≤ R.frames := by rw [hRm]; exact Nat.le_of_ble_eq_true rfl
  have hR2 : 60 ≤ R.locals := by rw [hRm]; exact Nat.le_of_ble_eq_true rfl
  have hR3 : 0 ≤ R.cells := by rw [hRm]; exact Nat.le_of_ble_eq_true rfl
  have hR4 : 0 ≤ R.slots := by rw [hRm]; exact Nat.le_of_ble_eq_true rfl
  have k_92 := hts _ q_92
  refine lv_aload_n hx hb dX0_endOfSet_0 rfl (lv_at hl 0 rfl) ?_
  refine va_get (D := D) (ci := 0) (v := .ref w) (C := RX0) (T := TX0) (N := 2) hx hb hts in_X0 hown hK hP 0 rfl rfl 0 (by decide) k_92 (fun _ h9 => h9) rfl dX0_endOfSet_1 ?_
  refine va_alen hx hb hK hP 1 1 rfl rfl (v := nI nw) rfl dX0_endOfSet_4 ?_
  refine lv_bipush (v := nI 64) hx hb dX0_endOfSet_5 (by decide) ?_
  refine lv_imul hx hb dX0_endOfSet_7 ?_
  refine su_eqi (nI (64 * nw)) (by rw [pk_mul, Nat.mul_comm]) ?_
  refine lv_istore_n (lv' := [(1, .int (nI (64 * nw))), (0, .ref h)]) hx hb dX0_endOfSet_8 rfl hl (by decide) rfl (fun ls hl => ?_)
  have loop9 : ∀ (k9 : Nat) (i : Nat), (i ≤ 64 * nw) → (su_end V (64 * nw) = su_end V i) → i < k9 → ∀ (H : Heap) (locs : List Loc), va_P D vwCl [(h, .inr (0, [.ref w, .ref sh])), (w, .inl (cL, nw, .inr (.inl (bW V))))] H → va_D A [(h, .inr (0, [.ref w, .ref sh])), (w, .inl (cL, nw, .inr (.inl (bW V))))] → va_S A s.heap H locs → ∀ ls : Array Slot, lv_has ls 2 [(1, .int (nI i)), (0, .ref h)] → W p l e R s m args below meth c H locs 0 0 Q (F0 m 9 ls []) := by
    intro k9
    induction k9 with
    | zero => intro i hi hE hk; exact absurd hk (Nat.not_lt_zero _)
    | succ k9 ih9 =>
      intro i hi hE hk9 H locs hP hD hS ls hl
      refine lv_iload_n hx hb dX0_endOfSet_9 rfl (lv_at hl 0 rfl) ?_
      refine lv_if_le (tgt := 29) hx hb dX0_endOfSet_10 (by decide) (fun c10 => ?_) (fun c10 => ?_)
      · have c10 : i = 0 := su_le0 (by omega) c10
        refine lv_iload_n hx hb dX0_endOfSet_29 rfl (lv_at hl 0 rfl) ?_
        rw [hQ]
        exact su_ei hx hb hr hlocks hS dX0_endOfSet_30 () (by rw [hE]; first | (rw [c10]; rfl) | rw [su_end_hit c10 c20]) hP hD
      · have c10 : 0 < i := su_nle0 c10
        refine lv_aload_n hx hb dX0_endOfSet_13 rfl (lv_at hl 1 rfl) ?_
        refine lv_iload_n hx hb dX0_endOfSet_14 rfl (lv_at hl 0 rfl) ?_
        refine lv_iconst (v := nI 1) hx hb dX0_endOfSet_15 (by decide) ?_
        refine lv_isub hx hb dX0_endOfSet_16 ?_
        refine su_eqi (nI (i - 1)) (pk_sub (by omega)) ?_
        refine su_ci (wr := []) (va_runV (As := [.int (nI (i - 1))]) (rest := []) ⟨hx, hb, hml, hown, hts⟩ (k_isSet l D cI cL cZ H.size (h) (w) (sh) (nw) (V) (i - 1) (hnw) (hV) (by omega)) (cwV 1 hts (lw_gV q_412 q_379 q_380 q_34 q_381) rfl rfl rfl (by decide +kernel) ⟨Nat.le_trans (Nat.le_of_ble_eq_true rfl) hR1, Nat.le_trans (Nat.le_of_ble_eq_true rfl) hR2⟩) (su_pv hN hK hP hD [0, 1] [0, 1, 2] rfl rfl rfl (ci := 0) (q0 := 0) rfl rfl rfl) rfl rfl hl.1 rfl (lv_room (Nat.le_of_ble_eq_true rfl)) dX0_endOfSet_17 ⟨Nat.le_trans (Nat.le_of_ble_eq_true rfl) hR3, Nat.le_trans (Nat.le_of_ble_eq_true rfl) hR4⟩) hP hD hS hA [0, 1] [] rfl rfl (by decide) (by decide) (fun r uu H locs hw hP hD hS => ?_)
        obtain rfl : r = bI (V.testBit (i - 1)) := hw
        have hP : va_P D vwCl [(h, .inr (0, [.ref w, .ref sh])), (w, .inl (cL, nw, .inr (.inl (bW V))))] H := hP
        have hD : va_D A [(h, .inr (0, [.ref w, .ref sh])), (w, .inl (cL, nw, .inr (.inl (bW V))))] := hD
        refine lv_if_ne (tgt := 29) hx hb dX0_endOfSet_20 (by decide) (fun c20 => ?_) (fun c20 => ?_)
        · have c20 : V.testBit (i - 1) = true := bI_n c20
          refine lv_iload_n hx hb dX0_endOfSet_29 rfl (lv_at hl 0 rfl) ?_
          rw [hQ]
          exact su_ei hx hb hr hlocks hS dX0_endOfSet_30 () (by rw [hE]; first | (rw [c10]; rfl) | rw [su_end_hit c10 c20]) hP hD
        · have c20 : V.testBit (i - 1) = false := bI_e c20
          refine lv_iinc (v := nI (i - 1)) (lv' := [(1, .int (nI (i - 1))), (0, .ref h)]) hx hb dX0_endOfSet_23 hl (k := 0) rfl (sb_m1 (by omega)) (by decide) rfl (fun ls hl => ?_)
          refine lv_goto (tgt := 9) hx hb dX0_endOfSet_26 (by decide) ?_
          exact ih9 (i - 1) (by omega) (by rw [hE]; exact su_end_miss c10 c20) (by omega) _ _ hP hD hS _ (lv_sub hl [0, 1] rfl)
  exact loop9 (((64 * nw)) + 1) (64 * nw) (by omega) (rfl) (by omega) _ _ hP hD hS _ (lv_sub hl [0, 1] rfl)
set_option maxHeartbeats 4000000 in
set_option maxRecDepth 100000 in
theorem k_hasBitsOf (l : Launch) (D : va_G) (cI cL cZ : ClassId) (sz : Nat) (h : Nat) (w : Nat) (sh : Nat) (nw : Nat) (V : Nat) (h2 : Nat) (w2 : Nat) (s2 : Nat) (F : Nat) (hnw : nw ≤ 99) (hV : V < 2 ^ (64 * nw)) (hF : F < 2 ^ (64 * nw)) :
    Met l yX0_hasBitsOf (ws_ yX0_hasBitsOf cX0_hasBitsOf 3 (some .boolean)) { frames := 1, cells := 0, slots := 0, locals := 30 } (su_pre D (su_T cI cL cZ) sz [(h, .inr (0, [.ref w, .ref sh])), (w, .inl (cL, nw, .inr (.inl (bW V)))), (h2, .inr (0, [.ref w2, .ref s2])), (w2, .inl (cL, nw, .inr (.inl (bW F))))] [.ref h, .ref h2]) (su_qi D (va_A [(h, .inr (0, [.ref w, .ref sh])), (w, .inl (cL, nw, .inr (.inl (bW V)))), (h2, .inr (0, [.ref w2, .ref s2])), (w2, .inl (cL, nw, .inr (.inl (bW F))))] sz) (fun (r : Int32) (uu : Unit) => r = bI (decide (V = F))) (fun (uu : Unit) => [(h, .inr (0, [.ref w, .ref sh])), (w, .inl (cL, nw, .inr (.inl (bW V)))), (h2, .inr (0, [.ref w2, .ref s2])), (w2, .inl (cL, nw, .inr (.inl (bW F))))])) 0 0 (va_A [(h, .inr (0, [.ref w, .ref sh])), (w, .inl (cL, nw, .inr (.inl (bW V)))), (h2, .inr (0, [.ref w2, .ref s2])), (w2, .inl (cL, nw, .inr (.inl (bW F))))] sz) := by
  refine su_met (Qf := fun A => su_qi D A (fun (r : Int32) (uu : Unit) => r = bI (decide (V = F))) (fun (uu : Unit) => [(h, .inr (0, [.ref w, .ref sh])), (w, .inl (cL, nw, .inr (.inl (bW V)))), (h2, .inr (0, [.ref w2, .ref s2])), (w2, .inl (cL, nw, .inr (.inl (bW F))))])) (cc := cX0_hasBitsOf) (maxL := 3) (ret := (some .boolean)) (by decide) (Nat.le_of_ble_eq_true rfl) ?_
  intro p e s m args below meth c R Q A H locs ls hx hb hr hlocks hin hml hown hts hN hP hK hD hA hS hRm hQ hl
  have hown : s.vm.findClass RX0 = some m.cls := hown
  have hl : lv_has ls 3 [(0, .ref h), (1, .ref h2)] := hl
  have hR1 : 1 ≤ R.frames := by rw [hRm]; exact Nat.le_of_ble_eq_true rfl
  have hR2 : 30 ≤ R.locals := by rw [hRm]; exact Nat.le_of_ble_eq_true rfl
  have hR3 : 0 ≤ R.cells := by rw [hRm]; exact Nat.le_of_ble_eq_true rfl
  have hR4 : 0 ≤ R.slots := by rw [hRm]; exact Nat.le_of_ble_eq_true rfl
  have k_92 := hts _ q_92
  refine lv_iconst (v := nI 0) hx hb dX0_hasBitsOf_0 (by decide) ?_
  refine lv_istore_n (lv' := [(2, .int (nI 0)), (0, .ref h), (1, .ref h2)]) hx hb dX0_hasBitsOf_1 rfl hl (by decide) rfl (fun ls hl => ?_)
  have loop2 : ∀ (k2 : Nat) (i : Nat), (i ≤ nw) → (V % 2 ^ (64 * i) = F % 2 ^ (64 * i)) → nw - i < k2 → ∀ (H : Heap) (locs : List Loc), va_P D vwCl [(h, .inr (0, [.ref w, .ref sh])), (w, .inl (cL, nw, .inr (.inl (bW V)))), (h2, .inr (0, [.ref w2, .ref s2])), (w2, .inl (cL, nw, .inr (.inl (bW F))))] H → va_D A [(h, .inr (0, [.ref w, .ref sh])), (w, .inl (cL, nw, .inr (.inl (bW V)))), (h2, .inr (0, [.ref w2, .ref s2])), (w2, .inl (cL, nw, .inr (.inl (bW F))))] → va_S A s.heap H locs → ∀ ls : Array Slot, lv_has ls 3 [(2, .int (nI i)), (0, .ref h), (1, .ref h2)] → W p l e R s m args below meth c H locs 0 0 Q (F0 m 2 ls []) := by
    intro k2
    induction k2 with
    | zero => intro i hi hE hk; exact absurd hk (Nat.not_lt_zero _)
    | succ k2 ih2 =>
      intro i hi hE hk2 H locs hP hD hS ls hl
      refine lv_iload_n hx hb dX0_hasBitsOf_2 rfl (lv_at hl 0 rfl) ?_
      refine lv_aload_n hx hb dX0_hasBitsOf_3 rfl (lv_at hl 1 rfl) ?_
      refine va_get (D := D) (ci := 0) (v := .ref w) (C := RX0) (T := TX0) (N := 2) hx hb hts in_X0 hown hK hP 0 rfl rfl 0 (by decide) k_92 (fun _ h9 => h9) rfl dX0_hasBitsOf_4 ?_
      refine va_alen hx hb hK hP 1 1 rfl rfl (v := nI nw) rfl dX0_hasBitsOf_7 ?_
      refine lv_icmp_ge (tgt := 34) hx hb dX0_hasBitsOf_8 (by decide) (fun c8 => ?_) (fun c8 => ?_)
      · have c8 : nw ≤ i := su_ge (by omega) (by omega) c8
        refine lv_aload_n hx hb dX0_hasBitsOf_34 rfl (lv_at hl 1 rfl) ?_
        refine va_get (D := D) (ci := 0) (v := .ref w) (C := RX0) (T := TX0) (N := 2) hx hb hts in_X0 hown hK hP 0 rfl rfl 0 (by decide) k_92 (fun _ h9 => h9) rfl dX0_hasBitsOf_35 ?_
        refine va_alen hx hb hK hP 1 1 rfl rfl (v := nI nw) rfl dX0_hasBitsOf_38 ?_
        refine lv_aload_n hx hb dX0_hasBitsOf_39 rfl (lv_at hl 2 rfl) ?_
        refine va_get (D := D) (ci := 0) (v := .ref w2) (C := RX0) (T := TX0) (N := 2) hx hb hts in_X0 hown hK hP 2 rfl rfl 0 (by decide) k_92 (fun _ h9 => h9) rfl dX0_hasBitsOf_40 ?_
        refine va_alen hx hb hK hP 3 1 rfl rfl (v := nI nw) rfl dX0_hasBitsOf_43 ?_
        refine lv_icmp_ne (tgt := 51) hx hb dX0_hasBitsOf_44 (by decide) (fun c44 => ?_) (fun c44 => ?_)
        · have c44 : nw ≠ nw := su_nen (by omega) (by omega) c44
          exact absurd rfl c44
        · have c44 : nw = nw := su_eqn (by omega) (by omega) c44
          refine lv_iconst (v := nI 1) hx hb dX0_hasBitsOf_47 (by decide) ?_
          refine lv_goto (tgt := 52) hx hb dX0_hasBitsOf_48 (by decide) ?_
          rw [hQ]
          exact su_ez hx hb hr hlocks hS dX0_hasBitsOf_52 (by decide) () (by rw [nI01_1]; exact bI_d1 (su_modN hV hF (by rw [show nw = i by omega]; exact hE))) hP hD
      · have c8 : i < nw := su_nge (by omega) (by omega) c8
        refine lv_aload_n hx hb dX0_hasBitsOf_11 rfl (lv_at hl 1 rfl) ?_
        refine va_get (D := D) (ci := 0) (v := .ref w) (C := RX0) (T := TX0) (N := 2) hx hb hts in_X0 hown hK hP 0 rfl rfl 0 (by decide) k_92 (fun _ h9 => h9) rfl dX0_hasBitsOf_12 ?_
        refine lv_iload_n hx hb dX0_hasBitsOf_15 rfl (lv_at hl 0 rfl) ?_
        refine su_lald hx hb hK hP 1 1 rfl rfl (i := i) (by omega) (by omega) (lN (V >>> (64 * i))) (rfl) dX0_hasBitsOf_16 ?_
        refine lv_aload_n hx hb dX0_hasBitsOf_17 rfl (lv_at hl 2 rfl) ?_
        refine lv_iload_n hx hb dX0_hasBitsOf_18 rfl (lv_at hl 0 rfl) ?_
        refine su_cl (wr := [(h, .inr (0, [.ref w, .ref sh])), (w, .inl (cL, nw, .inr (.inl (bW V))))]) (va_runV (As := [.int (nI i)]) (rest := [.long (lN (V >>> (64 * i)))]) ⟨hx, hb, hml, hown, hts⟩ (k_wordAt l D cI cL cZ H.size (h2) (w2) (s2) (nw) (F) (nI i) (hnw) (hF)) (cwV 1 hts (lw_gV q_356 q_358 q_2 q_34 q_359) rfl rfl rfl (by decide +kernel) ⟨Nat.le_trans (Nat.le_of_ble_eq_true rfl) hR1, Nat.le_trans (Nat.le_of_ble_eq_true rfl) hR2⟩) (su_pv hN hK hP hD [2, 3] [0, 1, 2] rfl rfl rfl (ci := 0) (q0 := 0) rfl rfl rfl) rfl rfl hl.1 rfl (lv_room (Nat.le_of_ble_eq_true rfl)) dX0_hasBitsOf_19 ⟨Nat.le_trans (Nat.le_of_ble_eq_true rfl) hR3, Nat.le_trans (Nat.le_of_ble_eq_true rfl) hR4⟩) hP hD hS hA [2, 3] [0, 1] rfl rfl (by decide) (by decide) (fun r uu H locs hw hP hD hS => ?_)
        obtain rfl : r = wA F (nI i) := hw
        have hP : va_P D vwCl [(h, .inr (0, [.ref w, .ref sh])), (w, .inl (cL, nw, .inr (.inl (bW V)))), (h2, .inr (0, [.ref w2, .ref s2])), (w2, .inl (cL, nw, .inr (.inl (bW F))))] H := hP
        have hD : va_D A [(h, .inr (0, [.ref w, .ref sh])), (w, .inl (cL, nw, .inr (.inl (bW V)))), (h2, .inr (0, [.ref w2, .ref s2])), (w2, .inl (cL, nw, .inr (.inl (bW F))))] := hD
        refine su_eql (lN (F >>> (64 * i))) (wA_n (by omega)) ?_
        refine W.lcmp hx hb dX0_hasBitsOf_22 ?_
        refine lv_if_eq (tgt := 28) hx hb dX0_hasBitsOf_23 (by decide) (fun c23 => ?_) (fun c23 => ?_)
        · have c23 := su_lNi (su_cmp0 c23)
          refine lv_iinc (v := nI (i + 1)) (lv' := [(2, .int (nI (i + 1))), (0, .ref h), (1, .ref h2)]) hx hb dX0_hasBitsOf_28 hl (k := 0) rfl (su_inc _) (by decide) rfl (fun ls hl => ?_)
          refine lv_goto (tgt := 2) hx hb dX0_hasBitsOf_31 (by decide) ?_
          exact ih2 (i + 1) (by omega) (su_modS hE c23) (by omega) _ _ hP hD hS _ (lv_sub hl [0, 1, 2] rfl)
        · have c23 := su_cmpn c23
          refine lv_iconst (v := nI 0) hx hb dX0_hasBitsOf_26 (by decide) ?_
          rw [hQ]
          exact su_ez hx hb hr hlocks hS dX0_hasBitsOf_27 (by decide) () (by rw [nI01_0]; exact bI_d0 (fun q => c23 (by rw [q]))) hP hD
  exact loop2 ((nw - (0)) + 1) (0) (by omega) (by simp [Nat.mod_one]) (by omega) _ _ hP hD hS _ (lv_sub hl [0, 1, 2] rfl)
