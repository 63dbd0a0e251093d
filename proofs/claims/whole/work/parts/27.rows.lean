set_option maxHeartbeats 4000000 in
set_option maxRecDepth 100000 in
theorem k_bitL (l : Launch) (D : va_G) (cI cL cZ : ClassId) (sz : Nat) (a0 : Nat) :
    Met l yJ13_bitCount_95d88 (ws_ yJ13_bitCount_95d88 cJ13_bitCount_95d88 2 (some .int)) { frames := 0, cells := 0, slots := 0, locals := 0 } (su_pre D (su_T cI cL cZ) sz [] [.long (lN a0)]) (su_qi D (va_A [] sz) (fun (r : Int32) (uu : Unit) => r = nI (su_pc a0 64)) (fun (uu : Unit) => [])) 0 0 (va_A [] sz) := by
  refine su_met (Qf := fun A => su_qi D A (fun (r : Int32) (uu : Unit) => r = nI (su_pc a0 64)) (fun (uu : Unit) => [])) (cc := cJ13_bitCount_95d88) (maxL := 2) (ret := (some .int)) (by decide) (Nat.le_of_ble_eq_true rfl) ?_
  intro p e s m args below meth c R Q A H locs ls hx hb hr hlocks hin hml hown hts hN hP hK hD hA hS hRm hQ hl
  have hown : s.vm.findClass RJ13 = some m.cls := hown
  have hl : lv_has ls 2 [(0, .long (lN a0))] := hl
  have hR3 : 0 ≤ R.cells := by rw [hRm]; exact Nat.le_of_ble_eq_true rfl
  have hR4 : 0 ≤ R.slots := by rw [hRm]; exact Nat.le_of_ble_eq_true rfl
  have k_401 := hts _ q_401
  have k_402 := hts _ q_402
  have k_403 := hts _ q_403
  refine lv_lload_n hx hb dJ13_bitCount_95d88_0 rfl (lv_at hl 0 rfl) ?_
  refine lv_lload_n hx hb dJ13_bitCount_95d88_1 rfl (lv_at hl 0 rfl) ?_
  refine lv_iconst (v := nI 1) hx hb dJ13_bitCount_95d88_2 (by decide) ?_
  refine lv_lushr (v := ((lN a0).toUInt64 >>> ((nI 1).toInt64.toUInt64 &&& Int64.toUInt64 63)).toInt64) hx hb dJ13_bitCount_95d88_3 (rfl) ?_
  refine lv_ldc2 hx hb hown k_401 dJ13_bitCount_95d88_4 ?_
  refine lv_land hx hb dJ13_bitCount_95d88_7 ?_
  refine lv_lsub hx hb dJ13_bitCount_95d88_8 ?_
  refine su_eql (bJA (lN a0)) (rfl) ?_
  refine lv_lstore_n (lv' := [(0, .long (bJA (lN a0)))]) hx hb dJ13_bitCount_95d88_9 rfl hl (by decide) rfl (fun ls hl => ?_)
  refine lv_lload_n hx hb dJ13_bitCount_95d88_10 rfl (lv_at hl 0 rfl) ?_
  refine lv_ldc2 hx hb hown k_402 dJ13_bitCount_95d88_11 ?_
  refine lv_land hx hb dJ13_bitCount_95d88_14 ?_
  refine lv_lload_n hx hb dJ13_bitCount_95d88_15 rfl (lv_at hl 0 rfl) ?_
  refine lv_iconst (v := nI 2) hx hb dJ13_bitCount_95d88_16 (by decide) ?_
  refine lv_lushr (v := ((bJA (lN a0)).toUInt64 >>> ((nI 2).toInt64.toUInt64 &&& Int64.toUInt64 63)).toInt64) hx hb dJ13_bitCount_95d88_17 (rfl) ?_
  refine lv_ldc2 hx hb hown k_402 dJ13_bitCount_95d88_18 ?_
  refine lv_land hx hb dJ13_bitCount_95d88_21 ?_
  refine lv_ladd hx hb dJ13_bitCount_95d88_22 ?_
  refine su_eql (bJB (bJA (lN a0))) (rfl) ?_
  refine lv_lstore_n (lv' := [(0, .long (bJB (bJA (lN a0))))]) hx hb dJ13_bitCount_95d88_23 rfl hl (by decide) rfl (fun ls hl => ?_)
  refine lv_lload_n hx hb dJ13_bitCount_95d88_24 rfl (lv_at hl 0 rfl) ?_
  refine lv_lload_n hx hb dJ13_bitCount_95d88_25 rfl (lv_at hl 0 rfl) ?_
  refine lv_iconst (v := nI 4) hx hb dJ13_bitCount_95d88_26 (by decide) ?_
  refine lv_lushr (v := ((bJB (bJA (lN a0))).toUInt64 >>> ((nI 4).toInt64.toUInt64 &&& Int64.toUInt64 63)).toInt64) hx hb dJ13_bitCount_95d88_27 (rfl) ?_
  refine lv_ladd hx hb dJ13_bitCount_95d88_28 ?_
  refine lv_ldc2 hx hb hown k_403 dJ13_bitCount_95d88_29 ?_
  refine lv_land hx hb dJ13_bitCount_95d88_32 ?_
  refine su_eql (bJC (bJB (bJA (lN a0)))) (rfl) ?_
  refine lv_lstore_n (lv' := [(0, .long (bJC (bJB (bJA (lN a0)))))]) hx hb dJ13_bitCount_95d88_33 rfl hl (by decide) rfl (fun ls hl => ?_)
  refine lv_lload_n hx hb dJ13_bitCount_95d88_34 rfl (lv_at hl 0 rfl) ?_
  refine lv_lload_n hx hb dJ13_bitCount_95d88_35 rfl (lv_at hl 0 rfl) ?_
  refine lv_bipush (v := nI 8) hx hb dJ13_bitCount_95d88_36 (by decide) ?_
  refine lv_lushr (v := ((bJC (bJB (bJA (lN a0)))).toUInt64 >>> ((nI 8).toInt64.toUInt64 &&& Int64.toUInt64 63)).toInt64) hx hb dJ13_bitCount_95d88_38 (rfl) ?_
  refine lv_ladd hx hb dJ13_bitCount_95d88_39 ?_
  refine su_eql (bJD 8 (bJC (bJB (bJA (lN a0))))) (rfl) ?_
  refine lv_lstore_n (lv' := [(0, .long (bJD 8 (bJC (bJB (bJA (lN a0))))))]) hx hb dJ13_bitCount_95d88_40 rfl hl (by decide) rfl (fun ls hl => ?_)
  refine lv_lload_n hx hb dJ13_bitCount_95d88_41 rfl (lv_at hl 0 rfl) ?_
  refine lv_lload_n hx hb dJ13_bitCount_95d88_42 rfl (lv_at hl 0 rfl) ?_
  refine lv_bipush (v := nI 16) hx hb dJ13_bitCount_95d88_43 (by decide) ?_
  refine lv_lushr (v := ((bJD 8 (bJC (bJB (bJA (lN a0))))).toUInt64 >>> ((nI 16).toInt64.toUInt64 &&& Int64.toUInt64 63)).toInt64) hx hb dJ13_bitCount_95d88_45 (rfl) ?_
  refine lv_ladd hx hb dJ13_bitCount_95d88_46 ?_
  refine su_eql (bJD 16 (bJD 8 (bJC (bJB (bJA (lN a0)))))) (rfl) ?_
  refine lv_lstore_n (lv' := [(0, .long (bJD 16 (bJD 8 (bJC (bJB (bJA (lN a0)))))))]) hx hb dJ13_bitCount_95d88_47 rfl hl (by decide) rfl (fun ls hl => ?_)
  refine lv_lload_n hx hb dJ13_bitCount_95d88_48 rfl (lv_at hl 0 rfl) ?_
  refine lv_lload_n hx hb dJ13_bitCount_95d88_49 rfl (lv_at hl 0 rfl) ?_
  refine lv_bipush (v := nI 32) hx hb dJ13_bitCount_95d88_50 (by decide) ?_
  refine lv_lushr (v := ((bJD 16 (bJD 8 (bJC (bJB (bJA (lN a0)))))).toUInt64 >>> ((nI 32).toInt64.toUInt64 &&& Int64.toUInt64 63)).toInt64) hx hb dJ13_bitCount_95d88_52 (rfl) ?_
  refine lv_ladd hx hb dJ13_bitCount_95d88_53 ?_
  refine su_eql (bJD 32 (bJD 16 (bJD 8 (bJC (bJB (bJA (lN a0))))))) (rfl) ?_
  refine lv_lstore_n (lv' := [(0, .long (bJD 32 (bJD 16 (bJD 8 (bJC (bJB (bJA (lN a0))))))))]) hx hb dJ13_bitCount_95d88_54 rfl hl (by decide) rfl (fun ls hl => ?_)
  refine lv_lload_n hx hb dJ13_bitCount_95d88_55 rfl (lv_at hl 0 rfl) ?_
  refine lv_l2i (v := (bJD 32 (bJD 16 (bJD 8 (bJC (bJB (bJA (lN a0))))))).toInt32) hx hb dJ13_bitCount_95d88_56 (rfl) ?_
  refine lv_bipush (v := nI 127) hx hb dJ13_bitCount_95d88_57 (by decide) ?_
  refine lv_iand hx hb dJ13_bitCount_95d88_59 ?_
  refine su_eqi (nI (su_pc a0 64)) (su_bitL a0) ?_
  rw [hQ]
  exact su_ei hx hb hr hlocks hS dJ13_bitCount_95d88_60 () (rfl) hP hD
set_option maxHeartbeats 4000000 in
set_option maxRecDepth 100000 in
theorem k_bitI (l : Launch) (D : va_G) (cI cL cZ : ClassId) (sz : Nat) (a0 : Nat) (ha0 : a0 < 2 ^ 32) :
    Met l yJ6_bitCount_0f7a4 (ws_ yJ6_bitCount_0f7a4 cJ6_bitCount_0f7a4 1 (some .int)) { frames := 0, cells := 0, slots := 0, locals := 0 } (su_pre D (su_T cI cL cZ) sz [] [.int (nI a0)]) (su_qi D (va_A [] sz) (fun (r : Int32) (uu : Unit) => r = nI (su_pc a0 32)) (fun (uu : Unit) => [])) 0 0 (va_A [] sz) := by
  refine su_met (Qf := fun A => su_qi D A (fun (r : Int32) (uu : Unit) => r = nI (su_pc a0 32)) (fun (uu : Unit) => [])) (cc := cJ6_bitCount_0f7a4) (maxL := 1) (ret := (some .int)) (by decide) (Nat.le_of_ble_eq_true rfl) ?_
  intro p e s m args below meth c R Q A H locs ls hx hb hr hlocks hin hml hown hts hN hP hK hD hA hS hRm hQ hl
  have hown : s.vm.findClass RJ6 = some m.cls := hown
  have hl : lv_has ls 1 [(0, .int (nI a0))] := hl
  have hR3 : 0 ≤ R.cells := by rw [hRm]; exact Nat.le_of_ble_eq_true rfl
  have hR4 : 0 ≤ R.slots := by rw [hRm]; exact Nat.le_of_ble_eq_true rfl
  have k_952 := hts _ q_952
  have k_953 := hts _ q_953
  have k_954 := hts _ q_954
  refine lv_iload_n hx hb dJ6_bitCount_0f7a4_0 rfl (lv_at hl 0 rfl) ?_
  refine lv_iload_n hx hb dJ6_bitCount_0f7a4_1 rfl (lv_at hl 0 rfl) ?_
  refine lv_iconst (v := nI 1) hx hb dJ6_bitCount_0f7a4_2 (by decide) ?_
  refine lv_iushr (v := ((nI a0).toUInt32 >>> ((nI 1).toUInt32 &&& Int32.toUInt32 31)).toInt32) hx hb dJ6_bitCount_0f7a4_3 (rfl) ?_
  refine lv_ldcw hx hb hown k_952 dJ6_bitCount_0f7a4_4 ?_
  refine lv_iand hx hb dJ6_bitCount_0f7a4_7 ?_
  refine lv_isub hx hb dJ6_bitCount_0f7a4_8 ?_
  refine su_eqi (bIA (nI a0)) (rfl) ?_
  refine lv_istore_n (lv' := [(0, .int (bIA (nI a0)))]) hx hb dJ6_bitCount_0f7a4_9 rfl hl (by decide) rfl (fun ls hl => ?_)
  refine lv_iload_n hx hb dJ6_bitCount_0f7a4_10 rfl (lv_at hl 0 rfl) ?_
  refine lv_ldcw hx hb hown k_953 dJ6_bitCount_0f7a4_11 ?_
  refine lv_iand hx hb dJ6_bitCount_0f7a4_14 ?_
  refine lv_iload_n hx hb dJ6_bitCount_0f7a4_15 rfl (lv_at hl 0 rfl) ?_
  refine lv_iconst (v := nI 2) hx hb dJ6_bitCount_0f7a4_16 (by decide) ?_
  refine lv_iushr (v := ((bIA (nI a0)).toUInt32 >>> ((nI 2).toUInt32 &&& Int32.toUInt32 31)).toInt32) hx hb dJ6_bitCount_0f7a4_17 (rfl) ?_
  refine lv_ldcw hx hb hown k_953 dJ6_bitCount_0f7a4_18 ?_
  refine lv_iand hx hb dJ6_bitCount_0f7a4_21 ?_
  refine lv_iadd hx hb dJ6_bitCount_0f7a4_22 ?_
  refine su_eqi (bIB (bIA (nI a0))) (rfl) ?_
  refine lv_istore_n (lv' := [(0, .int (bIB (bIA (nI a0))))]) hx hb dJ6_bitCount_0f7a4_23 rfl hl (by decide) rfl (fun ls hl => ?_)
  refine lv_iload_n hx hb dJ6_bitCount_0f7a4_24 rfl (lv_at hl 0 rfl) ?_
  refine lv_iload_n hx hb dJ6_bitCount_0f7a4_25 rfl (lv_at hl 0 rfl) ?_
  refine lv_iconst (v := nI 4) hx hb dJ6_bitCount_0f7a4_26 (by decide) ?_
  refine lv_iushr (v := ((bIB (bIA (nI a0))).toUInt32 >>> ((nI 4).toUInt32 &&& Int32.toUInt32 31)).toInt32) hx hb dJ6_bitCount_0f7a4_27 (rfl) ?_
  refine lv_iadd hx hb dJ6_bitCount_0f7a4_28 ?_
  refine lv_ldcw hx hb hown k_954 dJ6_bitCount_0f7a4_29 ?_
  refine lv_iand hx hb dJ6_bitCount_0f7a4_32 ?_
  refine su_eqi (bIC (bIB (bIA (nI a0)))) (rfl) ?_
  refine lv_istore_n (lv' := [(0, .int (bIC (bIB (bIA (nI a0)))))]) hx hb dJ6_bitCount_0f7a4_33 rfl hl (by decide) rfl (fun ls hl => ?_)
  refine lv_iload_n hx hb dJ6_bitCount_0f7a4_34 rfl (lv_at hl 0 rfl) ?_
  refine lv_iload_n hx hb dJ6_bitCount_0f7a4_35 rfl (lv_at hl 0 rfl) ?_
  refine lv_bipush (v := nI 8) hx hb dJ6_bitCount_0f7a4_36 (by decide) ?_
  refine lv_iushr (v := ((bIC (bIB (bIA (nI a0)))).toUInt32 >>> ((nI 8).toUInt32 &&& Int32.toUInt32 31)).toInt32) hx hb dJ6_bitCount_0f7a4_38 (rfl) ?_
  refine lv_iadd hx hb dJ6_bitCount_0f7a4_39 ?_
  refine su_eqi (bID 8 (bIC (bIB (bIA (nI a0))))) (rfl) ?_
  refine lv_istore_n (lv' := [(0, .int (bID 8 (bIC (bIB (bIA (nI a0))))))]) hx hb dJ6_bitCount_0f7a4_40 rfl hl (by decide) rfl (fun ls hl => ?_)
  refine lv_iload_n hx hb dJ6_bitCount_0f7a4_41 rfl (lv_at hl 0 rfl) ?_
  refine lv_iload_n hx hb dJ6_bitCount_0f7a4_42 rfl (lv_at hl 0 rfl) ?_
  refine lv_bipush (v := nI 16) hx hb dJ6_bitCount_0f7a4_43 (by decide) ?_
  refine lv_iushr (v := ((bID 8 (bIC (bIB (bIA (nI a0))))).toUInt32 >>> ((nI 16).toUInt32 &&& Int32.toUInt32 31)).toInt32) hx hb dJ6_bitCount_0f7a4_45 (rfl) ?_
  refine lv_iadd hx hb dJ6_bitCount_0f7a4_46 ?_
  refine su_eqi (bID 16 (bID 8 (bIC (bIB (bIA (nI a0)))))) (rfl) ?_
  refine lv_istore_n (lv' := [(0, .int (bID 16 (bID 8 (bIC (bIB (bIA (nI a0)))))))]) hx hb dJ6_bitCount_0f7a4_47 rfl hl (by decide) rfl (fun ls hl => ?_)
  refine lv_iload_n hx hb dJ6_bitCount_0f7a4_48 rfl (lv_at hl 0 rfl) ?_
  refine lv_bipush (v := nI 63) hx hb dJ6_bitCount_0f7a4_49 (by decide) ?_
  refine lv_iand hx hb dJ6_bitCount_0f7a4_51 ?_
  refine su_eqi (nI (su_pc a0 32)) (su_bitI ha0) ?_
  rw [hQ]
  exact su_ei hx hb hr hlocks hS dJ6_bitCount_0f7a4_52 () (rfl) hP hD
set_option maxHeartbeats 4000000 in
set_option maxRecDepth 100000 in
theorem k_countSet (l : Launch) (D : va_G) (cI cL cZ : ClassId) (sz : Nat) (h : Nat) (w : Nat) (sh : Nat) (nw : Nat) (V : Nat) (hnw : nw ≤ 99) :
    Met l yX0_countSet (ws_ yX0_countSet cX0_countSet 3 (some .int)) { frames := 1, cells := 0, slots := 0, locals := 30 } (su_pre D (su_T cI cL cZ) sz [(h, .inr (0, [.ref w, .ref sh])), (w, .inl (cL, nw, .inr (.inl (bW V))))] [.ref h]) (su_qi D (va_A [(h, .inr (0, [.ref w, .ref sh])), (w, .inl (cL, nw, .inr (.inl (bW V))))] sz) (fun (r : Int32) (uu : Unit) => r = nI (su_pc V (64 * nw))) (fun (uu : Unit) => [(h, .inr (0, [.ref w, .ref sh])), (w, .inl (cL, nw, .inr (.inl (bW V))))])) 0 0 (va_A [(h, .inr (0, [.ref w, .ref sh])), (w, .inl (cL, nw, .inr (.inl (bW V))))] sz) := by
  refine su_met (Qf := fun A => su_qi D A (fun (r : Int32) (uu : Unit) => r = nI (su_pc V (64 * nw))) (fun (uu : Unit) => [(h, .inr (0, [.ref w, .ref sh])), (w, .inl (cL, nw, .inr (.inl (bW V))))])) (cc := cX0_countSet) (maxL := 3) (ret := (some .int)) (by decide) (Nat.le_of_ble_eq_true rfl) ?_
  intro p e s m args below meth c R Q A H locs ls hx hb hr hlocks hin hml hown hts hN hP hK hD hA hS hRm hQ hl
  have hown : s.vm.findClass RX0 = some m.cls := hown
  have hl : lv_has ls 3 [(0, .ref h)] := hl
  have hR1 : 1 ≤ R.frames := by rw [hRm]; exact Nat.le_of_ble_eq_true rfl
  have hR2 : 30 ≤ R.locals := by rw [hRm]; exact Nat.le_of_ble_eq_true rfl
  have hR3 : 0 ≤ R.cells := by rw [hRm]; exact Nat.le_of_ble_eq_true rfl
  have hR4 : 0 ≤ R.slots := by rw [hRm]; exact Nat.le_of_ble_eq_true rfl
  have k_92 := hts _ q_92
  refine lv_iconst (v := nI 0) hx hb dX0_countSet_0 (by decide) ?_
  refine lv_istore_n (lv' := [(1, .int (nI 0)), (0, .ref h)]) hx hb dX0_countSet_1 rfl hl (by decide) rfl (fun ls hl => ?_)
  refine lv_iconst (v := nI 0) hx hb dX0_countSet_2 (by decide) ?_
  refine lv_istore_n (lv' := [(2, .int (nI 0)), (1, .int (nI 0)), (0, .ref h)]) hx hb dX0_countSet_3 rfl hl (by decide) rfl (fun ls hl => ?_)
  have loop4 : ∀ (k4 : Nat) (i : Nat), (i ≤ nw) → nw - i < k4 → ∀ (H : Heap) (locs : List Loc), va_P D vwCl [(h, .inr (0, [.ref w, .ref sh])), (w, .inl (cL, nw, .inr (.inl (bW V))))] H → va_D A [(h, .inr (0, [.ref w, .ref sh])), (w, .inl (cL, nw, .inr (.inl (bW V))))] → va_S A s.heap H locs → ∀ ls : Array Slot, lv_has ls 3 [(2, .int (nI i)), (1, .int (nI (su_pc V (64 * i)))), (0, .ref h)] → W p l e R s m args below meth c H locs 0 0 Q (F0 m 4 ls []) := by
    intro k4
    induction k4 with
    | zero => intro i hi hk; exact absurd hk (Nat.not_lt_zero _)
    | succ k4 ih4 =>
      intro i hi hk4 H locs hP hD hS ls hl
      refine lv_iload_n hx hb dX0_countSet_4 rfl (lv_at hl 0 rfl) ?_
      refine lv_aload_n hx hb dX0_countSet_5 rfl (lv_at hl 2 rfl) ?_
      refine va_get (D := D) (ci := 0) (v := .ref w) (C := RX0) (T := TX0) (N := 2) hx hb hts in_X0 hown hK hP 0 rfl rfl 0 (by decide) k_92 (fun _ h9 => h9) rfl dX0_countSet_6 ?_
      refine va_alen hx hb hK hP 1 1 rfl rfl (v := nI nw) rfl dX0_countSet_9 ?_
      refine lv_icmp_ge (tgt := 31) hx hb dX0_countSet_10 (by decide) (fun c10 => ?_) (fun c10 => ?_)
      · have c10 : nw ≤ i := su_ge (by omega) (by omega) c10
        refine lv_iload_n hx hb dX0_countSet_31 rfl (lv_at hl 1 rfl) ?_
        rw [hQ]
        exact su_ei hx hb hr hlocks hS dX0_countSet_32 () (by rw [show nw = i by omega]) hP hD
      · have c10 : i < nw := su_nge (by omega) (by omega) c10
        refine lv_iload_n hx hb dX0_countSet_13 rfl (lv_at hl 1 rfl) ?_
        refine lv_aload_n hx hb dX0_countSet_14 rfl (lv_at hl 2 rfl) ?_
        refine va_get (D := D) (ci := 0) (v := .ref w) (C := RX0) (T := TX0) (N := 2) hx hb hts in_X0 hown hK hP 0 rfl rfl 0 (by decide) k_92 (fun _ h9 => h9) rfl dX0_countSet_15 ?_
        refine lv_iload_n hx hb dX0_countSet_18 rfl (lv_at hl 0 rfl) ?_
        refine su_lald hx hb hK hP 1 1 rfl rfl (i := i) (by omega) (by omega) (lN (V >>> (64 * i))) (rfl) dX0_countSet_19 ?_
        refine su_ci (wr := [(h, .inr (0, [.ref w, .ref sh])), (w, .inl (cL, nw, .inr (.inl (bW V))))]) (va_runS (As := [.long (lN (V >>> (64 * i)))]) (rest := [.int (nI (su_pc V (64 * i)))]) ⟨hx, hb, hml, hown, hts⟩ (k_bitL l D cI cL cZ H.size (V >>> (64 * i)) ) (va_cwS 1 hts (lw_gS q_398 q_399 q_49 q_400) rfl rfl rfl (by decide +kernel) ⟨Nat.le_trans (Nat.le_of_ble_eq_true rfl) hR1, Nat.le_trans (Nat.le_of_ble_eq_true rfl) hR2⟩) (su_ps hN hK hP hD [] [0, 1, 2] rfl rfl rfl) rfl rfl hl.1 rfl (lv_room (Nat.le_of_ble_eq_true rfl)) dX0_countSet_20 ⟨Nat.le_trans (Nat.le_of_ble_eq_true rfl) hR3, Nat.le_trans (Nat.le_of_ble_eq_true rfl) hR4⟩) hP hD hS hA [] [0, 1] rfl rfl (by decide) (by decide) (fun r uu H locs hw hP hD hS => ?_)
        obtain rfl : r = nI (su_pc (V >>> (64 * i)) 64) := hw
        have hP : va_P D vwCl [(h, .inr (0, [.ref w, .ref sh])), (w, .inl (cL, nw, .inr (.inl (bW V))))] H := hP
        have hD : va_D A [(h, .inr (0, [.ref w, .ref sh])), (w, .inl (cL, nw, .inr (.inl (bW V))))] := hD
        refine lv_iadd hx hb dX0_countSet_23 ?_
        refine su_eqi (nI (su_pc V (64 * i) + (su_pc (V >>> (64 * i)) 64))) (nI_add _ _) ?_
        refine lv_istore_n (lv' := [(1, .int (nI (su_pc V (64 * i) + (su_pc (V >>> (64 * i)) 64)))), (2, .int (nI i)), (0, .ref h)]) hx hb dX0_countSet_24 rfl hl (by decide) rfl (fun ls hl => ?_)
        refine lv_iinc (v := nI (i + 1)) (lv' := [(2, .int (nI (i + 1))), (1, .int (nI (su_pc V (64 * i) + (su_pc (V >>> (64 * i)) 64)))), (0, .ref h)]) hx hb dX0_countSet_25 hl (k := 1) rfl (su_inc _) (by decide) rfl (fun ls hl => ?_)
        refine lv_goto (tgt := 4) hx hb dX0_countSet_28 (by decide) ?_
        have hl : lv_has ls 3 [(2, .int (nI (i + 1))), (1, .int (nI (su_pc V (64 * (i + 1))))), (0, .ref h)] := by rw [show (nI (su_pc V (64 * (i + 1)))) = (nI (su_pc V (64 * i) + (su_pc (V >>> (64 * i)) 64))) from (by rw [show 64 * (i + 1) = 64 * i + 64 by omega, su_pc_add])]; exact hl
        exact ih4 (i + 1) (by omega) (by omega) _ _ hP hD hS _ (lv_sub hl [0, 1, 2] rfl)
  have hl : lv_has ls 3 [(2, .int (nI 0)), (1, .int (nI (su_pc V (64 * (0))))), (0, .ref h)] := by rw [show (nI (su_pc V (64 * (0)))) = (nI 0) from (by rw [Nat.mul_zero]; rfl)]; exact hl
  exact loop4 ((nw - (0)) + 1) (0) (by omega) (by omega) _ _ hP hD hS _ (lv_sub hl [0, 1, 2] rfl)
set_option maxHeartbeats 4000000 in
set_option maxRecDepth 100000 in
theorem k_isCell (l : Launch) (D : va_G) (cI cL cZ : ClassId) (sz : Nat) (u : Nat) (hu : u ≤ 300) :
    Met l yX7_isCell (ws_ yX7_isCell cX7_isCell 1 (some .boolean)) { frames := 0, cells := 0, slots := 0, locals := 0 } (su_pre D (su_T cI cL cZ) sz [] [.int (nI u)]) (su_qi D (va_A [] sz) (fun (r : Int32) (uu : Unit) => r = bI true) (fun (uu : Unit) => [])) 0 0 (va_A [] sz) := by
  refine su_met (Qf := fun A => su_qi D A (fun (r : Int32) (uu : Unit) => r = bI true) (fun (uu : Unit) => [])) (cc := cX7_isCell) (maxL := 1) (ret := (some .boolean)) (by decide) (Nat.le_of_ble_eq_true rfl) ?_
  intro p e s m args below meth c R Q A H locs ls hx hb hr hlocks hin hml hown hts hN hP hK hD hA hS hRm hQ hl
  have hown : s.vm.findClass RX7 = some m.cls := hown
  have hl : lv_has ls 1 [(0, .int (nI u))] := hl
  have hR3 : 0 ≤ R.cells := by rw [hRm]; exact Nat.le_of_ble_eq_true rfl
  have hR4 : 0 ≤ R.slots := by rw [hRm]; exact Nat.le_of_ble_eq_true rfl
  refine lv_iload_n hx hb dX7_isCell_0 rfl (lv_at hl 0 rfl) ?_
  refine lv_if_lt (tgt := 15) hx hb dX7_isCell_1 (by decide) (fun c1 => ?_) (fun c1 => ?_)
  · exact absurd c1 (nI_pos (by omega))
  · refine lv_iload_n hx hb dX7_isCell_4 rfl (lv_at hl 0 rfl) ?_
    refine lv_sipush (v := nI 300) hx hb dX7_isCell_5 (by decide) ?_
    refine lv_icmp_gt (tgt := 15) hx hb dX7_isCell_8 (by decide) (fun c8 => ?_) (fun c8 => ?_)
    · have c8 : 300 < u := su_lt (by omega) (by omega) c8
      omega
    · have c8 : u ≤ 300 := su_nlt (by omega) (by omega) c8
      refine lv_iconst (v := nI 1) hx hb dX7_isCell_11 (by decide) ?_
      refine lv_goto (tgt := 16) hx hb dX7_isCell_12 (by decide) ?_
      rw [hQ]
      exact su_ez hx hb hr hlocks hS dX7_isCell_16 (by decide) () (by decide) hP hD
set_option maxHeartbeats 4000000 in
set_option maxRecDepth 100000 in
theorem k_beginW (l : Launch) (D : va_G) (cI cL cZ : ClassId) (sz : Nat) (h : Nat) (w : Nat) (fr : Nat → Int64) :
    Met l yX9_begin (ws_ yX9_begin cX9_begin 2 none) { frames := 0, cells := 0, slots := 0, locals := 0 } (su_pre D (su_T cI cL cZ) sz [(h, .inr (8, [.ref w])), (w, .inl (cL, 301, .inr (.inl fr)))] [.ref h]) (su_qv D (va_A [(h, .inr (8, [.ref w])), (w, .inl (cL, 301, .inr (.inl fr)))] sz) (fun (uu : Unit) => True) (fun (uu : Unit) => [(h, .inr (8, [.ref w])), (w, .inl (cL, 301, .inr (.inl (fL f0W))))])) 0 0 (va_A [(h, .inr (8, [.ref w])), (w, .inl (cL, 301, .inr (.inl fr)))] sz) := by
  refine su_met (Qf := fun A => su_qv D A (fun (uu : Unit) => True) (fun (uu : Unit) => [(h, .inr (8, [.ref w])), (w, .inl (cL, 301, .inr (.inl (fL f0W))))])) (cc := cX9_begin) (maxL := 2) (ret := none) (by decide) (Nat.le_of_ble_eq_true rfl) ?_
  intro p e s m args below meth c R Q A H locs ls hx hb hr hlocks hin hml hown hts hN hP hK hD hA hS hRm hQ hl
  have hown : s.vm.findClass RX9 = some m.cls := hown
  have hl : lv_has ls 2 [(0, .ref h)] := hl
  have hR3 : 0 ≤ R.cells := by rw [hRm]; exact Nat.le_of_ble_eq_true rfl
  have hR4 : 0 ≤ R.slots := by rw [hRm]; exact Nat.le_of_ble_eq_true rfl
  have k_123 := hts _ q_123
  refine lv_iconst (v := nI 0) hx hb dX9_begin_0 (by decide) ?_
  refine lv_istore_n (lv' := [(1, .int (nI 0)), (0, .ref h)]) hx hb dX9_begin_1 rfl hl (by decide) rfl (fun ls hl => ?_)
  have loop2 : ∀ (k2 : Nat) (i : Nat), (i ≤ 301) → 301 - i < k2 → ∀ (H : Heap) (locs : List Loc), va_P D vwCl [(h, .inr (8, [.ref w])), (w, .inl (cL, 301, .inr (.inl (su_fl (fL f0W) fr i))))] H → va_D A [(h, .inr (8, [.ref w])), (w, .inl (cL, 301, .inr (.inl (su_fl (fL f0W) fr i))))] → va_S A s.heap H locs → ∀ ls : Array Slot, lv_has ls 2 [(1, .int (nI i)), (0, .ref h)] → W p l e R s m args below meth c H locs 0 0 Q (F0 m 2 ls []) := by
    intro k2
    induction k2 with
    | zero => intro i hi hk; exact absurd hk (Nat.not_lt_zero _)
    | succ k2 ih2 =>
      intro i hi hk2 H locs hP hD hS ls hl
      refine lv_iload_n hx hb dX9_begin_2 rfl (lv_at hl 0 rfl) ?_
      refine lv_sipush (v := nI 300) hx hb dX9_begin_3 (by decide) ?_
      refine lv_icmp_gt (tgt := 30) hx hb dX9_begin_6 (by decide) (fun c6 => ?_) (fun c6 => ?_)
      · have c6 : 300 < i := su_lt (by omega) (by omega) c6
        obtain ⟨hP, hD⟩ := su_reL (q0 := 1) (fL f0W) hP hD rfl (fun j hj => su_flN (by omega))
        have hP : va_P D vwCl [(h, .inr (8, [.ref w])), (w, .inl (cL, 301, .inr (.inl (fL f0W))))] H := hP
        have hD : va_D A [(h, .inr (8, [.ref w])), (w, .inl (cL, 301, .inr (.inl (fL f0W))))] := hD
        rw [hQ]
        exact su_ev hx hb hr hlocks hS dX9_begin_30 () (trivial) hP hD
      · have c6 : i ≤ 300 := su_nlt (by omega) (by omega) c6
        refine lv_aload_n hx hb dX9_begin_9 rfl (lv_at hl 1 rfl) ?_
        refine va_get (D := D) (ci := 8) (v := .ref w) (C := RX9) (T := TX9) (N := 1) hx hb hts in_X9 hown hK hP 0 rfl rfl 0 (by decide) k_123 (fun _ h9 => h9) rfl dX9_begin_10 ?_
        refine lv_iload_n hx hb dX9_begin_13 rfl (lv_at hl 0 rfl) ?_
        refine lv_iload_n hx hb dX9_begin_14 rfl (lv_at hl 0 rfl) ?_
        refine lv_if_ne (tgt := 22) hx hb dX9_begin_15 (by decide) (fun c15 => ?_) (fun c15 => ?_)
        · have c15 : i ≠ 0 := su_nz c15
          refine lv_lconst (v := lN 0) hx hb dX9_begin_22 (by decide) ?_
          refine su_last hx hb hK hP hD hS 1 1 rfl rfl (i := i) (by omega) (by decide) (va_up (su_fl (fL f0W) fr i) i (lN 0)) (fun _ _ => rfl) dX9_begin_23 (fun H locs hP hD hS => ?_)
          have hP : va_P D vwCl [(h, .inr (8, [.ref w])), (w, .inl (cL, 301, .inr (.inl (va_up (su_fl (fL f0W) fr i) i (lN 0)))))] H := hP
          have hD : va_D A [(h, .inr (8, [.ref w])), (w, .inl (cL, 301, .inr (.inl (va_up (su_fl (fL f0W) fr i) i (lN 0)))))] := hD
          refine lv_iinc (v := nI (i + 1)) (lv' := [(1, .int (nI (i + 1))), (0, .ref h)]) hx hb dX9_begin_24 hl (k := 0) rfl (su_inc _) (by decide) rfl (fun ls hl => ?_)
          refine lv_goto (tgt := 2) hx hb dX9_begin_27 (by decide) ?_
          obtain ⟨hP, hD⟩ := su_reL (q0 := 1) (su_fl (fL f0W) fr (i + 1)) hP hD rfl (fun j _ => su_flS (by first | exact be_W1 c15 | exact be_W0 c15) j)
          have hP : va_P D vwCl [(h, .inr (8, [.ref w])), (w, .inl (cL, 301, .inr (.inl (su_fl (fL f0W) fr (i + 1)))))] H := hP
          have hD : va_D A [(h, .inr (8, [.ref w])), (w, .inl (cL, 301, .inr (.inl (su_fl (fL f0W) fr (i + 1)))))] := hD
          exact ih2 (i + 1) (by omega) (by omega) _ _ hP hD hS _ (lv_sub hl [0, 1] rfl)
        · have c15 : i = 0 := su_z (by omega) c15
          refine lv_lconst (v := lN 1) hx hb dX9_begin_18 (by decide) ?_
          refine lv_goto (tgt := 23) hx hb dX9_begin_19 (by decide) ?_
          refine su_last hx hb hK hP hD hS 1 1 rfl rfl (i := i) (by omega) (by decide) (va_up (su_fl (fL f0W) fr i) i (lN 1)) (fun _ _ => rfl) dX9_begin_23 (fun H locs hP hD hS => ?_)
          have hP : va_P D vwCl [(h, .inr (8, [.ref w])), (w, .inl (cL, 301, .inr (.inl (va_up (su_fl (fL f0W) fr i) i (lN 1)))))] H := hP
          have hD : va_D A [(h, .inr (8, [.ref w])), (w, .inl (cL, 301, .inr (.inl (va_up (su_fl (fL f0W) fr i) i (lN 1)))))] := hD
          refine lv_iinc (v := nI (i + 1)) (lv' := [(1, .int (nI (i + 1))), (0, .ref h)]) hx hb dX9_begin_24 hl (k := 0) rfl (su_inc _) (by decide) rfl (fun ls hl => ?_)
          refine lv_goto (tgt := 2) hx hb dX9_begin_27 (by decide) ?_
          obtain ⟨hP, hD⟩ := su_reL (q0 := 1) (su_fl (fL f0W) fr (i + 1)) hP hD rfl (fun j _ => su_flS (by first | exact be_W1 c15 | exact be_W0 c15) j)
          have hP : va_P D vwCl [(h, .inr (8, [.ref w])), (w, .inl (cL, 301, .inr (.inl (su_fl (fL f0W) fr (i + 1)))))] H := hP
          have hD : va_D A [(h, .inr (8, [.ref w])), (w, .inl (cL, 301, .inr (.inl (su_fl (fL f0W) fr (i + 1)))))] := hD
          exact ih2 (i + 1) (by omega) (by omega) _ _ hP hD hS _ (lv_sub hl [0, 1] rfl)
  obtain ⟨hP, hD⟩ := su_reL (q0 := 1) (su_fl (fL f0W) fr (0)) hP hD rfl (fun j _ => su_fl0 j)
  have hP : va_P D vwCl [(h, .inr (8, [.ref w])), (w, .inl (cL, 301, .inr (.inl (su_fl (fL f0W) fr (0)))))] H := hP
  have hD : va_D A [(h, .inr (8, [.ref w])), (w, .inl (cL, 301, .inr (.inl (su_fl (fL f0W) fr (0)))))] := hD
  exact loop2 ((301 - (0)) + 1) (0) (by omega) (by omega) _ _ hP hD hS _ (lv_sub hl [0, 1] rfl)
set_option maxHeartbeats 4000000 in
set_option maxRecDepth 100000 in
theorem k_carryW (l : Launch) (D : va_G) (cI cL cZ : ClassId) (sz : Nat) (h : Nat) (w : Nat) (f : Nat → Nat) (u : Nat) (v : Nat) (hu : u ≤ 300) (hv : v ≤ 300) :
    Met l yX9_carry (ws_ yX9_carry cX9_carry 3 none) { frames := 1, cells := 0, slots := 0, locals := 30 } (su_pre D (su_T cI cL cZ) sz [(h, .inr (8, [.ref w])), (w, .inl (cL, 301, .inr (.inl (fL f))))] [.ref h, .int (nI u), .int (nI v)]) (su_qv D (va_A [(h, .inr (8, [.ref w])), (w, .inl (cL, 301, .inr (.inl (fL f))))] sz) (fun (uu : Unit) => True) (fun (uu : Unit) => [(h, .inr (8, [.ref w])), (w, .inl (cL, 301, .inr (.inl (fL (va_up f v (f v + f u))))))])) 0 0 (va_A [(h, .inr (8, [.ref w])), (w, .inl (cL, 301, .inr (.inl (fL f))))] sz) := by
  refine su_met (Qf := fun A => su_qv D A (fun (uu : Unit) => True) (fun (uu : Unit) => [(h, .inr (8, [.ref w])), (w, .inl (cL, 301, .inr (.inl (fL (va_up f v (f v + f u))))))])) (cc := cX9_carry) (maxL := 3) (ret := none) (by decide) (Nat.le_of_ble_eq_true rfl) ?_
  intro p e s m args below meth c R Q A H locs ls hx hb hr hlocks hin hml hown hts hN hP hK hD hA hS hRm hQ hl
  have hown : s.vm.findClass RX9 = some m.cls := hown
  have hl : lv_has ls 3 [(0, .ref h), (1, .int (nI u)), (2, .int (nI v))] := hl
  have hR1 : 1 ≤ R.frames := by rw [hRm]; exact Nat.le_of_ble_eq_true rfl
  have hR2 : 30 ≤ R.locals := by rw [hRm]; exact Nat.le_of_ble_eq_true rfl
  have hR3 : 0 ≤ R.cells := by rw [hRm]; exact Nat.le_of_ble_eq_true rfl
  have hR4 : 0 ≤ R.slots := by rw [hRm]; exact Nat.le_of_ble_eq_true rfl
  have k_123 := hts _ q_123
  refine lv_iload_n hx hb dX9_carry_0 rfl (lv_at hl 1 rfl) ?_
  refine su_ci (wr := [(h, .inr (8, [.ref w])), (w, .inl (cL, 301, .inr (.inl (fL f))))]) (su_runSI (As := [.int (nI u)]) (rest := []) ⟨hx, hb, hml, hown, hts⟩ (k_isCell l D cI cL cZ H.size (u) (hu)) (hts _ q_316) (hts _ q_317) (hts _ q_298) (hts _ q_35) (hts _ q_299) (lw_gC q_299) rfl rfl rfl 1 rfl (by decide +kernel) ⟨Nat.le_trans (Nat.le_of_ble_eq_true rfl) hR1, Nat.le_trans (Nat.le_of_ble_eq_true rfl) hR2⟩ (su_ps hN hK hP hD [] [0, 1, 2] rfl rfl rfl) rfl rfl hl.1 rfl (lv_room (Nat.le_of_ble_eq_true rfl)) dX9_carry_1 ⟨Nat.le_trans (Nat.le_of_ble_eq_true rfl) hR3, Nat.le_trans (Nat.le_of_ble_eq_true rfl) hR4⟩) hP hD hS hA [] [0, 1] rfl rfl (by decide) (by decide) (fun r uu H locs hw hP hD hS => ?_)
  obtain rfl : r = bI true := hw
  have hP : va_P D vwCl [(h, .inr (8, [.ref w])), (w, .inl (cL, 301, .inr (.inl (fL f))))] H := hP
  have hD : va_D A [(h, .inr (8, [.ref w])), (w, .inl (cL, 301, .inr (.inl (fL f))))] := hD
  refine lv_if_eq (tgt := 29) hx hb dX9_carry_4 (by decide) (fun c4 => ?_) (fun c4 => ?_)
  · have c4 : true = false := bI_e c4
    exact absurd c4 (by decide)
  · have c4 : true = true := bI_n c4
    refine lv_iload_n hx hb dX9_carry_7 rfl (lv_at hl 2 rfl) ?_
    refine su_ci (wr := [(h, .inr (8, [.ref w])), (w, .inl (cL, 301, .inr (.inl (fL f))))]) (su_runSI (As := [.int (nI v)]) (rest := []) ⟨hx, hb, hml, hown, hts⟩ (k_isCell l D cI cL cZ H.size (v) (hv)) (hts _ q_316) (hts _ q_317) (hts _ q_298) (hts _ q_35) (hts _ q_299) (lw_gC q_299) rfl rfl rfl 1 rfl (by decide +kernel) ⟨Nat.le_trans (Nat.le_of_ble_eq_true rfl) hR1, Nat.le_trans (Nat.le_of_ble_eq_true rfl) hR2⟩ (su_ps hN hK hP hD [] [0, 1, 2] rfl rfl rfl) rfl rfl hl.1 rfl (lv_room (Nat.le_of_ble_eq_true rfl)) dX9_carry_8 ⟨Nat.le_trans (Nat.le_of_ble_eq_true rfl) hR3, Nat.le_trans (Nat.le_of_ble_eq_true rfl) hR4⟩) hP hD hS hA [] [0, 1] rfl rfl (by decide) (by decide) (fun r uu H locs hw hP hD hS => ?_)
    obtain rfl : r = bI true := hw
    have hP : va_P D vwCl [(h, .inr (8, [.ref w])), (w, .inl (cL, 301, .inr (.inl (fL f))))] H := hP
    have hD : va_D A [(h, .inr (8, [.ref w])), (w, .inl (cL, 301, .inr (.inl (fL f))))] := hD
    refine lv_if_eq (tgt := 29) hx hb dX9_carry_11 (by decide) (fun c11 => ?_) (fun c11 => ?_)
    · have c11 : true = false := bI_e c11
      exact absurd c11 (by decide)
    · have c11 : true = true := bI_n c11
      refine lv_aload_n hx hb dX9_carry_14 rfl (lv_at hl 0 rfl) ?_
      refine va_get (D := D) (ci := 8) (v := .ref w) (C := RX9) (T := TX9) (N := 1) hx hb hts in_X9 hown hK hP 0 rfl rfl 0 (by decide) k_123 (fun _ h9 => h9) rfl dX9_carry_15 ?_
      refine lv_iload_n hx hb dX9_carry_18 rfl (lv_at hl 2 rfl) ?_
      refine lv_dup2_11 hx hb dX9_carry_19 rfl rfl ?_
      refine su_lald hx hb hK hP 1 1 rfl rfl (i := v) (by omega) (by decide) (lN (f v)) (rfl) dX9_carry_20 ?_
      refine lv_aload_n hx hb dX9_carry_21 rfl (lv_at hl 0 rfl) ?_
      refine va_get (D := D) (ci := 8) (v := .ref w) (C := RX9) (T := TX9) (N := 1) hx hb hts in_X9 hown hK hP 0 rfl rfl 0 (by decide) k_123 (fun _ h9 => h9) rfl dX9_carry_22 ?_
      refine lv_iload_n hx hb dX9_carry_25 rfl (lv_at hl 1 rfl) ?_
      refine su_lald hx hb hK hP 1 1 rfl rfl (i := u) (by omega) (by decide) (lN (f u)) (rfl) dX9_carry_26 ?_
      refine lv_ladd hx hb dX9_carry_27 ?_
      refine su_eql (lN (f v + (f u))) (lN_add _ _) ?_
      refine su_last hx hb hK hP hD hS 1 1 rfl rfl (i := v) (by omega) (by decide) (fL (va_up f v (f v + (f u)))) (fun j _ => su_upL _ _ _ j) dX9_carry_28 (fun H locs hP hD hS => ?_)
      have hP : va_P D vwCl [(h, .inr (8, [.ref w])), (w, .inl (cL, 301, .inr (.inl (fL (va_up f v (f v + (f u)))))))] H := hP
      have hD : va_D A [(h, .inr (8, [.ref w])), (w, .inl (cL, 301, .inr (.inl (fL (va_up f v (f v + (f u)))))))] := hD
      rw [hQ]
      exact su_ev hx hb hr hlocks hS dX9_carry_29 () (trivial) hP hD
set_option maxHeartbeats 4000000 in
set_option maxRecDepth 100000 in
theorem k_takeWD (l : Launch) (D : va_G) (cI cL cZ : ClassId) (sz : Nat) (h : Nat) (w : Nat) (f : Nat → Nat) (num : Nat) (h1 : 1 ≤ num) (h3 : num ≤ 300) :
    Met l yX7_take (ws_ yX7_take cX7_take 4 none) { frames := 2, cells := 0, slots := 0, locals := 60 } (su_pre D (su_T cI cL cZ) sz [(h, .inr (8, [.ref w])), (w, .inl (cL, 301, .inr (.inl (fL f))))] [.ref h, .int (nI num), .int (bI false)]) (su_qv D (va_A [(h, .inr (8, [.ref w])), (w, .inl (cL, 301, .inr (.inl (fL f))))] sz) (fun (uu : Unit) => True) (fun (uu : Unit) => [(h, .inr (8, [.ref w])), (w, .inl (cL, 301, .inr (.inl (fL (dnT opW num f)))))])) 0 0 (va_A [(h, .inr (8, [.ref w])), (w, .inl (cL, 301, .inr (.inl (fL f))))] sz) := by
  refine su_met (Qf := fun A => su_qv D A (fun (uu : Unit) => True) (fun (uu : Unit) => [(h, .inr (8, [.ref w])), (w, .inl (cL, 301, .inr (.inl (fL (dnT opW num f)))))])) (cc := cX7_take) (maxL := 4) (ret := none) (by decide) (Nat.le_of_ble_eq_true rfl) ?_
  intro p e s m args below meth c R Q A H locs ls hx hb hr hlocks hin hml hown hts hN hP hK hD hA hS hRm hQ hl
  have hown : s.vm.findClass RX7 = some m.cls := hown
  have hl : lv_has ls 4 [(0, .ref h), (1, .int (nI num)), (2, .int (bI false))] := hl
  have hR1 : 2 ≤ R.frames := by rw [hRm]; exact Nat.le_of_ble_eq_true rfl
  have hR2 : 60 ≤ R.locals := by rw [hRm]; exact Nat.le_of_ble_eq_true rfl
  have hR3 : 0 ≤ R.cells := by rw [hRm]; exact Nat.le_of_ble_eq_true rfl
  have hR4 : 0 ≤ R.slots := by rw [hRm]; exact Nat.le_of_ble_eq_true rfl
  refine lv_iload_n hx hb dX7_take_0 rfl (lv_at hl 1 rfl) ?_
  refine lv_iconst (v := nI 1) hx hb dX7_take_1 (by decide) ?_
  refine lv_icmp_lt (tgt := 12) hx hb dX7_take_2 (by decide) (fun c2 => ?_) (fun c2 => ?_)
  · have c2 : num < 1 := su_lt (by omega) (by omega) c2
    omega
  · have c2 : 1 ≤ num := su_nlt (by omega) (by omega) c2
    refine lv_iload_n hx hb dX7_take_5 rfl (lv_at hl 1 rfl) ?_
    refine lv_sipush (v := nI 300) hx hb dX7_take_6 (by decide) ?_
    refine lv_icmp_le (tgt := 13) hx hb dX7_take_9 (by decide) (fun c9 => ?_) (fun c9 => ?_)
    · have c9 : num ≤ 300 := su_ge (by omega) (by omega) c9
      refine lv_iload_n hx hb dX7_take_13 rfl (lv_at hl 2 rfl) ?_
      refine lv_if_eq (tgt := 43) hx hb dX7_take_14 (by decide) (fun c14 => ?_) (fun c14 => ?_)
      · have c14 : false = false := bI_e c14
        refine lv_sipush (v := nI 300) hx hb dX7_take_43 (by decide) ?_
        refine lv_istore_n (lv' := [(3, .int (nI 300)), (0, .ref h), (1, .int (nI num)), (2, .int (bI false))]) hx hb dX7_take_46 rfl hl (by decide) rfl (fun ls hl => ?_)
        have loop47 : ∀ (k47 : Nat) (t : Nat), (t ≤ 300) → (num ≤ t + 1) → t < k47 → ∀ (H : Heap) (locs : List Loc), va_P D vwCl [(h, .inr (8, [.ref w])), (w, .inl (cL, 301, .inr (.inl (fL (dnP opW num f t)))))] H → va_D A [(h, .inr (8, [.ref w])), (w, .inl (cL, 301, .inr (.inl (fL (dnP opW num f t)))))] → va_S A s.heap H locs → ∀ ls : Array Slot, lv_has ls 4 [(3, .int (nI t)), (0, .ref h), (1, .int (nI num)), (2, .int (bI false))] → W p l e R s m args below meth c H locs 0 0 Q (F0 m 47 ls []) := by
          intro k47
          induction k47 with
          | zero => intro t ht ht2 hk; exact absurd hk (Nat.not_lt_zero _)
          | succ k47 ih47 =>
            intro t ht ht2 hk47 H locs hP hD hS ls hl
            refine lv_iload_n hx hb dX7_take_47 rfl (lv_at hl 0 rfl) ?_
            refine lv_iload_n hx hb dX7_take_48 rfl (lv_at hl 2 rfl) ?_
            refine lv_icmp_lt (tgt := 66) hx hb dX7_take_49 (by decide) (fun c49 => ?_) (fun c49 => ?_)
            · have c49 : t < num := su_lt (by omega) (by omega) c49
              obtain ⟨hP, hD⟩ := su_reL (q0 := 1) (fL (dnT opW num f)) hP hD rfl (fun j _ => by simp only [fL]; rw [dnP_T (by omega)])
              have hP : va_P D vwCl [(h, .inr (8, [.ref w])), (w, .inl (cL, 301, .inr (.inl (fL (dnT opW num f)))))] H := hP
              have hD : va_D A [(h, .inr (8, [.ref w])), (w, .inl (cL, 301, .inr (.inl (fL (dnT opW num f)))))] := hD
              rw [hQ]
              exact su_ev hx hb hr hlocks hS dX7_take_66 () (trivial) hP hD
            · have c49 : num ≤ t := su_nlt (by omega) (by omega) c49
              refine lv_aload_n hx hb dX7_take_52 rfl (lv_at hl 1 rfl) ?_
              refine lv_iload_n hx hb dX7_take_53 rfl (lv_at hl 0 rfl) ?_
              refine lv_iload_n hx hb dX7_take_54 rfl (lv_at hl 2 rfl) ?_
              refine lv_isub hx hb dX7_take_55 ?_
              refine su_eqi (nI (t - num)) (pk_sub (by omega)) ?_
              refine lv_iload_n hx hb dX7_take_56 rfl (lv_at hl 0 rfl) ?_
              refine su_cv (wr := []) (va_runU (As := [.int (nI (t - num)), .int (nI t)]) (rest := []) ⟨hx, hb, hml, hown, hts⟩ (k_carryW l D cI cL cZ H.size (h) (w) (dnP opW num f t) (t - num) (t) (by omega) (by omega)) (va_cwA 2 hts (lw_gU q_290 q_292 q_313 q_314 q_36 q_315) rfl rfl rfl (hN _ q_291) (by decide +kernel) ⟨Nat.le_trans (Nat.le_of_ble_eq_true rfl) hR1, Nat.le_trans (Nat.le_of_ble_eq_true rfl) hR2⟩) (su_pv hN hK hP hD [0, 1] [0, 1, 2] rfl rfl rfl (ci := 8) (q0 := 0) rfl rfl rfl) rfl rfl hl.1 rfl (lv_room (Nat.le_of_ble_eq_true rfl)) dX7_take_57 ⟨Nat.le_trans (Nat.le_of_ble_eq_true rfl) hR3, Nat.le_trans (Nat.le_of_ble_eq_true rfl) hR4⟩) hP hD hS hA [0, 1] [] rfl rfl (by decide) (by decide) (fun uu H locs hw hP hD hS => ?_)
              have hP : va_P D vwCl [(h, .inr (8, [.ref w])), (w, .inl (cL, 301, .inr (.inl (fL (va_up (dnP opW num f t) t ((dnP opW num f t) t + (dnP opW num f t) (t - num)))))))] H := hP
              have hD : va_D A [(h, .inr (8, [.ref w])), (w, .inl (cL, 301, .inr (.inl (fL (va_up (dnP opW num f t) t ((dnP opW num f t) t + (dnP opW num f t) (t - num)))))))] := hD
              refine lv_iinc (v := nI (t - 1)) (lv' := [(3, .int (nI (t - 1))), (0, .ref h), (1, .int (nI num)), (2, .int (bI false))]) hx hb dX7_take_60 hl (k := 0) rfl (sb_m1 (by omega)) (by decide) rfl (fun ls hl => ?_)
              refine lv_goto (tgt := 47) hx hb dX7_take_63 (by decide) ?_
              obtain ⟨hP, hD⟩ := su_reL (q0 := 1) (fL (dnP opW num f (t - 1))) hP hD rfl (fun j _ => by simp only [fL]; exact congrArg _ (dnP_S h1 (by omega) ht j))
              have hP : va_P D vwCl [(h, .inr (8, [.ref w])), (w, .inl (cL, 301, .inr (.inl (fL (dnP opW num f (t - 1))))))] H := hP
              have hD : va_D A [(h, .inr (8, [.ref w])), (w, .inl (cL, 301, .inr (.inl (fL (dnP opW num f (t - 1))))))] := hD
              exact ih47 (t - 1) (by omega) (by omega) (by omega) _ _ hP hD hS _ (lv_sub hl [0, 1, 2, 3] rfl)
        obtain ⟨hP, hD⟩ := su_reL (q0 := 1) (fL (dnP opW num f (300))) hP hD rfl (fun j _ => by simp only [fL]; rw [← dnP_0])
        have hP : va_P D vwCl [(h, .inr (8, [.ref w])), (w, .inl (cL, 301, .inr (.inl (fL (dnP opW num f (300))))))] H := hP
        have hD : va_D A [(h, .inr (8, [.ref w])), (w, .inl (cL, 301, .inr (.inl (fL (dnP opW num f (300))))))] := hD
        exact loop47 (((300)) + 1) (300) (by omega) (by omega) (by omega) _ _ hP hD hS _ (lv_sub hl [0, 1, 2, 3] rfl)
      · have c14 : false = true := bI_n c14
        exact absurd c14 (by decide)
    · have c9 : 300 < num := su_nge (by omega) (by omega) c9
      omega
set_option maxHeartbeats 4000000 in
set_option maxRecDepth 100000 in
theorem k_fillWD (l : Launch) (D : va_G) (cI cL cZ : ClassId) (sz : Nat) (h : Nat) (w : Nat) (fr : Nat → Int64) (h2 : Nat) (a2 : Nat) (g : Nat → Nat) (n : Nat) (hn : n ≤ 20) (hg : ∀ k, k < n → 1 ≤ g k ∧ g k ≤ 300) :
    Met l yX7_fill (ws_ yX7_fill cX7_fill 4 none) { frames := 3, cells := 0, slots := 0, locals := 90 } (su_pre D (su_T cI cL cZ) sz [(h, .inr (8, [.ref w])), (w, .inl (cL, 301, .inr (.inl fr))), (h2, .inr (3, [.ref a2, .int (nI n)])), (a2, .inl (cI, 20, .inl (fN g)))] [.ref h, .ref h2, .int (bI false)]) (su_qv D (va_A [(h, .inr (8, [.ref w])), (w, .inl (cL, 301, .inr (.inl fr))), (h2, .inr (3, [.ref a2, .int (nI n)])), (a2, .inl (cI, 20, .inl (fN g)))] sz) (fun (uu : Unit) => True) (fun (uu : Unit) => [(h, .inr (8, [.ref w])), (w, .inl (cL, 301, .inr (.inl (fL (fiD opW f0W g n))))), (h2, .inr (3, [.ref a2, .int (nI n)])), (a2, .inl (cI, 20, .inl (fN g)))])) 0 0 (va_A [(h, .inr (8, [.ref w])), (w, .inl (cL, 301, .inr (.inl fr))), (h2, .inr (3, [.ref a2, .int (nI n)])), (a2, .inl (cI, 20, .inl (fN g)))] sz) := by
  refine su_met (Qf := fun A => su_qv D A (fun (uu : Unit) => True) (fun (uu : Unit) => [(h, .inr (8, [.ref w])), (w, .inl (cL, 301, .inr (.inl (fL (fiD opW f0W g n))))), (h2, .inr (3, [.ref a2, .int (nI n)])), (a2, .inl (cI, 20, .inl (fN g)))])) (cc := cX7_fill) (maxL := 4) (ret := none) (by decide) (Nat.le_of_ble_eq_true rfl) ?_
  intro p e s m args below meth c R Q A H locs ls hx hb hr hlocks hin hml hown hts hN hP hK hD hA hS hRm hQ hl
  have hown : s.vm.findClass RX7 = some m.cls := hown
  have hl : lv_has ls 4 [(0, .ref h), (1, .ref h2), (2, .int (bI false))] := hl
  have hR1 : 3 ≤ R.frames := by rw [hRm]; exact Nat.le_of_ble_eq_true rfl
  have hR2 : 90 ≤ R.locals := by rw [hRm]; exact Nat.le_of_ble_eq_true rfl
  have hR3 : 0 ≤ R.cells := by rw [hRm]; exact Nat.le_of_ble_eq_true rfl
  have hR4 : 0 ≤ R.slots := by rw [hRm]; exact Nat.le_of_ble_eq_true rfl
  have k_73 := va_Nw.use (A := args) rfl (hN _ q_73)
  refine lv_aload_n hx hb dX7_fill_0 rfl (lv_at hl 0 rfl) ?_
  refine su_cv (wr := [(h2, .inr (3, [.ref a2, .int (nI n)])), (a2, .inl (cI, 20, .inl (fN g)))]) (va_runU (As := []) (rest := []) ⟨hx, hb, hml, hown, hts⟩ (k_beginW l D cI cL cZ H.size (h) (w) (fr) ) (va_cwA 0 hts (lw_gU q_263 q_265 q_275 q_276 q_36 q_277) rfl rfl rfl (hN _ q_264) (by decide +kernel) ⟨Nat.le_trans (Nat.le_of_ble_eq_true rfl) hR1, Nat.le_trans (Nat.le_of_ble_eq_true rfl) hR2⟩) (su_pv hN hK hP hD [0, 1] [0, 1, 2] rfl rfl rfl (ci := 8) (q0 := 0) rfl rfl rfl) rfl rfl hl.1 rfl (lv_room (Nat.le_of_ble_eq_true rfl)) dX7_fill_1 ⟨Nat.le_trans (Nat.le_of_ble_eq_true rfl) hR3, Nat.le_trans (Nat.le_of_ble_eq_true rfl) hR4⟩) hP hD hS hA [0, 1] [2, 3] rfl rfl (by decide) (by decide) (fun uu H locs hw hP hD hS => ?_)
  have hP : va_P D vwCl [(h2, .inr (3, [.ref a2, .int (nI n)])), (a2, .inl (cI, 20, .inl (fN g))), (h, .inr (8, [.ref w])), (w, .inl (cL, 301, .inr (.inl (fL f0W))))] H := hP
  have hD : va_D A [(h2, .inr (3, [.ref a2, .int (nI n)])), (a2, .inl (cI, 20, .inl (fN g))), (h, .inr (8, [.ref w])), (w, .inl (cL, 301, .inr (.inl (fL f0W))))] := hD
  refine lv_iconst (v := nI 0) hx hb dX7_fill_4 (by decide) ?_
  refine lv_istore_n (lv' := [(3, .int (nI 0)), (0, .ref h), (1, .ref h2), (2, .int (bI false))]) hx hb dX7_fill_5 rfl hl (by decide) rfl (fun ls hl => ?_)
  have loop6 : ∀ (k6 : Nat) (i : Nat), (i ≤ n) → n - i < k6 → ∀ (H : Heap) (locs : List Loc), va_P D vwCl [(h2, .inr (3, [.ref a2, .int (nI n)])), (a2, .inl (cI, 20, .inl (fN g))), (h, .inr (8, [.ref w])), (w, .inl (cL, 301, .inr (.inl (fL (fiD opW f0W g i)))))] H → va_D A [(h2, .inr (3, [.ref a2, .int (nI n)])), (a2, .inl (cI, 20, .inl (fN g))), (h, .inr (8, [.ref w])), (w, .inl (cL, 301, .inr (.inl (fL (fiD opW f0W g i)))))] → va_S A s.heap H locs → ∀ ls : Array Slot, lv_has ls 4 [(3, .int (nI i)), (0, .ref h), (1, .ref h2), (2, .int (bI false))] → W p l e R s m args below meth c H locs 0 0 Q (F0 m 6 ls []) := by
    intro k6
    induction k6 with
    | zero => intro i hi hk; exact absurd hk (Nat.not_lt_zero _)
    | succ k6 ih6 =>
      intro i hi hk6 H locs hP hD hS ls hl
      refine lv_iload_n hx hb dX7_fill_6 rfl (lv_at hl 0 rfl) ?_
      refine lv_aload_n hx hb dX7_fill_7 rfl (lv_at hl 2 rfl) ?_
      refine va_getN (D := D) (ci := 3) (v := .int (nI n)) (C := RX3) (T := TX3) (N := 2) hx hb hts in_X3 hown hK hP 0 rfl rfl 1 (by decide) k_73 (fun _ h9 => h9) rfl dX7_fill_8 ?_
      refine lv_icmp_ge (tgt := 30) hx hb dX7_fill_11 (by decide) (fun c11 => ?_) (fun c11 => ?_)
      · have c11 : n ≤ i := su_ge (by omega) (by omega) c11
        obtain ⟨hP, hD⟩ := su_reL (q0 := 3) (fL (fiD opW f0W g n)) hP hD rfl (fun j _ => by rw [show n = i by omega])
        have hP : va_P D vwCl [(h2, .inr (3, [.ref a2, .int (nI n)])), (a2, .inl (cI, 20, .inl (fN g))), (h, .inr (8, [.ref w])), (w, .inl (cL, 301, .inr (.inl (fL (fiD opW f0W g n)))))] H := hP
        have hD : va_D A [(h2, .inr (3, [.ref a2, .int (nI n)])), (a2, .inl (cI, 20, .inl (fN g))), (h, .inr (8, [.ref w])), (w, .inl (cL, 301, .inr (.inl (fL (fiD opW f0W g n)))))] := hD
        rw [hQ]
        exact su_ev hx hb hr hlocks hS dX7_fill_30 () (trivial) (hP.sub [2, 3, 0, 1] rfl) (hD.sub [2, 3, 0, 1] (by decide) rfl)
      · have c11 : i < n := su_nge (by omega) (by omega) c11
        refine lv_aload_n hx hb dX7_fill_14 rfl (lv_at hl 1 rfl) ?_
        refine lv_aload_n hx hb dX7_fill_15 rfl (lv_at hl 2 rfl) ?_
        refine lv_iload_n hx hb dX7_fill_16 rfl (lv_at hl 0 rfl) ?_
        refine su_ci (wr := [(h, .inr (8, [.ref w])), (w, .inl (cL, 301, .inr (.inl (fL (fiD opW f0W g i)))))]) (va_runV (As := [.int (nI i)]) (rest := [.ref h]) ⟨hx, hb, hml, hown, hts⟩ (k_numberAt l D cI cL cZ H.size (h2) (a2) (g) (n) (i) (hn) (c11)) (cwV 1 hts (lw_gV q_278 q_279 q_280 q_32 q_281) rfl rfl rfl (by decide +kernel) ⟨Nat.le_trans (Nat.le_of_ble_eq_true rfl) hR1, Nat.le_trans (Nat.le_of_ble_eq_true rfl) hR2⟩) (su_pv hN hK hP hD [0, 1] [0, 1, 2] rfl rfl rfl (ci := 3) (q0 := 0) rfl rfl rfl) rfl rfl hl.1 rfl (lv_room (Nat.le_of_ble_eq_true rfl)) dX7_fill_17 ⟨Nat.le_trans (Nat.le_of_ble_eq_true rfl) hR3, Nat.le_trans (Nat.le_of_ble_eq_true rfl) hR4⟩) hP hD hS hA [0, 1] [2, 3] rfl rfl (by decide) (by decide) (fun r uu H locs hw hP hD hS => ?_)
        obtain rfl : r = nI (g i) := hw
        have hP : va_P D vwCl [(h, .inr (8, [.ref w])), (w, .inl (cL, 301, .inr (.inl (fL (fiD opW f0W g i))))), (h2, .inr (3, [.ref a2, .int (nI n)])), (a2, .inl (cI, 20, .inl (fN g)))] H := hP
        have hD : va_D A [(h, .inr (8, [.ref w])), (w, .inl (cL, 301, .inr (.inl (fL (fiD opW f0W g i))))), (h2, .inr (3, [.ref a2, .int (nI n)])), (a2, .inl (cI, 20, .inl (fN g)))] := hD
        refine lv_iload_n hx hb dX7_fill_20 rfl (lv_at hl 3 rfl) ?_
        refine su_cv (wr := [(h2, .inr (3, [.ref a2, .int (nI n)])), (a2, .inl (cI, 20, .inl (fN g)))]) (va_runU (As := [.int (nI (g i)), .int (bI false)]) (rest := []) ⟨hx, hb, hml, hown, hts⟩ (k_takeWD l D cI cL cZ H.size (h) (w) (fiD opW f0W g i) (g i) ((hg i c11).1) ((hg i c11).2)) (va_cwU 2 hts (lw_gU q_286 q_1238 q_s9 q_288 q_35 q_289) rfl rfl rfl rfl (by decide +kernel) ⟨Nat.le_trans (Nat.le_of_ble_eq_true rfl) hR1, Nat.le_trans (Nat.le_of_ble_eq_true rfl) hR2⟩) (su_pv hN hK hP hD [0, 1] [0, 1, 2] rfl rfl rfl (ci := 8) (q0 := 0) rfl rfl rfl) rfl rfl hl.1 rfl (lv_room (Nat.le_of_ble_eq_true rfl)) dX7_fill_21 ⟨Nat.le_trans (Nat.le_of_ble_eq_true rfl) hR3, Nat.le_trans (Nat.le_of_ble_eq_true rfl) hR4⟩) hP hD hS hA [0, 1] [2, 3] rfl rfl (by decide) (by decide) (fun uu H locs hw hP hD hS => ?_)
        have hP : va_P D vwCl [(h2, .inr (3, [.ref a2, .int (nI n)])), (a2, .inl (cI, 20, .inl (fN g))), (h, .inr (8, [.ref w])), (w, .inl (cL, 301, .inr (.inl (fL (dnT opW (g i) (fiD opW f0W g i))))))] H := hP
        have hD : va_D A [(h2, .inr (3, [.ref a2, .int (nI n)])), (a2, .inl (cI, 20, .inl (fN g))), (h, .inr (8, [.ref w])), (w, .inl (cL, 301, .inr (.inl (fL (dnT opW (g i) (fiD opW f0W g i))))))] := hD
        refine lv_iinc (v := nI (i + 1)) (lv' := [(3, .int (nI (i + 1))), (0, .ref h), (1, .ref h2), (2, .int (bI false))]) hx hb dX7_fill_24 hl (k := 0) rfl (su_inc _) (by decide) rfl (fun ls hl => ?_)
        refine lv_goto (tgt := 6) hx hb dX7_fill_27 (by decide) ?_
        exact ih6 (i + 1) (by omega) (by omega) _ _ hP hD hS _ (lv_sub hl [0, 1, 2, 3] rfl)
  exact loop6 ((n - (0)) + 1) (0) (by omega) (by omega) _ _ hP hD hS _ (lv_sub hl [0, 1, 2, 3] rfl)
set_option maxHeartbeats 4000000 in
set_option maxRecDepth 100000 in
theorem k_takeWU (l : Launch) (D : va_G) (cI cL cZ : ClassId) (sz : Nat) (h : Nat) (w : Nat) (f : Nat → Nat) (num : Nat) (h1 : 1 ≤ num) (h3 : num ≤ 300) :
    Met l yX7_take (ws_ yX7_take cX7_take 4 none) { frames := 2, cells := 0, slots := 0, locals := 60 } (su_pre D (su_T cI cL cZ) sz [(h, .inr (8, [.ref w])), (w, .inl (cL, 301, .inr (.inl (fL f))))] [.ref h, .int (nI num), .int (bI true)]) (su_qv D (va_A [(h, .inr (8, [.ref w])), (w, .inl (cL, 301, .inr (.inl (fL f))))] sz) (fun (uu : Unit) => True) (fun (uu : Unit) => [(h, .inr (8, [.ref w])), (w, .inl (cL, 301, .inr (.inl (fL (upT opW num f)))))])) 0 0 (va_A [(h, .inr (8, [.ref w])), (w, .inl (cL, 301, .inr (.inl (fL f))))] sz) := by
  refine su_met (Qf := fun A => su_qv D A (fun (uu : Unit) => True) (fun (uu : Unit) => [(h, .inr (8, [.ref w])), (w, .inl (cL, 301, .inr (.inl (fL (upT opW num f)))))])) (cc := cX7_take) (maxL := 4) (ret := none) (by decide) (Nat.le_of_ble_eq_true rfl) ?_
  intro p e s m args below meth c R Q A H locs ls hx hb hr hlocks hin hml hown hts hN hP hK hD hA hS hRm hQ hl
  have hown : s.vm.findClass RX7 = some m.cls := hown
  have hl : lv_has ls 4 [(0, .ref h), (1, .int (nI num)), (2, .int (bI true))] := hl
  have hR1 : 2 ≤ R.frames := by rw [hRm]; exact Nat.le_of_ble_eq_true rfl
  have hR2 : 60 ≤ R.locals := by rw [hRm]; exact Nat.le_of_ble_eq_true rfl
  have hR3 : 0 ≤ R.cells := by rw [hRm]; exact Nat.le_of_ble_eq_true rfl
  have hR4 : 0 ≤ R.slots := by rw [hRm]; exact Nat.le_of_ble_eq_true rfl
  refine lv_iload_n hx hb dX7_take_0 rfl (lv_at hl 1 rfl) ?_
  refine lv_iconst (v := nI 1) hx hb dX7_take_1 (by decide) ?_
  refine lv_icmp_lt (tgt := 12) hx hb dX7_take_2 (by decide) (fun c2 => ?_) (fun c2 => ?_)
  · have c2 : num < 1 := su_lt (by omega) (by omega) c2
    omega
  · have c2 : 1 ≤ num := su_nlt (by omega) (by omega) c2
    refine lv_iload_n hx hb dX7_take_5 rfl (lv_at hl 1 rfl) ?_
    refine lv_sipush (v := nI 300) hx hb dX7_take_6 (by decide) ?_
    refine lv_icmp_le (tgt := 13) hx hb dX7_take_9 (by decide) (fun c9 => ?_) (fun c9 => ?_)
    · have c9 : num ≤ 300 := su_ge (by omega) (by omega) c9
      refine lv_iload_n hx hb dX7_take_13 rfl (lv_at hl 2 rfl) ?_
      refine lv_if_eq (tgt := 43) hx hb dX7_take_14 (by decide) (fun c14 => ?_) (fun c14 => ?_)
      · have c14 : true = false := bI_e c14
        exact absurd c14 (by decide)
      · have c14 : true = true := bI_n c14
        refine lv_iload_n hx hb dX7_take_17 rfl (lv_at hl 1 rfl) ?_
        refine lv_istore_n (lv' := [(3, .int (nI num)), (0, .ref h), (1, .int (nI num)), (2, .int (bI true))]) hx hb dX7_take_18 rfl hl (by decide) rfl (fun ls hl => ?_)
        have loop19 : ∀ (k19 : Nat) (t : Nat), (num ≤ t) → (t ≤ 301) → 301 - t < k19 → ∀ (H : Heap) (locs : List Loc), va_P D vwCl [(h, .inr (8, [.ref w])), (w, .inl (cL, 301, .inr (.inl (fL (upP opW num f t)))))] H → va_D A [(h, .inr (8, [.ref w])), (w, .inl (cL, 301, .inr (.inl (fL (upP opW num f t)))))] → va_S A s.heap H locs → ∀ ls : Array Slot, lv_has ls 4 [(3, .int (nI t)), (0, .ref h), (1, .int (nI num)), (2, .int (bI true))] → W p l e R s m args below meth c H locs 0 0 Q (F0 m 19 ls []) := by
          intro k19
          induction k19 with
          | zero => intro t ht ht2 hk; exact absurd hk (Nat.not_lt_zero _)
          | succ k19 ih19 =>
            intro t ht ht2 hk19 H locs hP hD hS ls hl
            refine lv_iload_n hx hb dX7_take_19 rfl (lv_at hl 0 rfl) ?_
            refine lv_sipush (v := nI 300) hx hb dX7_take_20 (by decide) ?_
            refine lv_icmp_gt (tgt := 40) hx hb dX7_take_23 (by decide) (fun c23 => ?_) (fun c23 => ?_)
            · have c23 : 300 < t := su_lt (by omega) (by omega) c23
              refine lv_goto (tgt := 66) hx hb dX7_take_40 (by decide) ?_
              obtain ⟨hP, hD⟩ := su_reL (q0 := 1) (fL (upT opW num f)) hP hD rfl (fun j _ => by rw [upT, show 301 = t by omega])
              have hP : va_P D vwCl [(h, .inr (8, [.ref w])), (w, .inl (cL, 301, .inr (.inl (fL (upT opW num f)))))] H := hP
              have hD : va_D A [(h, .inr (8, [.ref w])), (w, .inl (cL, 301, .inr (.inl (fL (upT opW num f)))))] := hD
              rw [hQ]
              exact su_ev hx hb hr hlocks hS dX7_take_66 () (trivial) hP hD
            · have c23 : t ≤ 300 := su_nlt (by omega) (by omega) c23
              refine lv_aload_n hx hb dX7_take_26 rfl (lv_at hl 1 rfl) ?_
              refine lv_iload_n hx hb dX7_take_27 rfl (lv_at hl 0 rfl) ?_
              refine lv_iload_n hx hb dX7_take_28 rfl (lv_at hl 2 rfl) ?_
              refine lv_isub hx hb dX7_take_29 ?_
              refine su_eqi (nI (t - num)) (pk_sub (by omega)) ?_
              refine lv_iload_n hx hb dX7_take_30 rfl (lv_at hl 0 rfl) ?_
              refine su_cv (wr := []) (va_runU (As := [.int (nI (t - num)), .int (nI t)]) (rest := []) ⟨hx, hb, hml, hown, hts⟩ (k_carryW l D cI cL cZ H.size (h) (w) (upP opW num f t) (t - num) (t) (by omega) (by omega)) (va_cwA 2 hts (lw_gU q_290 q_292 q_313 q_314 q_36 q_315) rfl rfl rfl (hN _ q_291) (by decide +kernel) ⟨Nat.le_trans (Nat.le_of_ble_eq_true rfl) hR1, Nat.le_trans (Nat.le_of_ble_eq_true rfl) hR2⟩) (su_pv hN hK hP hD [0, 1] [0, 1, 2] rfl rfl rfl (ci := 8) (q0 := 0) rfl rfl rfl) rfl rfl hl.1 rfl (lv_room (Nat.le_of_ble_eq_true rfl)) dX7_take_31 ⟨Nat.le_trans (Nat.le_of_ble_eq_true rfl) hR3, Nat.le_trans (Nat.le_of_ble_eq_true rfl) hR4⟩) hP hD hS hA [0, 1] [] rfl rfl (by decide) (by decide) (fun uu H locs hw hP hD hS => ?_)
              have hP : va_P D vwCl [(h, .inr (8, [.ref w])), (w, .inl (cL, 301, .inr (.inl (fL (va_up (upP opW num f t) t ((upP opW num f t) t + (upP opW num f t) (t - num)))))))] H := hP
              have hD : va_D A [(h, .inr (8, [.ref w])), (w, .inl (cL, 301, .inr (.inl (fL (va_up (upP opW num f t) t ((upP opW num f t) t + (upP opW num f t) (t - num)))))))] := hD
              refine lv_iinc (v := nI (t + 1)) (lv' := [(3, .int (nI (t + 1))), (0, .ref h), (1, .int (nI num)), (2, .int (bI true))]) hx hb dX7_take_34 hl (k := 0) rfl (su_inc _) (by decide) rfl (fun ls hl => ?_)
              refine lv_goto (tgt := 19) hx hb dX7_take_37 (by decide) ?_
              obtain ⟨hP, hD⟩ := su_reL (q0 := 1) (fL (upP opW num f (t + 1))) hP hD rfl (fun j _ => by rw [← upP_S ht]; try rfl)
              have hP : va_P D vwCl [(h, .inr (8, [.ref w])), (w, .inl (cL, 301, .inr (.inl (fL (upP opW num f (t + 1))))))] H := hP
              have hD : va_D A [(h, .inr (8, [.ref w])), (w, .inl (cL, 301, .inr (.inl (fL (upP opW num f (t + 1))))))] := hD
              exact ih19 (t + 1) (by omega) (by omega) (by omega) _ _ hP hD hS _ (lv_sub hl [0, 1, 2, 3] rfl)
        obtain ⟨hP, hD⟩ := su_reL (q0 := 1) (fL (upP opW num f (num))) hP hD rfl (fun j _ => by rw [upP_lo (Nat.le_refl _)])
        have hP : va_P D vwCl [(h, .inr (8, [.ref w])), (w, .inl (cL, 301, .inr (.inl (fL (upP opW num f (num))))))] H := hP
        have hD : va_D A [(h, .inr (8, [.ref w])), (w, .inl (cL, 301, .inr (.inl (fL (upP opW num f (num))))))] := hD
        exact loop19 ((301 - (num)) + 1) (num) (by omega) (by omega) (by omega) _ _ hP hD hS _ (lv_sub hl [0, 1, 2, 3] rfl)
    · have c9 : 300 < num := su_nge (by omega) (by omega) c9
      omega
set_option maxHeartbeats 4000000 in
set_option maxRecDepth 100000 in
theorem k_fillWU (l : Launch) (D : va_G) (cI cL cZ : ClassId) (sz : Nat) (h : Nat) (w : Nat) (fr : Nat → Int64) (h2 : Nat) (a2 : Nat) (g : Nat → Nat) (n : Nat) (hn : n ≤ 20) (hg : ∀ k, k < n → 1 ≤ g k ∧ g k ≤ 300) :
    Met l yX7_fill (ws_ yX7_fill cX7_fill 4 none) { frames := 3, cells := 0, slots := 0, locals := 90 } (su_pre D (su_T cI cL cZ) sz [(h, .inr (8, [.ref w])), (w, .inl (cL, 301, .inr (.inl fr))), (h2, .inr (3, [.ref a2, .int (nI n)])), (a2, .inl (cI, 20, .inl (fN g)))] [.ref h, .ref h2, .int (bI true)]) (su_qv D (va_A [(h, .inr (8, [.ref w])), (w, .inl (cL, 301, .inr (.inl fr))), (h2, .inr (3, [.ref a2, .int (nI n)])), (a2, .inl (cI, 20, .inl (fN g)))] sz) (fun (uu : Unit) => True) (fun (uu : Unit) => [(h, .inr (8, [.ref w])), (w, .inl (cL, 301, .inr (.inl (fL (fiU opW f0W g n))))), (h2, .inr (3, [.ref a2, .int (nI n)])), (a2, .inl (cI, 20, .inl (fN g)))])) 0 0 (va_A [(h, .inr (8, [.ref w])), (w, .inl (cL, 301, .inr (.inl fr))), (h2, .inr (3, [.ref a2, .int (nI n)])), (a2, .inl (cI, 20, .inl (fN g)))] sz) := by
  refine su_met (Qf := fun A => su_qv D A (fun (uu : Unit) => True) (fun (uu : Unit) => [(h, .inr (8, [.ref w])), (w, .inl (cL, 301, .inr (.inl (fL (fiU opW f0W g n))))), (h2, .inr (3, [.ref a2, .int (nI n)])), (a2, .inl (cI, 20, .inl (fN g)))])) (cc := cX7_fill) (maxL := 4) (ret := none) (by decide) (Nat.le_of_ble_eq_true rfl) ?_
  intro p e s m args below meth c R Q A H locs ls hx hb hr hlocks hin hml hown hts hN hP hK hD hA hS hRm hQ hl
  have hown : s.vm.findClass RX7 = some m.cls := hown
  have hl : lv_has ls 4 [(0, .ref h), (1, .ref h2), (2, .int (bI true))] := hl
  have hR1 : 3 ≤ R.frames := by rw [hRm]; exact Nat.le_of_ble_eq_true rfl
  have hR2 : 90 ≤ R.locals := by rw [hRm]; exact Nat.le_of_ble_eq_true rfl
  have hR3 : 0 ≤ R.cells := by rw [hRm]; exact Nat.le_of_ble_eq_true rfl
  have hR4 : 0 ≤ R.slots := by rw [hRm]; exact Nat.le_of_ble_eq_true rfl
  have k_73 := va_Nw.use (A := args) rfl (hN _ q_73)
  refine lv_aload_n hx hb dX7_fill_0 rfl (lv_at hl 0 rfl) ?_
  refine su_cv (wr := [(h2, .inr (3, [.ref a2, .int (nI n)])), (a2, .inl (cI, 20, .inl (fN g)))]) (va_runU (As := []) (rest := []) ⟨hx, hb, hml, hown, hts⟩ (k_beginW l D cI cL cZ H.size (h) (w) (fr) ) (va_cwA 0 hts (lw_gU q_263 q_265 q_275 q_276 q_36 q_277) rfl rfl rfl (hN _ q_264) (by decide +kernel) ⟨Nat.le_trans (Nat.le_of_ble_eq_true rfl) hR1, Nat.le_trans (Nat.le_of_ble_eq_true rfl) hR2⟩) (su_pv hN hK hP hD [0, 1] [0, 1, 2] rfl rfl rfl (ci := 8) (q0 := 0) rfl rfl rfl) rfl rfl hl.1 rfl (lv_room (Nat.le_of_ble_eq_true rfl)) dX7_fill_1 ⟨Nat.le_trans (Nat.le_of_ble_eq_true rfl) hR3, Nat.le_trans (Nat.le_of_ble_eq_true rfl) hR4⟩) hP hD hS hA [0, 1] [2, 3] rfl rfl (by decide) (by decide) (fun uu H locs hw hP hD hS => ?_)
  have hP : va_P D vwCl [(h2, .inr (3, [.ref a2, .int (nI n)])), (a2, .inl (cI, 20, .inl (fN g))), (h, .inr (8, [.ref w])), (w, .inl (cL, 301, .inr (.inl (fL f0W))))] H := hP
  have hD : va_D A [(h2, .inr (3, [.ref a2, .int (nI n)])), (a2, .inl (cI, 20, .inl (fN g))), (h, .inr (8, [.ref w])), (w, .inl (cL, 301, .inr (.inl (fL f0W))))] := hD
  refine lv_iconst (v := nI 0) hx hb dX7_fill_4 (by decide) ?_
  refine lv_istore_n (lv' := [(3, .int (nI 0)), (0, .ref h), (1, .ref h2), (2, .int (bI true))]) hx hb dX7_fill_5 rfl hl (by decide) rfl (fun ls hl => ?_)
  have loop6 : ∀ (k6 : Nat) (i : Nat), (i ≤ n) → n - i < k6 → ∀ (H : Heap) (locs : List Loc), va_P D vwCl [(h2, .inr (3, [.ref a2, .int (nI n)])), (a2, .inl (cI, 20, .inl (fN g))), (h, .inr (8, [.ref w])), (w, .inl (cL, 301, .inr (.inl (fL (fiU opW f0W g i)))))] H → va_D A [(h2, .inr (3, [.ref a2, .int (nI n)])), (a2, .inl (cI, 20, .inl (fN g))), (h, .inr (8, [.ref w])), (w, .inl (cL, 301, .inr (.inl (fL (fiU opW f0W g i)))))] → va_S A s.heap H locs → ∀ ls : Array Slot, lv_has ls 4 [(3, .int (nI i)), (0, .ref h), (1, .ref h2), (2, .int (bI true))] → W p l e R s m args below meth c H locs 0 0 Q (F0 m 6 ls []) := by
    intro k6
    induction k6 with
    | zero => intro i hi hk; exact absurd hk (Nat.not_lt_zero _)
    | succ k6 ih6 =>
      intro i hi hk6 H locs hP hD hS ls hl
      refine lv_iload_n hx hb dX7_fill_6 rfl (lv_at hl 0 rfl) ?_
      refine lv_aload_n hx hb dX7_fill_7 rfl (lv_at hl 2 rfl) ?_
      refine va_getN (D := D) (ci := 3) (v := .int (nI n)) (C := RX3) (T := TX3) (N := 2) hx hb hts in_X3 hown hK hP 0 rfl rfl 1 (by decide) k_73 (fun _ h9 => h9) rfl dX7_fill_8 ?_
      refine lv_icmp_ge (tgt := 30) hx hb dX7_fill_11 (by decide) (fun c11 => ?_) (fun c11 => ?_)
      · have c11 : n ≤ i := su_ge (by omega) (by omega) c11
        obtain ⟨hP, hD⟩ := su_reL (q0 := 3) (fL (fiU opW f0W g n)) hP hD rfl (fun j _ => by rw [show n = i by omega])
        have hP : va_P D vwCl [(h2, .inr (3, [.ref a2, .int (nI n)])), (a2, .inl (cI, 20, .inl (fN g))), (h, .inr (8, [.ref w])), (w, .inl (cL, 301, .inr (.inl (fL (fiU opW f0W g n)))))] H := hP
        have hD : va_D A [(h2, .inr (3, [.ref a2, .int (nI n)])), (a2, .inl (cI, 20, .inl (fN g))), (h, .inr (8, [.ref w])), (w, .inl (cL, 301, .inr (.inl (fL (fiU opW f0W g n)))))] := hD
        rw [hQ]
        exact su_ev hx hb hr hlocks hS dX7_fill_30 () (trivial) (hP.sub [2, 3, 0, 1] rfl) (hD.sub [2, 3, 0, 1] (by decide) rfl)
      · have c11 : i < n := su_nge (by omega) (by omega) c11
        refine lv_aload_n hx hb dX7_fill_14 rfl (lv_at hl 1 rfl) ?_
        refine lv_aload_n hx hb dX7_fill_15 rfl (lv_at hl 2 rfl) ?_
        refine lv_iload_n hx hb dX7_fill_16 rfl (lv_at hl 0 rfl) ?_
        refine su_ci (wr := [(h, .inr (8, [.ref w])), (w, .inl (cL, 301, .inr (.inl (fL (fiU opW f0W g i)))))]) (va_runV (As := [.int (nI i)]) (rest := [.ref h]) ⟨hx, hb, hml, hown, hts⟩ (k_numberAt l D cI cL cZ H.size (h2) (a2) (g) (n) (i) (hn) (c11)) (cwV 1 hts (lw_gV q_278 q_279 q_280 q_32 q_281) rfl rfl rfl (by decide +kernel) ⟨Nat.le_trans (Nat.le_of_ble_eq_true rfl) hR1, Nat.le_trans (Nat.le_of_ble_eq_true rfl) hR2⟩) (su_pv hN hK hP hD [0, 1] [0, 1, 2] rfl rfl rfl (ci := 3) (q0 := 0) rfl rfl rfl) rfl rfl hl.1 rfl (lv_room (Nat.le_of_ble_eq_true rfl)) dX7_fill_17 ⟨Nat.le_trans (Nat.le_of_ble_eq_true rfl) hR3, Nat.le_trans (Nat.le_of_ble_eq_true rfl) hR4⟩) hP hD hS hA [0, 1] [2, 3] rfl rfl (by decide) (by decide) (fun r uu H locs hw hP hD hS => ?_)
        obtain rfl : r = nI (g i) := hw
        have hP : va_P D vwCl [(h, .inr (8, [.ref w])), (w, .inl (cL, 301, .inr (.inl (fL (fiU opW f0W g i))))), (h2, .inr (3, [.ref a2, .int (nI n)])), (a2, .inl (cI, 20, .inl (fN g)))] H := hP
        have hD : va_D A [(h, .inr (8, [.ref w])), (w, .inl (cL, 301, .inr (.inl (fL (fiU opW f0W g i))))), (h2, .inr (3, [.ref a2, .int (nI n)])), (a2, .inl (cI, 20, .inl (fN g)))] := hD
        refine lv_iload_n hx hb dX7_fill_20 rfl (lv_at hl 3 rfl) ?_
        refine su_cv (wr := [(h2, .inr (3, [.ref a2, .int (nI n)])), (a2, .inl (cI, 20, .inl (fN g)))]) (va_runU (As := [.int (nI (g i)), .int (bI true)]) (rest := []) ⟨hx, hb, hml, hown, hts⟩ (k_takeWU l D cI cL cZ H.size (h) (w) (fiU opW f0W g i) (g i) ((hg i c11).1) ((hg i c11).2)) (va_cwU 2 hts (lw_gU q_286 q_1238 q_s9 q_288 q_35 q_289) rfl rfl rfl rfl (by decide +kernel) ⟨Nat.le_trans (Nat.le_of_ble_eq_true rfl) hR1, Nat.le_trans (Nat.le_of_ble_eq_true rfl) hR2⟩) (su_pv hN hK hP hD [0, 1] [0, 1, 2] rfl rfl rfl (ci := 8) (q0 := 0) rfl rfl rfl) rfl rfl hl.1 rfl (lv_room (Nat.le_of_ble_eq_true rfl)) dX7_fill_21 ⟨Nat.le_trans (Nat.le_of_ble_eq_true rfl) hR3, Nat.le_trans (Nat.le_of_ble_eq_true rfl) hR4⟩) hP hD hS hA [0, 1] [2, 3] rfl rfl (by decide) (by decide) (fun uu H locs hw hP hD hS => ?_)
        have hP : va_P D vwCl [(h2, .inr (3, [.ref a2, .int (nI n)])), (a2, .inl (cI, 20, .inl (fN g))), (h, .inr (8, [.ref w])), (w, .inl (cL, 301, .inr (.inl (fL (upT opW (g i) (fiU opW f0W g i))))))] H := hP
        have hD : va_D A [(h2, .inr (3, [.ref a2, .int (nI n)])), (a2, .inl (cI, 20, .inl (fN g))), (h, .inr (8, [.ref w])), (w, .inl (cL, 301, .inr (.inl (fL (upT opW (g i) (fiU opW f0W g i))))))] := hD
        refine lv_iinc (v := nI (i + 1)) (lv' := [(3, .int (nI (i + 1))), (0, .ref h), (1, .ref h2), (2, .int (bI true))]) hx hb dX7_fill_24 hl (k := 0) rfl (su_inc _) (by decide) rfl (fun ls hl => ?_)
        refine lv_goto (tgt := 6) hx hb dX7_fill_27 (by decide) ?_
        exact ih6 (i + 1) (by omega) (by omega) _ _ hP hD hS _ (lv_sub hl [0, 1, 2, 3] rfl)
  exact loop6 ((n - (0)) + 1) (0) (by omega) (by omega) _ _ hP hD hS _ (lv_sub hl [0, 1, 2, 3] rfl)
set_option maxHeartbeats 4000000 in
set_option maxRecDepth 100000 in
theorem k_beginF (l : Launch) (D : va_G) (cI cL cZ : ClassId) (sz : Nat) (h : Nat) (w : Nat) (fr : Nat → Int32) :
    Met l yX2_begin (ws_ yX2_begin cX2_begin 2 none) { frames := 0, cells := 0, slots := 0, locals := 0 } (su_pre D (su_T cI cL cZ) sz [(h, .inr (2, [.ref w])), (w, .inl (cI, 301, .inl fr))] [.ref h]) (su_qv D (va_A [(h, .inr (2, [.ref w])), (w, .inl (cI, 301, .inl fr))] sz) (fun (uu : Unit) => True) (fun (uu : Unit) => [(h, .inr (2, [.ref w])), (w, .inl (cI, 301, .inl (fN f0F)))])) 0 0 (va_A [(h, .inr (2, [.ref w])), (w, .inl (cI, 301, .inl fr))] sz) := by
  refine su_met (Qf := fun A => su_qv D A (fun (uu : Unit) => True) (fun (uu : Unit) => [(h, .inr (2, [.ref w])), (w, .inl (cI, 301, .inl (fN f0F)))])) (cc := cX2_begin) (maxL := 2) (ret := none) (by decide) (Nat.le_of_ble_eq_true rfl) ?_
  intro p e s m args below meth c R Q A H locs ls hx hb hr hlocks hin hml hown hts hN hP hK hD hA hS hRm hQ hl
  have hown : s.vm.findClass RX2 = some m.cls := hown
  have hl : lv_has ls 2 [(0, .ref h)] := hl
  have hR3 : 0 ≤ R.cells := by rw [hRm]; exact Nat.le_of_ble_eq_true rfl
  have hR4 : 0 ≤ R.slots := by rw [hRm]; exact Nat.le_of_ble_eq_true rfl
  have k_133 := hts _ q_133
  refine lv_iconst (v := nI 0) hx hb dX2_begin_0 (by decide) ?_
  refine lv_istore_n (lv' := [(1, .int (nI 0)), (0, .ref h)]) hx hb dX2_begin_1 rfl hl (by decide) rfl (fun ls hl => ?_)
  have loop2 : ∀ (k2 : Nat) (i : Nat), (i ≤ 301) → 301 - i < k2 → ∀ (H : Heap) (locs : List Loc), va_P D vwCl [(h, .inr (2, [.ref w])), (w, .inl (cI, 301, .inl (su_fl (fN f0F) fr i)))] H → va_D A [(h, .inr (2, [.ref w])), (w, .inl (cI, 301, .inl (su_fl (fN f0F) fr i)))] → va_S A s.heap H locs → ∀ ls : Array Slot, lv_has ls 2 [(1, .int (nI i)), (0, .ref h)] → W p l e R s m args below meth c H locs 0 0 Q (F0 m 2 ls []) := by
    intro k2
    induction k2 with
    | zero => intro i hi hk; exact absurd hk (Nat.not_lt_zero _)
    | succ k2 ih2 =>
      intro i hi hk2 H locs hP hD hS ls hl
      refine lv_iload_n hx hb dX2_begin_2 rfl (lv_at hl 0 rfl) ?_
      refine lv_sipush (v := nI 300) hx hb dX2_begin_3 (by decide) ?_
      refine lv_icmp_gt (tgt := 32) hx hb dX2_begin_6 (by decide) (fun c6 => ?_) (fun c6 => ?_)
      · have c6 : 300 < i := su_lt (by omega) (by omega) c6
        obtain ⟨hP, hD⟩ := su_reI (q0 := 1) (fN f0F) hP hD rfl (fun j hj => su_flN (by omega))
        have hP : va_P D vwCl [(h, .inr (2, [.ref w])), (w, .inl (cI, 301, .inl (fN f0F)))] H := hP
        have hD : va_D A [(h, .inr (2, [.ref w])), (w, .inl (cI, 301, .inl (fN f0F)))] := hD
        rw [hQ]
        exact su_ev hx hb hr hlocks hS dX2_begin_32 () (trivial) hP hD
      · have c6 : i ≤ 300 := su_nlt (by omega) (by omega) c6
        refine lv_aload_n hx hb dX2_begin_9 rfl (lv_at hl 1 rfl) ?_
        refine va_get (D := D) (ci := 2) (v := .ref w) (C := RX2) (T := TX2) (N := 1) hx hb hts in_X2 hown hK hP 0 rfl rfl 0 (by decide) k_133 (fun _ h9 => h9) rfl dX2_begin_10 ?_
        refine lv_iload_n hx hb dX2_begin_13 rfl (lv_at hl 0 rfl) ?_
        refine lv_iload_n hx hb dX2_begin_14 rfl (lv_at hl 0 rfl) ?_
        refine lv_if_ne (tgt := 22) hx hb dX2_begin_15 (by decide) (fun c15 => ?_) (fun c15 => ?_)
        · have c15 : i ≠ 0 := su_nz c15
          refine lv_sipush (v := nI 301) hx hb dX2_begin_22 (by decide) ?_
          refine su_iast hx hb hK hP hD hS 1 0 rfl rfl (i := i) (by omega) (by decide) (va_up (su_fl (fN f0F) fr i) i (nI 301)) (fun _ _ => rfl) dX2_begin_25 (fun H locs hP hD hS => ?_)
          have hP : va_P D vwCl [(h, .inr (2, [.ref w])), (w, .inl (cI, 301, .inl (va_up (su_fl (fN f0F) fr i) i (nI 301))))] H := hP
          have hD : va_D A [(h, .inr (2, [.ref w])), (w, .inl (cI, 301, .inl (va_up (su_fl (fN f0F) fr i) i (nI 301))))] := hD
          refine lv_iinc (v := nI (i + 1)) (lv' := [(1, .int (nI (i + 1))), (0, .ref h)]) hx hb dX2_begin_26 hl (k := 0) rfl (su_inc _) (by decide) rfl (fun ls hl => ?_)
          refine lv_goto (tgt := 2) hx hb dX2_begin_29 (by decide) ?_
          obtain ⟨hP, hD⟩ := su_reI (q0 := 1) (su_fl (fN f0F) fr (i + 1)) hP hD rfl (fun j _ => su_flS (by first | exact be_F1 c15 | exact be_F0 c15) j)
          have hP : va_P D vwCl [(h, .inr (2, [.ref w])), (w, .inl (cI, 301, .inl (su_fl (fN f0F) fr (i + 1))))] H := hP
          have hD : va_D A [(h, .inr (2, [.ref w])), (w, .inl (cI, 301, .inl (su_fl (fN f0F) fr (i + 1))))] := hD
          exact ih2 (i + 1) (by omega) (by omega) _ _ hP hD hS _ (lv_sub hl [0, 1] rfl)
        · have c15 : i = 0 := su_z (by omega) c15
          refine lv_iconst (v := nI 0) hx hb dX2_begin_18 (by decide) ?_
          refine lv_goto (tgt := 25) hx hb dX2_begin_19 (by decide) ?_
          refine su_iast hx hb hK hP hD hS 1 0 rfl rfl (i := i) (by omega) (by decide) (va_up (su_fl (fN f0F) fr i) i (nI 0)) (fun _ _ => rfl) dX2_begin_25 (fun H locs hP hD hS => ?_)
          have hP : va_P D vwCl [(h, .inr (2, [.ref w])), (w, .inl (cI, 301, .inl (va_up (su_fl (fN f0F) fr i) i (nI 0))))] H := hP
          have hD : va_D A [(h, .inr (2, [.ref w])), (w, .inl (cI, 301, .inl (va_up (su_fl (fN f0F) fr i) i (nI 0))))] := hD
          refine lv_iinc (v := nI (i + 1)) (lv' := [(1, .int (nI (i + 1))), (0, .ref h)]) hx hb dX2_begin_26 hl (k := 0) rfl (su_inc _) (by decide) rfl (fun ls hl => ?_)
          refine lv_goto (tgt := 2) hx hb dX2_begin_29 (by decide) ?_
          obtain ⟨hP, hD⟩ := su_reI (q0 := 1) (su_fl (fN f0F) fr (i + 1)) hP hD rfl (fun j _ => su_flS (by first | exact be_F1 c15 | exact be_F0 c15) j)
          have hP : va_P D vwCl [(h, .inr (2, [.ref w])), (w, .inl (cI, 301, .inl (su_fl (fN f0F) fr (i + 1))))] H := hP
          have hD : va_D A [(h, .inr (2, [.ref w])), (w, .inl (cI, 301, .inl (su_fl (fN f0F) fr (i + 1))))] := hD
          exact ih2 (i + 1) (by omega) (by omega) _ _ hP hD hS _ (lv_sub hl [0, 1] rfl)
  obtain ⟨hP, hD⟩ := su_reI (q0 := 1) (su_fl (fN f0F) fr (0)) hP hD rfl (fun j _ => su_fl0 j)
  have hP : va_P D vwCl [(h, .inr (2, [.ref w])), (w, .inl (cI, 301, .inl (su_fl (fN f0F) fr (0))))] H := hP
  have hD : va_D A [(h, .inr (2, [.ref w])), (w, .inl (cI, 301, .inl (su_fl (fN f0F) fr (0))))] := hD
  exact loop2 ((301 - (0)) + 1) (0) (by omega) (by omega) _ _ hP hD hS _ (lv_sub hl [0, 1] rfl)
set_option maxHeartbeats 4000000 in
set_option maxRecDepth 100000 in
theorem k_carryF (l : Launch) (D : va_G) (cI cL cZ : ClassId) (sz : Nat) (h : Nat) (w : Nat) (f : Nat → Nat) (u : Nat) (v : Nat) (hu : u ≤ 300) (hv : v ≤ 300) (hf : leF f) :
    Met l yX2_carry (ws_ yX2_carry cX2_carry 3 none) { frames := 1, cells := 0, slots := 0, locals := 30 } (su_pre D (su_T cI cL cZ) sz [(h, .inr (2, [.ref w])), (w, .inl (cI, 301, .inl (fN f)))] [.ref h, .int (nI u), .int (nI v)]) (su_qv D (va_A [(h, .inr (2, [.ref w])), (w, .inl (cI, 301, .inl (fN f)))] sz) (fun (uu : Unit) => True) (fun (uu : Unit) => [(h, .inr (2, [.ref w])), (w, .inl (cI, 301, .inl (fN (va_up f v (opF (f v) (f u))))))])) 0 0 (va_A [(h, .inr (2, [.ref w])), (w, .inl (cI, 301, .inl (fN f)))] sz) := by
  refine su_met (Qf := fun A => su_qv D A (fun (uu : Unit) => True) (fun (uu : Unit) => [(h, .inr (2, [.ref w])), (w, .inl (cI, 301, .inl (fN (va_up f v (opF (f v) (f u))))))])) (cc := cX2_carry) (maxL := 3) (ret := none) (by decide) (Nat.le_of_ble_eq_true rfl) ?_
  intro p e s m args below meth c R Q A H locs ls hx hb hr hlocks hin hml hown hts hN hP hK hD hA hS hRm hQ hl
  have hown : s.vm.findClass RX2 = some m.cls := hown
  have hl : lv_has ls 3 [(0, .ref h), (1, .int (nI u)), (2, .int (nI v))] := hl
  have hR1 : 1 ≤ R.frames := by rw [hRm]; exact Nat.le_of_ble_eq_true rfl
  have hR2 : 30 ≤ R.locals := by rw [hRm]; exact Nat.le_of_ble_eq_true rfl
  have hR3 : 0 ≤ R.cells := by rw [hRm]; exact Nat.le_of_ble_eq_true rfl
  have hR4 : 0 ≤ R.slots := by rw [hRm]; exact Nat.le_of_ble_eq_true rfl
  have k_133 := hts _ q_133
  have k_300 := hts _ q_300
  have k_301 := hts _ q_301
  have k_51 := hts _ q_51
  have k_302 := hts _ q_302
  refine lv_iload_n hx hb dX2_carry_0 rfl (lv_at hl 1 rfl) ?_
  refine su_ci (wr := [(h, .inr (2, [.ref w])), (w, .inl (cI, 301, .inl (fN f)))]) (su_runSI (As := [.int (nI u)]) (rest := []) ⟨hx, hb, hml, hown, hts⟩ (k_isCell l D cI cL cZ H.size (u) (hu)) (hts _ q_296) (hts _ q_297) (hts _ q_298) (hts _ q_35) (hts _ q_299) (lw_gC q_299) rfl rfl rfl 1 rfl (by decide +kernel) ⟨Nat.le_trans (Nat.le_of_ble_eq_true rfl) hR1, Nat.le_trans (Nat.le_of_ble_eq_true rfl) hR2⟩ (su_ps hN hK hP hD [] [0, 1, 2] rfl rfl rfl) rfl rfl hl.1 rfl (lv_room (Nat.le_of_ble_eq_true rfl)) dX2_carry_1 ⟨Nat.le_trans (Nat.le_of_ble_eq_true rfl) hR3, Nat.le_trans (Nat.le_of_ble_eq_true rfl) hR4⟩) hP hD hS hA [] [0, 1] rfl rfl (by decide) (by decide) (fun r uu H locs hw hP hD hS => ?_)
  obtain rfl : r = bI true := hw
  have hP : va_P D vwCl [(h, .inr (2, [.ref w])), (w, .inl (cI, 301, .inl (fN f)))] H := hP
  have hD : va_D A [(h, .inr (2, [.ref w])), (w, .inl (cI, 301, .inl (fN f)))] := hD
  refine lv_if_eq (tgt := 37) hx hb dX2_carry_4 (by decide) (fun c4 => ?_) (fun c4 => ?_)
  · have c4 : true = false := bI_e c4
    exact absurd c4 (by decide)
  · have c4 : true = true := bI_n c4
    refine lv_iload_n hx hb dX2_carry_7 rfl (lv_at hl 2 rfl) ?_
    refine su_ci (wr := [(h, .inr (2, [.ref w])), (w, .inl (cI, 301, .inl (fN f)))]) (su_runSI (As := [.int (nI v)]) (rest := []) ⟨hx, hb, hml, hown, hts⟩ (k_isCell l D cI cL cZ H.size (v) (hv)) (hts _ q_296) (hts _ q_297) (hts _ q_298) (hts _ q_35) (hts _ q_299) (lw_gC q_299) rfl rfl rfl 1 rfl (by decide +kernel) ⟨Nat.le_trans (Nat.le_of_ble_eq_true rfl) hR1, Nat.le_trans (Nat.le_of_ble_eq_true rfl) hR2⟩ (su_ps hN hK hP hD [] [0, 1, 2] rfl rfl rfl) rfl rfl hl.1 rfl (lv_room (Nat.le_of_ble_eq_true rfl)) dX2_carry_8 ⟨Nat.le_trans (Nat.le_of_ble_eq_true rfl) hR3, Nat.le_trans (Nat.le_of_ble_eq_true rfl) hR4⟩) hP hD hS hA [] [0, 1] rfl rfl (by decide) (by decide) (fun r uu H locs hw hP hD hS => ?_)
    obtain rfl : r = bI true := hw
    have hP : va_P D vwCl [(h, .inr (2, [.ref w])), (w, .inl (cI, 301, .inl (fN f)))] H := hP
    have hD : va_D A [(h, .inr (2, [.ref w])), (w, .inl (cI, 301, .inl (fN f)))] := hD
    refine lv_if_eq (tgt := 37) hx hb dX2_carry_11 (by decide) (fun c11 => ?_) (fun c11 => ?_)
    · have c11 : true = false := bI_e c11
      exact absurd c11 (by decide)
    · have c11 : true = true := bI_n c11
      refine lv_aload_n hx hb dX2_carry_14 rfl (lv_at hl 0 rfl) ?_
      refine va_get (D := D) (ci := 2) (v := .ref w) (C := RX2) (T := TX2) (N := 1) hx hb hts in_X2 hown hK hP 0 rfl rfl 0 (by decide) k_133 (fun _ h9 => h9) rfl dX2_carry_15 ?_
      refine lv_iload_n hx hb dX2_carry_18 rfl (lv_at hl 2 rfl) ?_
      refine lv_aload_n hx hb dX2_carry_19 rfl (lv_at hl 0 rfl) ?_
      refine va_get (D := D) (ci := 2) (v := .ref w) (C := RX2) (T := TX2) (N := 1) hx hb hts in_X2 hown hK hP 0 rfl rfl 0 (by decide) k_133 (fun _ h9 => h9) rfl dX2_carry_20 ?_
      refine lv_iload_n hx hb dX2_carry_23 rfl (lv_at hl 2 rfl) ?_
      refine su_iald hx hb hK hP 1 0 rfl rfl (i := v) (by omega) (by decide) (nI (f v)) (rfl) dX2_carry_24 ?_
      refine lv_aload_n hx hb dX2_carry_25 rfl (lv_at hl 0 rfl) ?_
      refine va_get (D := D) (ci := 2) (v := .ref w) (C := RX2) (T := TX2) (N := 1) hx hb hts in_X2 hown hK hP 0 rfl rfl 0 (by decide) k_133 (fun _ h9 => h9) rfl dX2_carry_26 ?_
      refine lv_iload_n hx hb dX2_carry_29 rfl (lv_at hl 1 rfl) ?_
      refine su_iald hx hb hK hP 1 0 rfl rfl (i := u) (by omega) (by decide) (nI (f u)) (rfl) dX2_carry_30 ?_
      refine lv_iconst (v := nI 1) hx hb dX2_carry_31 (by decide) ?_
      refine lv_iadd hx hb dX2_carry_32 ?_
      refine su_eqi (nI (f u + 1)) (nI_add _ _) ?_
      refine va_mmin hx hb (by rw [hml]; exact hl.1.symm) hown k_300 k_301 k_51 k_302 (Nat.le_trans (Nat.le_of_ble_eq_true rfl) hR1) (Nat.le_trans (Nat.le_of_ble_eq_true rfl) hR2) (Nat.zero_le _) (Nat.zero_le _) dX2_carry_33 ?_
      refine su_eqi (nI (opF (f v) (f u))) (su_min (hf v) (hf u)) ?_
      refine su_iast hx hb hK hP hD hS 1 0 rfl rfl (i := v) (by omega) (by decide) (fN (va_up f v (opF (f v) (f u)))) (fun j _ => su_upN _ _ _ j) dX2_carry_36 (fun H locs hP hD hS => ?_)
      have hP : va_P D vwCl [(h, .inr (2, [.ref w])), (w, .inl (cI, 301, .inl (fN (va_up f v (opF (f v) (f u))))))] H := hP
      have hD : va_D A [(h, .inr (2, [.ref w])), (w, .inl (cI, 301, .inl (fN (va_up f v (opF (f v) (f u))))))] := hD
      rw [hQ]
      exact su_ev hx hb hr hlocks hS dX2_carry_37 () (trivial) hP hD
set_option maxHeartbeats 4000000 in
set_option maxRecDepth 100000 in
theorem k_takeFD (l : Launch) (D : va_G) (cI cL cZ : ClassId) (sz : Nat) (h : Nat) (w : Nat) (f : Nat → Nat) (num : Nat) (h1 : 1 ≤ num) (h3 : num ≤ 300) (hf : leF f) :
    Met l yX7_take (ws_ yX7_take cX7_take 4 none) { frames := 2, cells := 0, slots := 0, locals := 60 } (su_pre D (su_T cI cL cZ) sz [(h, .inr (2, [.ref w])), (w, .inl (cI, 301, .inl (fN f)))] [.ref h, .int (nI num), .int (bI false)]) (su_qv D (va_A [(h, .inr (2, [.ref w])), (w, .inl (cI, 301, .inl (fN f)))] sz) (fun (uu : Unit) => True) (fun (uu : Unit) => [(h, .inr (2, [.ref w])), (w, .inl (cI, 301, .inl (fN (dnT opF num f))))])) 0 0 (va_A [(h, .inr (2, [.ref w])), (w, .inl (cI, 301, .inl (fN f)))] sz) := by
  refine su_met (Qf := fun A => su_qv D A (fun (uu : Unit) => True) (fun (uu : Unit) => [(h, .inr (2, [.ref w])), (w, .inl (cI, 301, .inl (fN (dnT opF num f))))])) (cc := cX7_take) (maxL := 4) (ret := none) (by decide) (Nat.le_of_ble_eq_true rfl) ?_
  intro p e s m args below meth c R Q A H locs ls hx hb hr hlocks hin hml hown hts hN hP hK hD hA hS hRm hQ hl
  have hown : s.vm.findClass RX7 = some m.cls := hown
  have hl : lv_has ls 4 [(0, .ref h), (1, .int (nI num)), (2, .int (bI false))] := hl
  have hR1 : 2 ≤ R.frames := by rw [hRm]; exact Nat.le_of_ble_eq_true rfl
  have hR2 : 60 ≤ R.locals := by rw [hRm]; exact Nat.le_of_ble_eq_true rfl
  have hR3 : 0 ≤ R.cells := by rw [hRm]; exact Nat.le_of_ble_eq_true rfl
  have hR4 : 0 ≤ R.slots := by rw [hRm]; exact Nat.le_of_ble_eq_true rfl
  refine lv_iload_n hx hb dX7_take_0 rfl (lv_at hl 1 rfl) ?_
  refine lv_iconst (v := nI 1) hx hb dX7_take_1 (by decide) ?_
  refine lv_icmp_lt (tgt := 12) hx hb dX7_take_2 (by decide) (fun c2 => ?_) (fun c2 => ?_)
  · have c2 : num < 1 := su_lt (by omega) (by omega) c2
    omega
  · have c2 : 1 ≤ num := su_nlt (by omega) (by omega) c2
    refine lv_iload_n hx hb dX7_take_5 rfl (lv_at hl 1 rfl) ?_
    refine lv_sipush (v := nI 300) hx hb dX7_take_6 (by decide) ?_
    refine lv_icmp_le (tgt := 13) hx hb dX7_take_9 (by decide) (fun c9 => ?_) (fun c9 => ?_)
    · have c9 : num ≤ 300 := su_ge (by omega) (by omega) c9
      refine lv_iload_n hx hb dX7_take_13 rfl (lv_at hl 2 rfl) ?_
      refine lv_if_eq (tgt := 43) hx hb dX7_take_14 (by decide) (fun c14 => ?_) (fun c14 => ?_)
      · have c14 : false = false := bI_e c14
        refine lv_sipush (v := nI 300) hx hb dX7_take_43 (by decide) ?_
        refine lv_istore_n (lv' := [(3, .int (nI 300)), (0, .ref h), (1, .int (nI num)), (2, .int (bI false))]) hx hb dX7_take_46 rfl hl (by decide) rfl (fun ls hl => ?_)
        have loop47 : ∀ (k47 : Nat) (t : Nat), (t ≤ 300) → (num ≤ t + 1) → t < k47 → ∀ (H : Heap) (locs : List Loc), va_P D vwCl [(h, .inr (2, [.ref w])), (w, .inl (cI, 301, .inl (fN (dnP opF num f t))))] H → va_D A [(h, .inr (2, [.ref w])), (w, .inl (cI, 301, .inl (fN (dnP opF num f t))))] → va_S A s.heap H locs → ∀ ls : Array Slot, lv_has ls 4 [(3, .int (nI t)), (0, .ref h), (1, .int (nI num)), (2, .int (bI false))] → W p l e R s m args below meth c H locs 0 0 Q (F0 m 47 ls []) := by
          intro k47
          induction k47 with
          | zero => intro t ht ht2 hk; exact absurd hk (Nat.not_lt_zero _)
          | succ k47 ih47 =>
            intro t ht ht2 hk47 H locs hP hD hS ls hl
            refine lv_iload_n hx hb dX7_take_47 rfl (lv_at hl 0 rfl) ?_
            refine lv_iload_n hx hb dX7_take_48 rfl (lv_at hl 2 rfl) ?_
            refine lv_icmp_lt (tgt := 66) hx hb dX7_take_49 (by decide) (fun c49 => ?_) (fun c49 => ?_)
            · have c49 : t < num := su_lt (by omega) (by omega) c49
              obtain ⟨hP, hD⟩ := su_reI (q0 := 1) (fN (dnT opF num f)) hP hD rfl (fun j _ => by simp only [fN]; rw [dnP_T (by omega)])
              have hP : va_P D vwCl [(h, .inr (2, [.ref w])), (w, .inl (cI, 301, .inl (fN (dnT opF num f))))] H := hP
              have hD : va_D A [(h, .inr (2, [.ref w])), (w, .inl (cI, 301, .inl (fN (dnT opF num f))))] := hD
              rw [hQ]
              exact su_ev hx hb hr hlocks hS dX7_take_66 () (trivial) hP hD
            · have c49 : num ≤ t := su_nlt (by omega) (by omega) c49
              refine lv_aload_n hx hb dX7_take_52 rfl (lv_at hl 1 rfl) ?_
              refine lv_iload_n hx hb dX7_take_53 rfl (lv_at hl 0 rfl) ?_
              refine lv_iload_n hx hb dX7_take_54 rfl (lv_at hl 2 rfl) ?_
              refine lv_isub hx hb dX7_take_55 ?_
              refine su_eqi (nI (t - num)) (pk_sub (by omega)) ?_
              refine lv_iload_n hx hb dX7_take_56 rfl (lv_at hl 0 rfl) ?_
              refine su_cv (wr := []) (va_runU (As := [.int (nI (t - num)), .int (nI t)]) (rest := []) ⟨hx, hb, hml, hown, hts⟩ (k_carryF l D cI cL cZ H.size (h) (w) (dnP opF num f t) (t - num) (t) (by omega) (by omega) (leF_P hf _ _)) (va_cwA 2 hts (lw_gU q_290 q_292 q_293 q_294 q_37 q_295) rfl rfl rfl (hN _ q_291) (by decide +kernel) ⟨Nat.le_trans (Nat.le_of_ble_eq_true rfl) hR1, Nat.le_trans (Nat.le_of_ble_eq_true rfl) hR2⟩) (su_pv hN hK hP hD [0, 1] [0, 1, 2] rfl rfl rfl (ci := 2) (q0 := 0) rfl rfl rfl) rfl rfl hl.1 rfl (lv_room (Nat.le_of_ble_eq_true rfl)) dX7_take_57 ⟨Nat.le_trans (Nat.le_of_ble_eq_true rfl) hR3, Nat.le_trans (Nat.le_of_ble_eq_true rfl) hR4⟩) hP hD hS hA [0, 1] [] rfl rfl (by decide) (by decide) (fun uu H locs hw hP hD hS => ?_)
              have hP : va_P D vwCl [(h, .inr (2, [.ref w])), (w, .inl (cI, 301, .inl (fN (va_up (dnP opF num f t) t (opF ((dnP opF num f t) t) ((dnP opF num f t) (t - num)))))))] H := hP
              have hD : va_D A [(h, .inr (2, [.ref w])), (w, .inl (cI, 301, .inl (fN (va_up (dnP opF num f t) t (opF ((dnP opF num f t) t) ((dnP opF num f t) (t - num)))))))] := hD
              refine lv_iinc (v := nI (t - 1)) (lv' := [(3, .int (nI (t - 1))), (0, .ref h), (1, .int (nI num)), (2, .int (bI false))]) hx hb dX7_take_60 hl (k := 0) rfl (sb_m1 (by omega)) (by decide) rfl (fun ls hl => ?_)
              refine lv_goto (tgt := 47) hx hb dX7_take_63 (by decide) ?_
              obtain ⟨hP, hD⟩ := su_reI (q0 := 1) (fN (dnP opF num f (t - 1))) hP hD rfl (fun j _ => by simp only [fN]; exact congrArg _ (dnP_S h1 (by omega) ht j))
              have hP : va_P D vwCl [(h, .inr (2, [.ref w])), (w, .inl (cI, 301, .inl (fN (dnP opF num f (t - 1)))))] H := hP
              have hD : va_D A [(h, .inr (2, [.ref w])), (w, .inl (cI, 301, .inl (fN (dnP opF num f (t - 1)))))] := hD
              exact ih47 (t - 1) (by omega) (by omega) (by omega) _ _ hP hD hS _ (lv_sub hl [0, 1, 2, 3] rfl)
        obtain ⟨hP, hD⟩ := su_reI (q0 := 1) (fN (dnP opF num f (300))) hP hD rfl (fun j _ => by simp only [fN]; rw [← dnP_0])
        have hP : va_P D vwCl [(h, .inr (2, [.ref w])), (w, .inl (cI, 301, .inl (fN (dnP opF num f (300)))))] H := hP
        have hD : va_D A [(h, .inr (2, [.ref w])), (w, .inl (cI, 301, .inl (fN (dnP opF num f (300)))))] := hD
        exact loop47 (((300)) + 1) (300) (by omega) (by omega) (by omega) _ _ hP hD hS _ (lv_sub hl [0, 1, 2, 3] rfl)
      · have c14 : false = true := bI_n c14
        exact absurd c14 (by decide)
    · have c9 : 300 < num := su_nge (by omega) (by omega) c9
      omega
set_option maxHeartbeats 4000000 in
set_option maxRecDepth 100000 in
theorem k_fillFD (l : Launch) (D : va_G) (cI cL cZ : ClassId) (sz : Nat) (h : Nat) (w : Nat) (fr : Nat → Int32) (h2 : Nat) (a2 : Nat) (g : Nat → Nat) (n : Nat) (hn : n ≤ 20) (hg : ∀ k, k < n → 1 ≤ g k ∧ g k ≤ 300) :
    Met l yX7_fill (ws_ yX7_fill cX7_fill 4 none) { frames := 3, cells := 0, slots := 0, locals := 90 } (su_pre D (su_T cI cL cZ) sz [(h, .inr (2, [.ref w])), (w, .inl (cI, 301, .inl fr)), (h2, .inr (3, [.ref a2, .int (nI n)])), (a2, .inl (cI, 20, .inl (fN g)))] [.ref h, .ref h2, .int (bI false)]) (su_qv D (va_A [(h, .inr (2, [.ref w])), (w, .inl (cI, 301, .inl fr)), (h2, .inr (3, [.ref a2, .int (nI n)])), (a2, .inl (cI, 20, .inl (fN g)))] sz) (fun (uu : Unit) => True) (fun (uu : Unit) => [(h, .inr (2, [.ref w])), (w, .inl (cI, 301, .inl (fN (fiD opF f0F g n)))), (h2, .inr (3, [.ref a2, .int (nI n)])), (a2, .inl (cI, 20, .inl (fN g)))])) 0 0 (va_A [(h, .inr (2, [.ref w])), (w, .inl (cI, 301, .inl fr)), (h2, .inr (3, [.ref a2, .int (nI n)])), (a2, .inl (cI, 20, .inl (fN g)))] sz) := by
  refine su_met (Qf := fun A => su_qv D A (fun (uu : Unit) => True) (fun (uu : Unit) => [(h, .inr (2, [.ref w])), (w, .inl (cI, 301, .inl (fN (fiD opF f0F g n)))), (h2, .inr (3, [.ref a2, .int (nI n)])), (a2, .inl (cI, 20, .inl (fN g)))])) (cc := cX7_fill) (maxL := 4) (ret := none) (by decide) (Nat.le_of_ble_eq_true rfl) ?_
  intro p e s m args below meth c R Q A H locs ls hx hb hr hlocks hin hml hown hts hN hP hK hD hA hS hRm hQ hl
  have hown : s.vm.findClass RX7 = some m.cls := hown
  have hl : lv_has ls 4 [(0, .ref h), (1, .ref h2), (2, .int (bI false))] := hl
  have hR1 : 3 ≤ R.frames := by rw [hRm]; exact Nat.le_of_ble_eq_true rfl
  have hR2 : 90 ≤ R.locals := by rw [hRm]; exact Nat.le_of_ble_eq_true rfl
  have hR3 : 0 ≤ R.cells := by rw [hRm]; exact Nat.le_of_ble_eq_true rfl
  have hR4 : 0 ≤ R.slots := by rw [hRm]; exact Nat.le_of_ble_eq_true rfl
  have k_73 := va_Nw.use (A := args) rfl (hN _ q_73)
  refine lv_aload_n hx hb dX7_fill_0 rfl (lv_at hl 0 rfl) ?_
  refine su_cv (wr := [(h2, .inr (3, [.ref a2, .int (nI n)])), (a2, .inl (cI, 20, .inl (fN g)))]) (va_runU (As := []) (rest := []) ⟨hx, hb, hml, hown, hts⟩ (k_beginF l D cI cL cZ H.size (h) (w) (fr) ) (va_cwA 0 hts (lw_gU q_263 q_265 q_266 q_267 q_37 q_268) rfl rfl rfl (hN _ q_264) (by decide +kernel) ⟨Nat.le_trans (Nat.le_of_ble_eq_true rfl) hR1, Nat.le_trans (Nat.le_of_ble_eq_true rfl) hR2⟩) (su_pv hN hK hP hD [0, 1] [0, 1, 2] rfl rfl rfl (ci := 2) (q0 := 0) rfl rfl rfl) rfl rfl hl.1 rfl (lv_room (Nat.le_of_ble_eq_true rfl)) dX7_fill_1 ⟨Nat.le_trans (Nat.le_of_ble_eq_true rfl) hR3, Nat.le_trans (Nat.le_of_ble_eq_true rfl) hR4⟩) hP hD hS hA [0, 1] [2, 3] rfl rfl (by decide) (by decide) (fun uu H locs hw hP hD hS => ?_)
  have hP : va_P D vwCl [(h2, .inr (3, [.ref a2, .int (nI n)])), (a2, .inl (cI, 20, .inl (fN g))), (h, .inr (2, [.ref w])), (w, .inl (cI, 301, .inl (fN f0F)))] H := hP
  have hD : va_D A [(h2, .inr (3, [.ref a2, .int (nI n)])), (a2, .inl (cI, 20, .inl (fN g))), (h, .inr (2, [.ref w])), (w, .inl (cI, 301, .inl (fN f0F)))] := hD
  refine lv_iconst (v := nI 0) hx hb dX7_fill_4 (by decide) ?_
  refine lv_istore_n (lv' := [(3, .int (nI 0)), (0, .ref h), (1, .ref h2), (2, .int (bI false))]) hx hb dX7_fill_5 rfl hl (by decide) rfl (fun ls hl => ?_)
  have loop6 : ∀ (k6 : Nat) (i : Nat), (i ≤ n) → n - i < k6 → ∀ (H : Heap) (locs : List Loc), va_P D vwCl [(h2, .inr (3, [.ref a2, .int (nI n)])), (a2, .inl (cI, 20, .inl (fN g))), (h, .inr (2, [.ref w])), (w, .inl (cI, 301, .inl (fN (fiD opF f0F g i))))] H → va_D A [(h2, .inr (3, [.ref a2, .int (nI n)])), (a2, .inl (cI, 20, .inl (fN g))), (h, .inr (2, [.ref w])), (w, .inl (cI, 301, .inl (fN (fiD opF f0F g i))))] → va_S A s.heap H locs → ∀ ls : Array Slot, lv_has ls 4 [(3, .int (nI i)), (0, .ref h), (1, .ref h2), (2, .int (bI false))] → W p l e R s m args below meth c H locs 0 0 Q (F0 m 6 ls []) := by
    intro k6
    induction k6 with
    | zero => intro i hi hk; exact absurd hk (Nat.not_lt_zero _)
    | succ k6 ih6 =>
      intro i hi hk6 H locs hP hD hS ls hl
      refine lv_iload_n hx hb dX7_fill_6 rfl (lv_at hl 0 rfl) ?_
      refine lv_aload_n hx hb dX7_fill_7 rfl (lv_at hl 2 rfl) ?_
      refine va_getN (D := D) (ci := 3) (v := .int (nI n)) (C := RX3) (T := TX3) (N := 2) hx hb hts in_X3 hown hK hP 0 rfl rfl 1 (by decide) k_73 (fun _ h9 => h9) rfl dX7_fill_8 ?_
      refine lv_icmp_ge (tgt := 30) hx hb dX7_fill_11 (by decide) (fun c11 => ?_) (fun c11 => ?_)
      · have c11 : n ≤ i := su_ge (by omega) (by omega) c11
        obtain ⟨hP, hD⟩ := su_reI (q0 := 3) (fN (fiD opF f0F g n)) hP hD rfl (fun j _ => by rw [show n = i by omega])
        have hP : va_P D vwCl [(h2, .inr (3, [.ref a2, .int (nI n)])), (a2, .inl (cI, 20, .inl (fN g))), (h, .inr (2, [.ref w])), (w, .inl (cI, 301, .inl (fN (fiD opF f0F g n))))] H := hP
        have hD : va_D A [(h2, .inr (3, [.ref a2, .int (nI n)])), (a2, .inl (cI, 20, .inl (fN g))), (h, .inr (2, [.ref w])), (w, .inl (cI, 301, .inl (fN (fiD opF f0F g n))))] := hD
        rw [hQ]
        exact su_ev hx hb hr hlocks hS dX7_fill_30 () (trivial) (hP.sub [2, 3, 0, 1] rfl) (hD.sub [2, 3, 0, 1] (by decide) rfl)
      · have c11 : i < n := su_nge (by omega) (by omega) c11
        refine lv_aload_n hx hb dX7_fill_14 rfl (lv_at hl 1 rfl) ?_
        refine lv_aload_n hx hb dX7_fill_15 rfl (lv_at hl 2 rfl) ?_
        refine lv_iload_n hx hb dX7_fill_16 rfl (lv_at hl 0 rfl) ?_
        refine su_ci (wr := [(h, .inr (2, [.ref w])), (w, .inl (cI, 301, .inl (fN (fiD opF f0F g i))))]) (va_runV (As := [.int (nI i)]) (rest := [.ref h]) ⟨hx, hb, hml, hown, hts⟩ (k_numberAt l D cI cL cZ H.size (h2) (a2) (g) (n) (i) (hn) (c11)) (cwV 1 hts (lw_gV q_278 q_279 q_280 q_32 q_281) rfl rfl rfl (by decide +kernel) ⟨Nat.le_trans (Nat.le_of_ble_eq_true rfl) hR1, Nat.le_trans (Nat.le_of_ble_eq_true rfl) hR2⟩) (su_pv hN hK hP hD [0, 1] [0, 1, 2] rfl rfl rfl (ci := 3) (q0 := 0) rfl rfl rfl) rfl rfl hl.1 rfl (lv_room (Nat.le_of_ble_eq_true rfl)) dX7_fill_17 ⟨Nat.le_trans (Nat.le_of_ble_eq_true rfl) hR3, Nat.le_trans (Nat.le_of_ble_eq_true rfl) hR4⟩) hP hD hS hA [0, 1] [2, 3] rfl rfl (by decide) (by decide) (fun r uu H locs hw hP hD hS => ?_)
        obtain rfl : r = nI (g i) := hw
        have hP : va_P D vwCl [(h, .inr (2, [.ref w])), (w, .inl (cI, 301, .inl (fN (fiD opF f0F g i)))), (h2, .inr (3, [.ref a2, .int (nI n)])), (a2, .inl (cI, 20, .inl (fN g)))] H := hP
        have hD : va_D A [(h, .inr (2, [.ref w])), (w, .inl (cI, 301, .inl (fN (fiD opF f0F g i)))), (h2, .inr (3, [.ref a2, .int (nI n)])), (a2, .inl (cI, 20, .inl (fN g)))] := hD
        refine lv_iload_n hx hb dX7_fill_20 rfl (lv_at hl 3 rfl) ?_
        refine su_cv (wr := [(h2, .inr (3, [.ref a2, .int (nI n)])), (a2, .inl (cI, 20, .inl (fN g)))]) (va_runU (As := [.int (nI (g i)), .int (bI false)]) (rest := []) ⟨hx, hb, hml, hown, hts⟩ (k_takeFD l D cI cL cZ H.size (h) (w) (fiD opF f0F g i) (g i) ((hg i c11).1) ((hg i c11).2) (leF_fiD g i)) (va_cwU 2 hts (lw_gU q_286 q_1238 q_s2 q_288 q_35 q_289) rfl rfl rfl rfl (by decide +kernel) ⟨Nat.le_trans (Nat.le_of_ble_eq_true rfl) hR1, Nat.le_trans (Nat.le_of_ble_eq_true rfl) hR2⟩) (su_pv hN hK hP hD [0, 1] [0, 1, 2] rfl rfl rfl (ci := 2) (q0 := 0) rfl rfl rfl) rfl rfl hl.1 rfl (lv_room (Nat.le_of_ble_eq_true rfl)) dX7_fill_21 ⟨Nat.le_trans (Nat.le_of_ble_eq_true rfl) hR3, Nat.le_trans (Nat.le_of_ble_eq_true rfl) hR4⟩) hP hD hS hA [0, 1] [2, 3] rfl rfl (by decide) (by decide) (fun uu H locs hw hP hD hS => ?_)
        have hP : va_P D vwCl [(h2, .inr (3, [.ref a2, .int (nI n)])), (a2, .inl (cI, 20, .inl (fN g))), (h, .inr (2, [.ref w])), (w, .inl (cI, 301, .inl (fN (dnT opF (g i) (fiD opF f0F g i)))))] H := hP
        have hD : va_D A [(h2, .inr (3, [.ref a2, .int (nI n)])), (a2, .inl (cI, 20, .inl (fN g))), (h, .inr (2, [.ref w])), (w, .inl (cI, 301, .inl (fN (dnT opF (g i) (fiD opF f0F g i)))))] := hD
        refine lv_iinc (v := nI (i + 1)) (lv' := [(3, .int (nI (i + 1))), (0, .ref h), (1, .ref h2), (2, .int (bI false))]) hx hb dX7_fill_24 hl (k := 0) rfl (su_inc _) (by decide) rfl (fun ls hl => ?_)
        refine lv_goto (tgt := 6) hx hb dX7_fill_27 (by decide) ?_
        exact ih6 (i + 1) (by omega) (by omega) _ _ hP hD hS _ (lv_sub hl [0, 1, 2, 3] rfl)
  exact loop6 ((n - (0)) + 1) (0) (by omega) (by omega) _ _ hP hD hS _ (lv_sub hl [0, 1, 2, 3] rfl)
set_option maxHeartbeats 4000000 in
set_option maxRecDepth 100000 in
theorem k_takeFU (l : Launch) (D : va_G) (cI cL cZ : ClassId) (sz : Nat) (h : Nat) (w : Nat) (f : Nat → Nat) (num : Nat) (h1 : 1 ≤ num) (h3 : num ≤ 300) (hf : leF f) :
    Met l yX7_take (ws_ yX7_take cX7_take 4 none) { frames := 2, cells := 0, slots := 0, locals := 60 } (su_pre D (su_T cI cL cZ) sz [(h, .inr (2, [.ref w])), (w, .inl (cI, 301, .inl (fN f)))] [.ref h, .int (nI num), .int (bI true)]) (su_qv D (va_A [(h, .inr (2, [.ref w])), (w, .inl (cI, 301, .inl (fN f)))] sz) (fun (uu : Unit) => True) (fun (uu : Unit) => [(h, .inr (2, [.ref w])), (w, .inl (cI, 301, .inl (fN (upT opF num f))))])) 0 0 (va_A [(h, .inr (2, [.ref w])), (w, .inl (cI, 301, .inl (fN f)))] sz) := by
  refine su_met (Qf := fun A => su_qv D A (fun (uu : Unit) => True) (fun (uu : Unit) => [(h, .inr (2, [.ref w])), (w, .inl (cI, 301, .inl (fN (upT opF num f))))])) (cc := cX7_take) (maxL := 4) (ret := none) (by decide) (Nat.le_of_ble_eq_true rfl) ?_
  intro p e s m args below meth c R Q A H locs ls hx hb hr hlocks hin hml hown hts hN hP hK hD hA hS hRm hQ hl
  have hown : s.vm.findClass RX7 = some m.cls := hown
  have hl : lv_has ls 4 [(0, .ref h), (1, .int (nI num)), (2, .int (bI true))] := hl
  have hR1 : 2 ≤ R.frames := by rw [hRm]; exact Nat.le_of_ble_eq_true rfl
  have hR2 : 60 ≤ R.locals := by rw [hRm]; exact Nat.le_of_ble_eq_true rfl
  have hR3 : 0 ≤ R.cells := by rw [hRm]; exact Nat.le_of_ble_eq_true rfl
  have hR4 : 0 ≤ R.slots := by rw [hRm]; exact Nat.le_of_ble_eq_true rfl
  refine lv_iload_n hx hb dX7_take_0 rfl (lv_at hl 1 rfl) ?_
  refine lv_iconst (v := nI 1) hx hb dX7_take_1 (by decide) ?_
  refine lv_icmp_lt (tgt := 12) hx hb dX7_take_2 (by decide) (fun c2 => ?_) (fun c2 => ?_)
  · have c2 : num < 1 := su_lt (by omega) (by omega) c2
    omega
  · have c2 : 1 ≤ num := su_nlt (by omega) (by omega) c2
    refine lv_iload_n hx hb dX7_take_5 rfl (lv_at hl 1 rfl) ?_
    refine lv_sipush (v := nI 300) hx hb dX7_take_6 (by decide) ?_
    refine lv_icmp_le (tgt := 13) hx hb dX7_take_9 (by decide) (fun c9 => ?_) (fun c9 => ?_)
    · have c9 : num ≤ 300 := su_ge (by omega) (by omega) c9
      refine lv_iload_n hx hb dX7_take_13 rfl (lv_at hl 2 rfl) ?_
      refine lv_if_eq (tgt := 43) hx hb dX7_take_14 (by decide) (fun c14 => ?_) (fun c14 => ?_)
      · have c14 : true = false := bI_e c14
        exact absurd c14 (by decide)
      · have c14 : true = true := bI_n c14
        refine lv_iload_n hx hb dX7_take_17 rfl (lv_at hl 1 rfl) ?_
        refine lv_istore_n (lv' := [(3, .int (nI num)), (0, .ref h), (1, .int (nI num)), (2, .int (bI true))]) hx hb dX7_take_18 rfl hl (by decide) rfl (fun ls hl => ?_)
        have loop19 : ∀ (k19 : Nat) (t : Nat), (num ≤ t) → (t ≤ 301) → 301 - t < k19 → ∀ (H : Heap) (locs : List Loc), va_P D vwCl [(h, .inr (2, [.ref w])), (w, .inl (cI, 301, .inl (fN (upP opF num f t))))] H → va_D A [(h, .inr (2, [.ref w])), (w, .inl (cI, 301, .inl (fN (upP opF num f t))))] → va_S A s.heap H locs → ∀ ls : Array Slot, lv_has ls 4 [(3, .int (nI t)), (0, .ref h), (1, .int (nI num)), (2, .int (bI true))] → W p l e R s m args below meth c H locs 0 0 Q (F0 m 19 ls []) := by
          intro k19
          induction k19 with
          | zero => intro t ht ht2 hk; exact absurd hk (Nat.not_lt_zero _)
          | succ k19 ih19 =>
            intro t ht ht2 hk19 H locs hP hD hS ls hl
            refine lv_iload_n hx hb dX7_take_19 rfl (lv_at hl 0 rfl) ?_
            refine lv_sipush (v := nI 300) hx hb dX7_take_20 (by decide) ?_
            refine lv_icmp_gt (tgt := 40) hx hb dX7_take_23 (by decide) (fun c23 => ?_) (fun c23 => ?_)
            · have c23 : 300 < t := su_lt (by omega) (by omega) c23
              refine lv_goto (tgt := 66) hx hb dX7_take_40 (by decide) ?_
              obtain ⟨hP, hD⟩ := su_reI (q0 := 1) (fN (upT opF num f)) hP hD rfl (fun j _ => by rw [upT, show 301 = t by omega])
              have hP : va_P D vwCl [(h, .inr (2, [.ref w])), (w, .inl (cI, 301, .inl (fN (upT opF num f))))] H := hP
              have hD : va_D A [(h, .inr (2, [.ref w])), (w, .inl (cI, 301, .inl (fN (upT opF num f))))] := hD
              rw [hQ]
              exact su_ev hx hb hr hlocks hS dX7_take_66 () (trivial) hP hD
            · have c23 : t ≤ 300 := su_nlt (by omega) (by omega) c23
              refine lv_aload_n hx hb dX7_take_26 rfl (lv_at hl 1 rfl) ?_
              refine lv_iload_n hx hb dX7_take_27 rfl (lv_at hl 0 rfl) ?_
              refine lv_iload_n hx hb dX7_take_28 rfl (lv_at hl 2 rfl) ?_
              refine lv_isub hx hb dX7_take_29 ?_
              refine su_eqi (nI (t - num)) (pk_sub (by omega)) ?_
              refine lv_iload_n hx hb dX7_take_30 rfl (lv_at hl 0 rfl) ?_
              refine su_cv (wr := []) (va_runU (As := [.int (nI (t - num)), .int (nI t)]) (rest := []) ⟨hx, hb, hml, hown, hts⟩ (k_carryF l D cI cL cZ H.size (h) (w) (upP opF num f t) (t - num) (t) (by omega) (by omega) (leF_up hf _ _)) (va_cwA 2 hts (lw_gU q_290 q_292 q_293 q_294 q_37 q_295) rfl rfl rfl (hN _ q_291) (by decide +kernel) ⟨Nat.le_trans (Nat.le_of_ble_eq_true rfl) hR1, Nat.le_trans (Nat.le_of_ble_eq_true rfl) hR2⟩) (su_pv hN hK hP hD [0, 1] [0, 1, 2] rfl rfl rfl (ci := 2) (q0 := 0) rfl rfl rfl) rfl rfl hl.1 rfl (lv_room (Nat.le_of_ble_eq_true rfl)) dX7_take_31 ⟨Nat.le_trans (Nat.le_of_ble_eq_true rfl) hR3, Nat.le_trans (Nat.le_of_ble_eq_true rfl) hR4⟩) hP hD hS hA [0, 1] [] rfl rfl (by decide) (by decide) (fun uu H locs hw hP hD hS => ?_)
              have hP : va_P D vwCl [(h, .inr (2, [.ref w])), (w, .inl (cI, 301, .inl (fN (va_up (upP opF num f t) t (opF ((upP opF num f t) t) ((upP opF num f t) (t - num)))))))] H := hP
              have hD : va_D A [(h, .inr (2, [.ref w])), (w, .inl (cI, 301, .inl (fN (va_up (upP opF num f t) t (opF ((upP opF num f t) t) ((upP opF num f t) (t - num)))))))] := hD
              refine lv_iinc (v := nI (t + 1)) (lv' := [(3, .int (nI (t + 1))), (0, .ref h), (1, .int (nI num)), (2, .int (bI true))]) hx hb dX7_take_34 hl (k := 0) rfl (su_inc _) (by decide) rfl (fun ls hl => ?_)
              refine lv_goto (tgt := 19) hx hb dX7_take_37 (by decide) ?_
              obtain ⟨hP, hD⟩ := su_reI (q0 := 1) (fN (upP opF num f (t + 1))) hP hD rfl (fun j _ => by rw [← upP_S ht]; try rfl)
              have hP : va_P D vwCl [(h, .inr (2, [.ref w])), (w, .inl (cI, 301, .inl (fN (upP opF num f (t + 1)))))] H := hP
              have hD : va_D A [(h, .inr (2, [.ref w])), (w, .inl (cI, 301, .inl (fN (upP opF num f (t + 1)))))] := hD
              exact ih19 (t + 1) (by omega) (by omega) (by omega) _ _ hP hD hS _ (lv_sub hl [0, 1, 2, 3] rfl)
        obtain ⟨hP, hD⟩ := su_reI (q0 := 1) (fN (upP opF num f (num))) hP hD rfl (fun j _ => by rw [upP_lo (Nat.le_refl _)])
        have hP : va_P D vwCl [(h, .inr (2, [.ref w])), (w, .inl (cI, 301, .inl (fN (upP opF num f (num)))))] H := hP
        have hD : va_D A [(h, .inr (2, [.ref w])), (w, .inl (cI, 301, .inl (fN (upP opF num f (num)))))] := hD
        exact loop19 ((301 - (num)) + 1) (num) (by omega) (by omega) (by omega) _ _ hP hD hS _ (lv_sub hl [0, 1, 2, 3] rfl)
    · have c9 : 300 < num := su_nge (by omega) (by omega) c9
      omega
set_option maxHeartbeats 4000000 in
set_option maxRecDepth 100000 in
theorem k_fillFU (l : Launch) (D : va_G) (cI cL cZ : ClassId) (sz : Nat) (h : Nat) (w : Nat) (fr : Nat → Int32) (h2 : Nat) (a2 : Nat) (g : Nat → Nat) (n : Nat) (hn : n ≤ 20) (hg : ∀ k, k < n → 1 ≤ g k ∧ g k ≤ 300) :
    Met l yX7_fill (ws_ yX7_fill cX7_fill 4 none) { frames := 3, cells := 0, slots := 0, locals := 90 } (su_pre D (su_T cI cL cZ) sz [(h, .inr (2, [.ref w])), (w, .inl (cI, 301, .inl fr)), (h2, .inr (3, [.ref a2, .int (nI n)])), (a2, .inl (cI, 20, .inl (fN g)))] [.ref h, .ref h2, .int (bI true)]) (su_qv D (va_A [(h, .inr (2, [.ref w])), (w, .inl (cI, 301, .inl fr)), (h2, .inr (3, [.ref a2, .int (nI n)])), (a2, .inl (cI, 20, .inl (fN g)))] sz) (fun (uu : Unit) => True) (fun (uu : Unit) => [(h, .inr (2, [.ref w])), (w, .inl (cI, 301, .inl (fN (fiU opF f0F g n)))), (h2, .inr (3, [.ref a2, .int (nI n)])), (a2, .inl (cI, 20, .inl (fN g)))])) 0 0 (va_A [(h, .inr (2, [.ref w])), (w, .inl (cI, 301, .inl fr)), (h2, .inr (3, [.ref a2, .int (nI n)])), (a2, .inl (cI, 20, .inl (fN g)))] sz) := by
  refine su_met (Qf := fun A => su_qv D A (fun (uu : Unit) => True) (fun (uu : Unit) => [(h, .inr (2, [.ref w])), (w, .inl (cI, 301, .inl (fN (fiU opF f0F g n)))), (h2, .inr (3, [.ref a2, .int (nI n)])), (a2, .inl (cI, 20, .inl (fN g)))])) (cc := cX7_fill) (maxL := 4) (ret := none) (by decide) (Nat.le_of_ble_eq_true rfl) ?_
  intro p e s m args below meth c R Q A H locs ls hx hb hr hlocks hin hml hown hts hN hP hK hD hA hS hRm hQ hl
  have hown : s.vm.findClass RX7 = some m.cls := hown
  have hl : lv_has ls 4 [(0, .ref h), (1, .ref h2), (2, .int (bI true))] := hl
  have hR1 : 3 ≤ R.frames := by rw [hRm]; exact Nat.le_of_ble_eq_true rfl
  have hR2 : 90 ≤ R.locals := by rw [hRm]; exact Nat.le_of_ble_eq_true rfl
  have hR3 : 0 ≤ R.cells := by rw [hRm]; exact Nat.le_of_ble_eq_true rfl
  have hR4 : 0 ≤ R.slots := by rw [hRm]; exact Nat.le_of_ble_eq_true rfl
  have k_73 := va_Nw.use (A := args) rfl (hN _ q_73)
  refine lv_aload_n hx hb dX7_fill_0 rfl (lv_at hl 0 rfl) ?_
  refine su_cv (wr := [(h2, .inr (3, [.ref a2, .int (nI n)])), (a2, .inl (cI, 20, .inl (fN g)))]) (va_runU (As := []) (rest := []) ⟨hx, hb, hml, hown, hts⟩ (k_beginF l D cI cL cZ H.size (h) (w) (fr) ) (va_cwA 0 hts (lw_gU q_263 q_265 q_266 q_267 q_37 q_268) rfl rfl rfl (hN _ q_264) (by decide +kernel) ⟨Nat.le_trans (Nat.le_of_ble_eq_true rfl) hR1, Nat.le_trans (Nat.le_of_ble_eq_true rfl) hR2⟩) (su_pv hN hK hP hD [0, 1] [0, 1, 2] rfl rfl rfl (ci := 2) (q0 := 0) rfl rfl rfl) rfl rfl hl.1 rfl (lv_room (Nat.le_of_ble_eq_true rfl)) dX7_fill_1 ⟨Nat.le_trans (Nat.le_of_ble_eq_true rfl) hR3, Nat.le_trans (Nat.le_of_ble_eq_true rfl) hR4⟩) hP hD hS hA [0, 1] [2, 3] rfl rfl (by decide) (by decide) (fun uu H locs hw hP hD hS => ?_)
  have hP : va_P D vwCl [(h2, .inr (3, [.ref a2, .int (nI n)])), (a2, .inl (cI, 20, .inl (fN g))), (h, .inr (2, [.ref w])), (w, .inl (cI, 301, .inl (fN f0F)))] H := hP
  have hD : va_D A [(h2, .inr (3, [.ref a2, .int (nI n)])), (a2, .inl (cI, 20, .inl (fN g))), (h, .inr (2, [.ref w])), (w, .inl (cI, 301, .inl (fN f0F)))] := hD
  refine lv_iconst (v := nI 0) hx hb dX7_fill_4 (by decide) ?_
  refine lv_istore_n (lv' := [(3, .int (nI 0)), (0, .ref h), (1, .ref h2), (2, .int (bI true))]) hx hb dX7_fill_5 rfl hl (by decide) rfl (fun ls hl => ?_)
  have loop6 : ∀ (k6 : Nat) (i : Nat), (i ≤ n) → n - i < k6 → ∀ (H : Heap) (locs : List Loc), va_P D vwCl [(h2, .inr (3, [.ref a2, .int (nI n)])), (a2, .inl (cI, 20, .inl (fN g))), (h, .inr (2, [.ref w])), (w, .inl (cI, 301, .inl (fN (fiU opF f0F g i))))] H → va_D A [(h2, .inr (3, [.ref a2, .int (nI n)])), (a2, .inl (cI, 20, .inl (fN g))), (h, .inr (2, [.ref w])), (w, .inl (cI, 301, .inl (fN (fiU opF f0F g i))))] → va_S A s.heap H locs → ∀ ls : Array Slot, lv_has ls 4 [(3, .int (nI i)), (0, .ref h), (1, .ref h2), (2, .int (bI true))] → W p l e R s m args below meth c H locs 0 0 Q (F0 m 6 ls []) := by
    intro k6
    induction k6 with
    | zero => intro i hi hk; exact absurd hk (Nat.not_lt_zero _)
    | succ k6 ih6 =>
      intro i hi hk6 H locs hP hD hS ls hl
      refine lv_iload_n hx hb dX7_fill_6 rfl (lv_at hl 0 rfl) ?_
      refine lv_aload_n hx hb dX7_fill_7 rfl (lv_at hl 2 rfl) ?_
      refine va_getN (D := D) (ci := 3) (v := .int (nI n)) (C := RX3) (T := TX3) (N := 2) hx hb hts in_X3 hown hK hP 0 rfl rfl 1 (by decide) k_73 (fun _ h9 => h9) rfl dX7_fill_8 ?_
      refine lv_icmp_ge (tgt := 30) hx hb dX7_fill_11 (by decide) (fun c11 => ?_) (fun c11 => ?_)
      · have c11 : n ≤ i := su_ge (by omega) (by omega) c11
        obtain ⟨hP, hD⟩ := su_reI (q0 := 3) (fN (fiU opF f0F g n)) hP hD rfl (fun j _ => by rw [show n = i by omega])
        have hP : va_P D vwCl [(h2, .inr (3, [.ref a2, .int (nI n)])), (a2, .inl (cI, 20, .inl (fN g))), (h, .inr (2, [.ref w])), (w, .inl (cI, 301, .inl (fN (fiU opF f0F g n))))] H := hP
        have hD : va_D A [(h2, .inr (3, [.ref a2, .int (nI n)])), (a2, .inl (cI, 20, .inl (fN g))), (h, .inr (2, [.ref w])), (w, .inl (cI, 301, .inl (fN (fiU opF f0F g n))))] := hD
        rw [hQ]
        exact su_ev hx hb hr hlocks hS dX7_fill_30 () (trivial) (hP.sub [2, 3, 0, 1] rfl) (hD.sub [2, 3, 0, 1] (by decide) rfl)
      · have c11 : i < n := su_nge (by omega) (by omega) c11
        refine lv_aload_n hx hb dX7_fill_14 rfl (lv_at hl 1 rfl) ?_
        refine lv_aload_n hx hb dX7_fill_15 rfl (lv_at hl 2 rfl) ?_
        refine lv_iload_n hx hb dX7_fill_16 rfl (lv_at hl 0 rfl) ?_
        refine su_ci (wr := [(h, .inr (2, [.ref w])), (w, .inl (cI, 301, .inl (fN (fiU opF f0F g i))))]) (va_runV (As := [.int (nI i)]) (rest := [.ref h]) ⟨hx, hb, hml, hown, hts⟩ (k_numberAt l D cI cL cZ H.size (h2) (a2) (g) (n) (i) (hn) (c11)) (cwV 1 hts (lw_gV q_278 q_279 q_280 q_32 q_281) rfl rfl rfl (by decide +kernel) ⟨Nat.le_trans (Nat.le_of_ble_eq_true rfl) hR1, Nat.le_trans (Nat.le_of_ble_eq_true rfl) hR2⟩) (su_pv hN hK hP hD [0, 1] [0, 1, 2] rfl rfl rfl (ci := 3) (q0 := 0) rfl rfl rfl) rfl rfl hl.1 rfl (lv_room (Nat.le_of_ble_eq_true rfl)) dX7_fill_17 ⟨Nat.le_trans (Nat.le_of_ble_eq_true rfl) hR3, Nat.le_trans (Nat.le_of_ble_eq_true rfl) hR4⟩) hP hD hS hA [0, 1] [2, 3] rfl rfl (by decide) (by decide) (fun r uu H locs hw hP hD hS => ?_)
        obtain rfl : r = nI (g i) := hw
        have hP : va_P D vwCl [(h, .inr (2, [.ref w])), (w, .inl (cI, 301, .inl (fN (fiU opF f0F g i)))), (h2, .inr (3, [.ref a2, .int (nI n)])), (a2, .inl (cI, 20, .inl (fN g)))] H := hP
        have hD : va_D A [(h, .inr (2, [.ref w])), (w, .inl (cI, 301, .inl (fN (fiU opF f0F g i)))), (h2, .inr (3, [.ref a2, .int (nI n)])), (a2, .inl (cI, 20, .inl (fN g)))] := hD
        refine lv_iload_n hx hb dX7_fill_20 rfl (lv_at hl 3 rfl) ?_
        refine su_cv (wr := [(h2, .inr (3, [.ref a2, .int (nI n)])), (a2, .inl (cI, 20, .inl (fN g)))]) (va_runU (As := [.int (nI (g i)), .int (bI true)]) (rest := []) ⟨hx, hb, hml, hown, hts⟩ (k_takeFU l D cI cL cZ H.size (h) (w) (fiU opF f0F g i) (g i) ((hg i c11).1) ((hg i c11).2) (leF_fiU g i)) (va_cwU 2 hts (lw_gU q_286 q_1238 q_s2 q_288 q_35 q_289) rfl rfl rfl rfl (by decide +kernel) ⟨Nat.le_trans (Nat.le_of_ble_eq_true rfl) hR1, Nat.le_trans (Nat.le_of_ble_eq_true rfl) hR2⟩) (su_pv hN hK hP hD [0, 1] [0, 1, 2] rfl rfl rfl (ci := 2) (q0 := 0) rfl rfl rfl) rfl rfl hl.1 rfl (lv_room (Nat.le_of_ble_eq_true rfl)) dX7_fill_21 ⟨Nat.le_trans (Nat.le_of_ble_eq_true rfl) hR3, Nat.le_trans (Nat.le_of_ble_eq_true rfl) hR4⟩) hP hD hS hA [0, 1] [2, 3] rfl rfl (by decide) (by decide) (fun uu H locs hw hP hD hS => ?_)
        have hP : va_P D vwCl [(h2, .inr (3, [.ref a2, .int (nI n)])), (a2, .inl (cI, 20, .inl (fN g))), (h, .inr (2, [.ref w])), (w, .inl (cI, 301, .inl (fN (upT opF (g i) (fiU opF f0F g i)))))] H := hP
        have hD : va_D A [(h2, .inr (3, [.ref a2, .int (nI n)])), (a2, .inl (cI, 20, .inl (fN g))), (h, .inr (2, [.ref w])), (w, .inl (cI, 301, .inl (fN (upT opF (g i) (fiU opF f0F g i)))))] := hD
        refine lv_iinc (v := nI (i + 1)) (lv' := [(3, .int (nI (i + 1))), (0, .ref h), (1, .ref h2), (2, .int (bI true))]) hx hb dX7_fill_24 hl (k := 0) rfl (su_inc _) (by decide) rfl (fun ls hl => ?_)
        refine lv_goto (tgt := 6) hx hb dX7_fill_27 (by decide) ?_
        exact ih6 (i + 1) (by omega) (by omega) _ _ hP hD hS _ (lv_sub hl [0, 1, 2, 3] rfl)
  exact loop6 ((n - (0)) + 1) (0) (by omega) (by omega) _ _ hP hD hS _ (lv_sub hl [0, 1, 2, 3] rfl)
set_option maxHeartbeats 4000000 in
set_option maxRecDepth 100000 in
theorem k_beginP (l : Launch) (D : va_G) (cI cL cZ : ClassId) (sz : Nat) (h : Nat) (w : Nat) (fr : Nat → Int32) :
    Met l yX4_begin (ws_ yX4_begin cX4_begin 2 none) { frames := 0, cells := 0, slots := 0, locals := 0 } (su_pre D (su_T cI cL cZ) sz [(h, .inr (4, [.ref w])), (w, .inl (cI, 301, .inl fr))] [.ref h]) (su_qv D (va_A [(h, .inr (4, [.ref w])), (w, .inl (cI, 301, .inl fr))] sz) (fun (uu : Unit) => True) (fun (uu : Unit) => [(h, .inr (4, [.ref w])), (w, .inl (cI, 301, .inl (fN f0W)))])) 0 0 (va_A [(h, .inr (4, [.ref w])), (w, .inl (cI, 301, .inl fr))] sz) := by
  refine su_met (Qf := fun A => su_qv D A (fun (uu : Unit) => True) (fun (uu : Unit) => [(h, .inr (4, [.ref w])), (w, .inl (cI, 301, .inl (fN f0W)))])) (cc := cX4_begin) (maxL := 2) (ret := none) (by decide) (Nat.le_of_ble_eq_true rfl) ?_
  intro p e s m args below meth c R Q A H locs ls hx hb hr hlocks hin hml hown hts hN hP hK hD hA hS hRm hQ hl
  have hown : s.vm.findClass RX4 = some m.cls := hown
  have hl : lv_has ls 2 [(0, .ref h)] := hl
  have hR3 : 0 ≤ R.cells := by rw [hRm]; exact Nat.le_of_ble_eq_true rfl
  have hR4 : 0 ≤ R.slots := by rw [hRm]; exact Nat.le_of_ble_eq_true rfl
  have k_143 := hts _ q_143
  refine lv_iconst (v := nI 0) hx hb dX4_begin_0 (by decide) ?_
  refine lv_istore_n (lv' := [(1, .int (nI 0)), (0, .ref h)]) hx hb dX4_begin_1 rfl hl (by decide) rfl (fun ls hl => ?_)
  have loop2 : ∀ (k2 : Nat) (i : Nat), (i ≤ 301) → 301 - i < k2 → ∀ (H : Heap) (locs : List Loc), va_P D vwCl [(h, .inr (4, [.ref w])), (w, .inl (cI, 301, .inl (su_fl (fN f0W) fr i)))] H → va_D A [(h, .inr (4, [.ref w])), (w, .inl (cI, 301, .inl (su_fl (fN f0W) fr i)))] → va_S A s.heap H locs → ∀ ls : Array Slot, lv_has ls 2 [(1, .int (nI i)), (0, .ref h)] → W p l e R s m args below meth c H locs 0 0 Q (F0 m 2 ls []) := by
    intro k2
    induction k2 with
    | zero => intro i hi hk; exact absurd hk (Nat.not_lt_zero _)
    | succ k2 ih2 =>
      intro i hi hk2 H locs hP hD hS ls hl
      refine lv_iload_n hx hb dX4_begin_2 rfl (lv_at hl 0 rfl) ?_
      refine lv_sipush (v := nI 300) hx hb dX4_begin_3 (by decide) ?_
      refine lv_icmp_gt (tgt := 30) hx hb dX4_begin_6 (by decide) (fun c6 => ?_) (fun c6 => ?_)
      · have c6 : 300 < i := su_lt (by omega) (by omega) c6
        obtain ⟨hP, hD⟩ := su_reI (q0 := 1) (fN f0W) hP hD rfl (fun j hj => su_flN (by omega))
        have hP : va_P D vwCl [(h, .inr (4, [.ref w])), (w, .inl (cI, 301, .inl (fN f0W)))] H := hP
        have hD : va_D A [(h, .inr (4, [.ref w])), (w, .inl (cI, 301, .inl (fN f0W)))] := hD
        rw [hQ]
        exact su_ev hx hb hr hlocks hS dX4_begin_30 () (trivial) hP hD
      · have c6 : i ≤ 300 := su_nlt (by omega) (by omega) c6
        refine lv_aload_n hx hb dX4_begin_9 rfl (lv_at hl 1 rfl) ?_
        refine va_get (D := D) (ci := 4) (v := .ref w) (C := RX4) (T := TX4) (N := 1) hx hb hts in_X4 hown hK hP 0 rfl rfl 0 (by decide) k_143 (fun _ h9 => h9) rfl dX4_begin_10 ?_
        refine lv_iload_n hx hb dX4_begin_13 rfl (lv_at hl 0 rfl) ?_
        refine lv_iload_n hx hb dX4_begin_14 rfl (lv_at hl 0 rfl) ?_
        refine lv_if_ne (tgt := 22) hx hb dX4_begin_15 (by decide) (fun c15 => ?_) (fun c15 => ?_)
        · have c15 : i ≠ 0 := su_nz c15
          refine lv_iconst (v := nI 0) hx hb dX4_begin_22 (by decide) ?_
          refine su_iast hx hb hK hP hD hS 1 0 rfl rfl (i := i) (by omega) (by decide) (va_up (su_fl (fN f0W) fr i) i (nI 0)) (fun _ _ => rfl) dX4_begin_23 (fun H locs hP hD hS => ?_)
          have hP : va_P D vwCl [(h, .inr (4, [.ref w])), (w, .inl (cI, 301, .inl (va_up (su_fl (fN f0W) fr i) i (nI 0))))] H := hP
          have hD : va_D A [(h, .inr (4, [.ref w])), (w, .inl (cI, 301, .inl (va_up (su_fl (fN f0W) fr i) i (nI 0))))] := hD
          refine lv_iinc (v := nI (i + 1)) (lv' := [(1, .int (nI (i + 1))), (0, .ref h)]) hx hb dX4_begin_24 hl (k := 0) rfl (su_inc _) (by decide) rfl (fun ls hl => ?_)
          refine lv_goto (tgt := 2) hx hb dX4_begin_27 (by decide) ?_
          obtain ⟨hP, hD⟩ := su_reI (q0 := 1) (su_fl (fN f0W) fr (i + 1)) hP hD rfl (fun j _ => su_flS (by first | exact be_P1 c15 | exact be_P0 c15) j)
          have hP : va_P D vwCl [(h, .inr (4, [.ref w])), (w, .inl (cI, 301, .inl (su_fl (fN f0W) fr (i + 1))))] H := hP
          have hD : va_D A [(h, .inr (4, [.ref w])), (w, .inl (cI, 301, .inl (su_fl (fN f0W) fr (i + 1))))] := hD
          exact ih2 (i + 1) (by omega) (by omega) _ _ hP hD hS _ (lv_sub hl [0, 1] rfl)
        · have c15 : i = 0 := su_z (by omega) c15
          refine lv_iconst (v := nI 1) hx hb dX4_begin_18 (by decide) ?_
          refine lv_goto (tgt := 23) hx hb dX4_begin_19 (by decide) ?_
          refine su_iast hx hb hK hP hD hS 1 0 rfl rfl (i := i) (by omega) (by decide) (va_up (su_fl (fN f0W) fr i) i (nI 1)) (fun _ _ => rfl) dX4_begin_23 (fun H locs hP hD hS => ?_)
          have hP : va_P D vwCl [(h, .inr (4, [.ref w])), (w, .inl (cI, 301, .inl (va_up (su_fl (fN f0W) fr i) i (nI 1))))] H := hP
          have hD : va_D A [(h, .inr (4, [.ref w])), (w, .inl (cI, 301, .inl (va_up (su_fl (fN f0W) fr i) i (nI 1))))] := hD
          refine lv_iinc (v := nI (i + 1)) (lv' := [(1, .int (nI (i + 1))), (0, .ref h)]) hx hb dX4_begin_24 hl (k := 0) rfl (su_inc _) (by decide) rfl (fun ls hl => ?_)
          refine lv_goto (tgt := 2) hx hb dX4_begin_27 (by decide) ?_
          obtain ⟨hP, hD⟩ := su_reI (q0 := 1) (su_fl (fN f0W) fr (i + 1)) hP hD rfl (fun j _ => su_flS (by first | exact be_P1 c15 | exact be_P0 c15) j)
          have hP : va_P D vwCl [(h, .inr (4, [.ref w])), (w, .inl (cI, 301, .inl (su_fl (fN f0W) fr (i + 1))))] H := hP
          have hD : va_D A [(h, .inr (4, [.ref w])), (w, .inl (cI, 301, .inl (su_fl (fN f0W) fr (i + 1))))] := hD
          exact ih2 (i + 1) (by omega) (by omega) _ _ hP hD hS _ (lv_sub hl [0, 1] rfl)
  obtain ⟨hP, hD⟩ := su_reI (q0 := 1) (su_fl (fN f0W) fr (0)) hP hD rfl (fun j _ => su_fl0 j)
  have hP : va_P D vwCl [(h, .inr (4, [.ref w])), (w, .inl (cI, 301, .inl (su_fl (fN f0W) fr (0))))] H := hP
  have hD : va_D A [(h, .inr (4, [.ref w])), (w, .inl (cI, 301, .inl (su_fl (fN f0W) fr (0))))] := hD
  exact loop2 ((301 - (0)) + 1) (0) (by omega) (by omega) _ _ hP hD hS _ (lv_sub hl [0, 1] rfl)
set_option maxHeartbeats 4000000 in
set_option maxRecDepth 100000 in
theorem k_carryP (l : Launch) (D : va_G) (cI cL cZ : ClassId) (sz : Nat) (h : Nat) (w : Nat) (f : Nat → Nat) (u : Nat) (v : Nat) (hu : u ≤ 300) (hv : v ≤ 300) :
    Met l yX4_carry (ws_ yX4_carry cX4_carry 3 none) { frames := 1, cells := 0, slots := 0, locals := 30 } (su_pre D (su_T cI cL cZ) sz [(h, .inr (4, [.ref w])), (w, .inl (cI, 301, .inl (fN f)))] [.ref h, .int (nI u), .int (nI v)]) (su_qv D (va_A [(h, .inr (4, [.ref w])), (w, .inl (cI, 301, .inl (fN f)))] sz) (fun (uu : Unit) => True) (fun (uu : Unit) => [(h, .inr (4, [.ref w])), (w, .inl (cI, 301, .inl (fN (va_up f v (opP (f v) (f u))))))])) 0 0 (va_A [(h, .inr (4, [.ref w])), (w, .inl (cI, 301, .inl (fN f)))] sz) := by
  refine su_met (Qf := fun A => su_qv D A (fun (uu : Unit) => True) (fun (uu : Unit) => [(h, .inr (4, [.ref w])), (w, .inl (cI, 301, .inl (fN (va_up f v (opP (f v) (f u))))))])) (cc := cX4_carry) (maxL := 3) (ret := none) (by decide) (Nat.le_of_ble_eq_true rfl) ?_
  intro p e s m args below meth c R Q A H locs ls hx hb hr hlocks hin hml hown hts hN hP hK hD hA hS hRm hQ hl
  have hown : s.vm.findClass RX4 = some m.cls := hown
  have hl : lv_has ls 3 [(0, .ref h), (1, .int (nI u)), (2, .int (nI v))] := hl
  have hR1 : 1 ≤ R.frames := by rw [hRm]; exact Nat.le_of_ble_eq_true rfl
  have hR2 : 30 ≤ R.locals := by rw [hRm]; exact Nat.le_of_ble_eq_true rfl
  have hR3 : 0 ≤ R.cells := by rw [hRm]; exact Nat.le_of_ble_eq_true rfl
  have hR4 : 0 ≤ R.slots := by rw [hRm]; exact Nat.le_of_ble_eq_true rfl
  have k_143 := hts _ q_143
  refine lv_iload_n hx hb dX4_carry_0 rfl (lv_at hl 1 rfl) ?_
  refine su_ci (wr := [(h, .inr (4, [.ref w])), (w, .inl (cI, 301, .inl (fN f)))]) (su_runSI (As := [.int (nI u)]) (rest := []) ⟨hx, hb, hml, hown, hts⟩ (k_isCell l D cI cL cZ H.size (u) (hu)) (hts _ q_306) (hts _ q_307) (hts _ q_298) (hts _ q_35) (hts _ q_299) (lw_gC q_299) rfl rfl rfl 1 rfl (by decide +kernel) ⟨Nat.le_trans (Nat.le_of_ble_eq_true rfl) hR1, Nat.le_trans (Nat.le_of_ble_eq_true rfl) hR2⟩ (su_ps hN hK hP hD [] [0, 1, 2] rfl rfl rfl) rfl rfl hl.1 rfl (lv_room (Nat.le_of_ble_eq_true rfl)) dX4_carry_1 ⟨Nat.le_trans (Nat.le_of_ble_eq_true rfl) hR3, Nat.le_trans (Nat.le_of_ble_eq_true rfl) hR4⟩) hP hD hS hA [] [0, 1] rfl rfl (by decide) (by decide) (fun r uu H locs hw hP hD hS => ?_)
  obtain rfl : r = bI true := hw
  have hP : va_P D vwCl [(h, .inr (4, [.ref w])), (w, .inl (cI, 301, .inl (fN f)))] H := hP
  have hD : va_D A [(h, .inr (4, [.ref w])), (w, .inl (cI, 301, .inl (fN f)))] := hD
  refine lv_if_eq (tgt := 31) hx hb dX4_carry_4 (by decide) (fun c4 => ?_) (fun c4 => ?_)
  · have c4 : true = false := bI_e c4
    exact absurd c4 (by decide)
  · have c4 : true = true := bI_n c4
    refine lv_iload_n hx hb dX4_carry_7 rfl (lv_at hl 2 rfl) ?_
    refine su_ci (wr := [(h, .inr (4, [.ref w])), (w, .inl (cI, 301, .inl (fN f)))]) (su_runSI (As := [.int (nI v)]) (rest := []) ⟨hx, hb, hml, hown, hts⟩ (k_isCell l D cI cL cZ H.size (v) (hv)) (hts _ q_306) (hts _ q_307) (hts _ q_298) (hts _ q_35) (hts _ q_299) (lw_gC q_299) rfl rfl rfl 1 rfl (by decide +kernel) ⟨Nat.le_trans (Nat.le_of_ble_eq_true rfl) hR1, Nat.le_trans (Nat.le_of_ble_eq_true rfl) hR2⟩ (su_ps hN hK hP hD [] [0, 1, 2] rfl rfl rfl) rfl rfl hl.1 rfl (lv_room (Nat.le_of_ble_eq_true rfl)) dX4_carry_8 ⟨Nat.le_trans (Nat.le_of_ble_eq_true rfl) hR3, Nat.le_trans (Nat.le_of_ble_eq_true rfl) hR4⟩) hP hD hS hA [] [0, 1] rfl rfl (by decide) (by decide) (fun r uu H locs hw hP hD hS => ?_)
    obtain rfl : r = bI true := hw
    have hP : va_P D vwCl [(h, .inr (4, [.ref w])), (w, .inl (cI, 301, .inl (fN f)))] H := hP
    have hD : va_D A [(h, .inr (4, [.ref w])), (w, .inl (cI, 301, .inl (fN f)))] := hD
    refine lv_if_eq (tgt := 31) hx hb dX4_carry_11 (by decide) (fun c11 => ?_) (fun c11 => ?_)
    · have c11 : true = false := bI_e c11
      exact absurd c11 (by decide)
    · have c11 : true = true := bI_n c11
      refine lv_aload_n hx hb dX4_carry_14 rfl (lv_at hl 0 rfl) ?_
      refine va_get (D := D) (ci := 4) (v := .ref w) (C := RX4) (T := TX4) (N := 1) hx hb hts in_X4 hown hK hP 0 rfl rfl 0 (by decide) k_143 (fun _ h9 => h9) rfl dX4_carry_15 ?_
      refine lv_iload_n hx hb dX4_carry_18 rfl (lv_at hl 2 rfl) ?_
      refine lv_dup2_11 hx hb dX4_carry_19 rfl rfl ?_
      refine su_iald hx hb hK hP 1 0 rfl rfl (i := v) (by omega) (by decide) (nI (f v)) (rfl) dX4_carry_20 ?_
      refine lv_aload_n hx hb dX4_carry_21 rfl (lv_at hl 0 rfl) ?_
      refine va_get (D := D) (ci := 4) (v := .ref w) (C := RX4) (T := TX4) (N := 1) hx hb hts in_X4 hown hK hP 0 rfl rfl 0 (by decide) k_143 (fun _ h9 => h9) rfl dX4_carry_22 ?_
      refine lv_iload_n hx hb dX4_carry_25 rfl (lv_at hl 1 rfl) ?_
      refine su_iald hx hb hK hP 1 0 rfl rfl (i := u) (by omega) (by decide) (nI (f u)) (rfl) dX4_carry_26 ?_
      refine lv_iconst (v := nI 1) hx hb dX4_carry_27 (by decide) ?_
      refine lv_ishl hx hb dX4_carry_28 ?_
      refine su_eqi (nI (f u * 2)) (su_shl1 _) ?_
      refine lv_ior hx hb dX4_carry_29 ?_
      refine su_eqi (nI (opP (f v) (f u))) (su_or32 _ _) ?_
      refine su_iast hx hb hK hP hD hS 1 0 rfl rfl (i := v) (by omega) (by decide) (fN (va_up f v (opP (f v) (f u)))) (fun j _ => su_upN _ _ _ j) dX4_carry_30 (fun H locs hP hD hS => ?_)
      have hP : va_P D vwCl [(h, .inr (4, [.ref w])), (w, .inl (cI, 301, .inl (fN (va_up f v (opP (f v) (f u))))))] H := hP
      have hD : va_D A [(h, .inr (4, [.ref w])), (w, .inl (cI, 301, .inl (fN (va_up f v (opP (f v) (f u))))))] := hD
      rw [hQ]
      exact su_ev hx hb hr hlocks hS dX4_carry_31 () (trivial) hP hD
set_option maxHeartbeats 4000000 in
set_option maxRecDepth 100000 in
theorem k_takePD (l : Launch) (D : va_G) (cI cL cZ : ClassId) (sz : Nat) (h : Nat) (w : Nat) (f : Nat → Nat) (num : Nat) (h1 : 1 ≤ num) (h3 : num ≤ 300) :
    Met l yX7_take (ws_ yX7_take cX7_take 4 none) { frames := 2, cells := 0, slots := 0, locals := 60 } (su_pre D (su_T cI cL cZ) sz [(h, .inr (4, [.ref w])), (w, .inl (cI, 301, .inl (fN f)))] [.ref h, .int (nI num), .int (bI false)]) (su_qv D (va_A [(h, .inr (4, [.ref w])), (w, .inl (cI, 301, .inl (fN f)))] sz) (fun (uu : Unit) => True) (fun (uu : Unit) => [(h, .inr (4, [.ref w])), (w, .inl (cI, 301, .inl (fN (dnT opP num f))))])) 0 0 (va_A [(h, .inr (4, [.ref w])), (w, .inl (cI, 301, .inl (fN f)))] sz) := by
  refine su_met (Qf := fun A => su_qv D A (fun (uu : Unit) => True) (fun (uu : Unit) => [(h, .inr (4, [.ref w])), (w, .inl (cI, 301, .inl (fN (dnT opP num f))))])) (cc := cX7_take) (maxL := 4) (ret := none) (by decide) (Nat.le_of_ble_eq_true rfl) ?_
  intro p e s m args below meth c R Q A H locs ls hx hb hr hlocks hin hml hown hts hN hP hK hD hA hS hRm hQ hl
  have hown : s.vm.findClass RX7 = some m.cls := hown
  have hl : lv_has ls 4 [(0, .ref h), (1, .int (nI num)), (2, .int (bI false))] := hl
  have hR1 : 2 ≤ R.frames := by rw [hRm]; exact Nat.le_of_ble_eq_true rfl
  have hR2 : 60 ≤ R.locals := by rw [hRm]; exact Nat.le_of_ble_eq_true rfl
  have hR3 : 0 ≤ R.cells := by rw [hRm]; exact Nat.le_of_ble_eq_true rfl
  have hR4 : 0 ≤ R.slots := by rw [hRm]; exact Nat.le_of_ble_eq_true rfl
  refine lv_iload_n hx hb dX7_take_0 rfl (lv_at hl 1 rfl) ?_
  refine lv_iconst (v := nI 1) hx hb dX7_take_1 (by decide) ?_
  refine lv_icmp_lt (tgt := 12) hx hb dX7_take_2 (by decide) (fun c2 => ?_) (fun c2 => ?_)
  · have c2 : num < 1 := su_lt (by omega) (by omega) c2
    omega
  · have c2 : 1 ≤ num := su_nlt (by omega) (by omega) c2
    refine lv_iload_n hx hb dX7_take_5 rfl (lv_at hl 1 rfl) ?_
    refine lv_sipush (v := nI 300) hx hb dX7_take_6 (by decide) ?_
    refine lv_icmp_le (tgt := 13) hx hb dX7_take_9 (by decide) (fun c9 => ?_) (fun c9 => ?_)
    · have c9 : num ≤ 300 := su_ge (by omega) (by omega) c9
      refine lv_iload_n hx hb dX7_take_13 rfl (lv_at hl 2 rfl) ?_
      refine lv_if_eq (tgt := 43) hx hb dX7_take_14 (by decide) (fun c14 => ?_) (fun c14 => ?_)
      · have c14 : false = false := bI_e c14
        refine lv_sipush (v := nI 300) hx hb dX7_take_43 (by decide) ?_
        refine lv_istore_n (lv' := [(3, .int (nI 300)), (0, .ref h), (1, .int (nI num)), (2, .int (bI false))]) hx hb dX7_take_46 rfl hl (by decide) rfl (fun ls hl => ?_)
        have loop47 : ∀ (k47 : Nat) (t : Nat), (t ≤ 300) → (num ≤ t + 1) → t < k47 → ∀ (H : Heap) (locs : List Loc), va_P D vwCl [(h, .inr (4, [.ref w])), (w, .inl (cI, 301, .inl (fN (dnP opP num f t))))] H → va_D A [(h, .inr (4, [.ref w])), (w, .inl (cI, 301, .inl (fN (dnP opP num f t))))] → va_S A s.heap H locs → ∀ ls : Array Slot, lv_has ls 4 [(3, .int (nI t)), (0, .ref h), (1, .int (nI num)), (2, .int (bI false))] → W p l e R s m args below meth c H locs 0 0 Q (F0 m 47 ls []) := by
          intro k47
          induction k47 with
          | zero => intro t ht ht2 hk; exact absurd hk (Nat.not_lt_zero _)
          | succ k47 ih47 =>
            intro t ht ht2 hk47 H locs hP hD hS ls hl
            refine lv_iload_n hx hb dX7_take_47 rfl (lv_at hl 0 rfl) ?_
            refine lv_iload_n hx hb dX7_take_48 rfl (lv_at hl 2 rfl) ?_
            refine lv_icmp_lt (tgt := 66) hx hb dX7_take_49 (by decide) (fun c49 => ?_) (fun c49 => ?_)
            · have c49 : t < num := su_lt (by omega) (by omega) c49
              obtain ⟨hP, hD⟩ := su_reI (q0 := 1) (fN (dnT opP num f)) hP hD rfl (fun j _ => by simp only [fN]; rw [dnP_T (by omega)])
              have hP : va_P D vwCl [(h, .inr (4, [.ref w])), (w, .inl (cI, 301, .inl (fN (dnT opP num f))))] H := hP
              have hD : va_D A [(h, .inr (4, [.ref w])), (w, .inl (cI, 301, .inl (fN (dnT opP num f))))] := hD
              rw [hQ]
              exact su_ev hx hb hr hlocks hS dX7_take_66 () (trivial) hP hD
            · have c49 : num ≤ t := su_nlt (by omega) (by omega) c49
              refine lv_aload_n hx hb dX7_take_52 rfl (lv_at hl 1 rfl) ?_
              refine lv_iload_n hx hb dX7_take_53 rfl (lv_at hl 0 rfl) ?_
              refine lv_iload_n hx hb dX7_take_54 rfl (lv_at hl 2 rfl) ?_
              refine lv_isub hx hb dX7_take_55 ?_
              refine su_eqi (nI (t - num)) (pk_sub (by omega)) ?_
              refine lv_iload_n hx hb dX7_take_56 rfl (lv_at hl 0 rfl) ?_
              refine su_cv (wr := []) (va_runU (As := [.int (nI (t - num)), .int (nI t)]) (rest := []) ⟨hx, hb, hml, hown, hts⟩ (k_carryP l D cI cL cZ H.size (h) (w) (dnP opP num f t) (t - num) (t) (by omega) (by omega)) (va_cwA 2 hts (lw_gU q_290 q_292 q_303 q_304 q_38 q_305) rfl rfl rfl (hN _ q_291) (by decide +kernel) ⟨Nat.le_trans (Nat.le_of_ble_eq_true rfl) hR1, Nat.le_trans (Nat.le_of_ble_eq_true rfl) hR2⟩) (su_pv hN hK hP hD [0, 1] [0, 1, 2] rfl rfl rfl (ci := 4) (q0 := 0) rfl rfl rfl) rfl rfl hl.1 rfl (lv_room (Nat.le_of_ble_eq_true rfl)) dX7_take_57 ⟨Nat.le_trans (Nat.le_of_ble_eq_true rfl) hR3, Nat.le_trans (Nat.le_of_ble_eq_true rfl) hR4⟩) hP hD hS hA [0, 1] [] rfl rfl (by decide) (by decide) (fun uu H locs hw hP hD hS => ?_)
              have hP : va_P D vwCl [(h, .inr (4, [.ref w])), (w, .inl (cI, 301, .inl (fN (va_up (dnP opP num f t) t (opP ((dnP opP num f t) t) ((dnP opP num f t) (t - num)))))))] H := hP
              have hD : va_D A [(h, .inr (4, [.ref w])), (w, .inl (cI, 301, .inl (fN (va_up (dnP opP num f t) t (opP ((dnP opP num f t) t) ((dnP opP num f t) (t - num)))))))] := hD
              refine lv_iinc (v := nI (t - 1)) (lv' := [(3, .int (nI (t - 1))), (0, .ref h), (1, .int (nI num)), (2, .int (bI false))]) hx hb dX7_take_60 hl (k := 0) rfl (sb_m1 (by omega)) (by decide) rfl (fun ls hl => ?_)
              refine lv_goto (tgt := 47) hx hb dX7_take_63 (by decide) ?_
              obtain ⟨hP, hD⟩ := su_reI (q0 := 1) (fN (dnP opP num f (t - 1))) hP hD rfl (fun j _ => by simp only [fN]; exact congrArg _ (dnP_S h1 (by omega) ht j))
              have hP : va_P D vwCl [(h, .inr (4, [.ref w])), (w, .inl (cI, 301, .inl (fN (dnP opP num f (t - 1)))))] H := hP
              have hD : va_D A [(h, .inr (4, [.ref w])), (w, .inl (cI, 301, .inl (fN (dnP opP num f (t - 1)))))] := hD
              exact ih47 (t - 1) (by omega) (by omega) (by omega) _ _ hP hD hS _ (lv_sub hl [0, 1, 2, 3] rfl)
        obtain ⟨hP, hD⟩ := su_reI (q0 := 1) (fN (dnP opP num f (300))) hP hD rfl (fun j _ => by simp only [fN]; rw [← dnP_0])
        have hP : va_P D vwCl [(h, .inr (4, [.ref w])), (w, .inl (cI, 301, .inl (fN (dnP opP num f (300)))))] H := hP
        have hD : va_D A [(h, .inr (4, [.ref w])), (w, .inl (cI, 301, .inl (fN (dnP opP num f (300)))))] := hD
        exact loop47 (((300)) + 1) (300) (by omega) (by omega) (by omega) _ _ hP hD hS _ (lv_sub hl [0, 1, 2, 3] rfl)
      · have c14 : false = true := bI_n c14
        exact absurd c14 (by decide)
    · have c9 : 300 < num := su_nge (by omega) (by omega) c9
      omega
set_option maxHeartbeats 4000000 in
set_option maxRecDepth 100000 in
theorem k_fillPD (l : Launch) (D : va_G) (cI cL cZ : ClassId) (sz : Nat) (h : Nat) (w : Nat) (fr : Nat → Int32) (h2 : Nat) (a2 : Nat) (g : Nat → Nat) (n : Nat) (hn : n ≤ 20) (hg : ∀ k, k < n → 1 ≤ g k ∧ g k ≤ 300) :
    Met l yX7_fill (ws_ yX7_fill cX7_fill 4 none) { frames := 3, cells := 0, slots := 0, locals := 90 } (su_pre D (su_T cI cL cZ) sz [(h, .inr (4, [.ref w])), (w, .inl (cI, 301, .inl fr)), (h2, .inr (3, [.ref a2, .int (nI n)])), (a2, .inl (cI, 20, .inl (fN g)))] [.ref h, .ref h2, .int (bI false)]) (su_qv D (va_A [(h, .inr (4, [.ref w])), (w, .inl (cI, 301, .inl fr)), (h2, .inr (3, [.ref a2, .int (nI n)])), (a2, .inl (cI, 20, .inl (fN g)))] sz) (fun (uu : Unit) => True) (fun (uu : Unit) => [(h, .inr (4, [.ref w])), (w, .inl (cI, 301, .inl (fN (fiD opP f0W g n)))), (h2, .inr (3, [.ref a2, .int (nI n)])), (a2, .inl (cI, 20, .inl (fN g)))])) 0 0 (va_A [(h, .inr (4, [.ref w])), (w, .inl (cI, 301, .inl fr)), (h2, .inr (3, [.ref a2, .int (nI n)])), (a2, .inl (cI, 20, .inl (fN g)))] sz) := by
  refine su_met (Qf := fun A => su_qv D A (fun (uu : Unit) => True) (fun (uu : Unit) => [(h, .inr (4, [.ref w])), (w, .inl (cI, 301, .inl (fN (fiD opP f0W g n)))), (h2, .inr (3, [.ref a2, .int (nI n)])), (a2, .inl (cI, 20, .inl (fN g)))])) (cc := cX7_fill) (maxL := 4) (ret := none) (by decide) (Nat.le_of_ble_eq_true rfl) ?_
  intro p e s m args below meth c R Q A H locs ls hx hb hr hlocks hin hml hown hts hN hP hK hD hA hS hRm hQ hl
  have hown : s.vm.findClass RX7 = some m.cls := hown
  have hl : lv_has ls 4 [(0, .ref h), (1, .ref h2), (2, .int (bI false))] := hl
  have hR1 : 3 ≤ R.frames := by rw [hRm]; exact Nat.le_of_ble_eq_true rfl
  have hR2 : 90 ≤ R.locals := by rw [hRm]; exact Nat.le_of_ble_eq_true rfl
  have hR3 : 0 ≤ R.cells := by rw [hRm]; exact Nat.le_of_ble_eq_true rfl
  have hR4 : 0 ≤ R.slots := by rw [hRm]; exact Nat.le_of_ble_eq_true rfl
  have k_73 := va_Nw.use (A := args) rfl (hN _ q_73)
  refine lv_aload_n hx hb dX7_fill_0 rfl (lv_at hl 0 rfl) ?_
  refine su_cv (wr := [(h2, .inr (3, [.ref a2, .int (nI n)])), (a2, .inl (cI, 20, .inl (fN g)))]) (va_runU (As := []) (rest := []) ⟨hx, hb, hml, hown, hts⟩ (k_beginP l D cI cL cZ H.size (h) (w) (fr) ) (va_cwA 0 hts (lw_gU q_263 q_265 q_269 q_270 q_38 q_271) rfl rfl rfl (hN _ q_264) (by decide +kernel) ⟨Nat.le_trans (Nat.le_of_ble_eq_true rfl) hR1, Nat.le_trans (Nat.le_of_ble_eq_true rfl) hR2⟩) (su_pv hN hK hP hD [0, 1] [0, 1, 2] rfl rfl rfl (ci := 4) (q0 := 0) rfl rfl rfl) rfl rfl hl.1 rfl (lv_room (Nat.le_of_ble_eq_true rfl)) dX7_fill_1 ⟨Nat.le_trans (Nat.le_of_ble_eq_true rfl) hR3, Nat.le_trans (Nat.le_of_ble_eq_true rfl) hR4⟩) hP hD hS hA [0, 1] [2, 3] rfl rfl (by decide) (by decide) (fun uu H locs hw hP hD hS => ?_)
  have hP : va_P D vwCl [(h2, .inr (3, [.ref a2, .int (nI n)])), (a2, .inl (cI, 20, .inl (fN g))), (h, .inr (4, [.ref w])), (w, .inl (cI, 301, .inl (fN f0W)))] H := hP
  have hD : va_D A [(h2, .inr (3, [.ref a2, .int (nI n)])), (a2, .inl (cI, 20, .inl (fN g))), (h, .inr (4, [.ref w])), (w, .inl (cI, 301, .inl (fN f0W)))] := hD
  refine lv_iconst (v := nI 0) hx hb dX7_fill_4 (by decide) ?_
  refine lv_istore_n (lv' := [(3, .int (nI 0)), (0, .ref h), (1, .ref h2), (2, .int (bI false))]) hx hb dX7_fill_5 rfl hl (by decide) rfl (fun ls hl => ?_)
  have loop6 : ∀ (k6 : Nat) (i : Nat), (i ≤ n) → n - i < k6 → ∀ (H : Heap) (locs : List Loc), va_P D vwCl [(h2, .inr (3, [.ref a2, .int (nI n)])), (a2, .inl (cI, 20, .inl (fN g))), (h, .inr (4, [.ref w])), (w, .inl (cI, 301, .inl (fN (fiD opP f0W g i))))] H → va_D A [(h2, .inr (3, [.ref a2, .int (nI n)])), (a2, .inl (cI, 20, .inl (fN g))), (h, .inr (4, [.ref w])), (w, .inl (cI, 301, .inl (fN (fiD opP f0W g i))))] → va_S A s.heap H locs → ∀ ls : Array Slot, lv_has ls 4 [(3, .int (nI i)), (0, .ref h), (1, .ref h2), (2, .int (bI false))] → W p l e R s m args below meth c H locs 0 0 Q (F0 m 6 ls []) := by
    intro k6
    induction k6 with
    | zero => intro i hi hk; exact absurd hk (Nat.not_lt_zero _)
    | succ k6 ih6 =>
      intro i hi hk6 H locs hP hD hS ls hl
      refine lv_iload_n hx hb dX7_fill_6 rfl (lv_at hl 0 rfl) ?_
      refine lv_aload_n hx hb dX7_fill_7 rfl (lv_at hl 2 rfl) ?_
      refine va_getN (D := D) (ci := 3) (v := .int (nI n)) (C := RX3) (T := TX3) (N := 2) hx hb hts in_X3 hown hK hP 0 rfl rfl 1 (by decide) k_73 (fun _ h9 => h9) rfl dX7_fill_8 ?_
      refine lv_icmp_ge (tgt := 30) hx hb dX7_fill_11 (by decide) (fun c11 => ?_) (fun c11 => ?_)
      · have c11 : n ≤ i := su_ge (by omega) (by omega) c11
        obtain ⟨hP, hD⟩ := su_reI (q0 := 3) (fN (fiD opP f0W g n)) hP hD rfl (fun j _ => by rw [show n = i by omega])
        have hP : va_P D vwCl [(h2, .inr (3, [.ref a2, .int (nI n)])), (a2, .inl (cI, 20, .inl (fN g))), (h, .inr (4, [.ref w])), (w, .inl (cI, 301, .inl (fN (fiD opP f0W g n))))] H := hP
        have hD : va_D A [(h2, .inr (3, [.ref a2, .int (nI n)])), (a2, .inl (cI, 20, .inl (fN g))), (h, .inr (4, [.ref w])), (w, .inl (cI, 301, .inl (fN (fiD opP f0W g n))))] := hD
        rw [hQ]
        exact su_ev hx hb hr hlocks hS dX7_fill_30 () (trivial) (hP.sub [2, 3, 0, 1] rfl) (hD.sub [2, 3, 0, 1] (by decide) rfl)
      · have c11 : i < n := su_nge (by omega) (by omega) c11
        refine lv_aload_n hx hb dX7_fill_14 rfl (lv_at hl 1 rfl) ?_
        refine lv_aload_n hx hb dX7_fill_15 rfl (lv_at hl 2 rfl) ?_
        refine lv_iload_n hx hb dX7_fill_16 rfl (lv_at hl 0 rfl) ?_
        refine su_ci (wr := [(h, .inr (4, [.ref w])), (w, .inl (cI, 301, .inl (fN (fiD opP f0W g i))))]) (va_runV (As := [.int (nI i)]) (rest := [.ref h]) ⟨hx, hb, hml, hown, hts⟩ (k_numberAt l D cI cL cZ H.size (h2) (a2) (g) (n) (i) (hn) (c11)) (cwV 1 hts (lw_gV q_278 q_279 q_280 q_32 q_281) rfl rfl rfl (by decide +kernel) ⟨Nat.le_trans (Nat.le_of_ble_eq_true rfl) hR1, Nat.le_trans (Nat.le_of_ble_eq_true rfl) hR2⟩) (su_pv hN hK hP hD [0, 1] [0, 1, 2] rfl rfl rfl (ci := 3) (q0 := 0) rfl rfl rfl) rfl rfl hl.1 rfl (lv_room (Nat.le_of_ble_eq_true rfl)) dX7_fill_17 ⟨Nat.le_trans (Nat.le_of_ble_eq_true rfl) hR3, Nat.le_trans (Nat.le_of_ble_eq_true rfl) hR4⟩) hP hD hS hA [0, 1] [2, 3] rfl rfl (by decide) (by decide) (fun r uu H locs hw hP hD hS => ?_)
        obtain rfl : r = nI (g i) := hw
        have hP : va_P D vwCl [(h, .inr (4, [.ref w])), (w, .inl (cI, 301, .inl (fN (fiD opP f0W g i)))), (h2, .inr (3, [.ref a2, .int (nI n)])), (a2, .inl (cI, 20, .inl (fN g)))] H := hP
        have hD : va_D A [(h, .inr (4, [.ref w])), (w, .inl (cI, 301, .inl (fN (fiD opP f0W g i)))), (h2, .inr (3, [.ref a2, .int (nI n)])), (a2, .inl (cI, 20, .inl (fN g)))] := hD
        refine lv_iload_n hx hb dX7_fill_20 rfl (lv_at hl 3 rfl) ?_
        refine su_cv (wr := [(h2, .inr (3, [.ref a2, .int (nI n)])), (a2, .inl (cI, 20, .inl (fN g)))]) (va_runU (As := [.int (nI (g i)), .int (bI false)]) (rest := []) ⟨hx, hb, hml, hown, hts⟩ (k_takePD l D cI cL cZ H.size (h) (w) (fiD opP f0W g i) (g i) ((hg i c11).1) ((hg i c11).2)) (va_cwU 2 hts (lw_gU q_286 q_1238 q_s4 q_288 q_35 q_289) rfl rfl rfl rfl (by decide +kernel) ⟨Nat.le_trans (Nat.le_of_ble_eq_true rfl) hR1, Nat.le_trans (Nat.le_of_ble_eq_true rfl) hR2⟩) (su_pv hN hK hP hD [0, 1] [0, 1, 2] rfl rfl rfl (ci := 4) (q0 := 0) rfl rfl rfl) rfl rfl hl.1 rfl (lv_room (Nat.le_of_ble_eq_true rfl)) dX7_fill_21 ⟨Nat.le_trans (Nat.le_of_ble_eq_true rfl) hR3, Nat.le_trans (Nat.le_of_ble_eq_true rfl) hR4⟩) hP hD hS hA [0, 1] [2, 3] rfl rfl (by decide) (by decide) (fun uu H locs hw hP hD hS => ?_)
        have hP : va_P D vwCl [(h2, .inr (3, [.ref a2, .int (nI n)])), (a2, .inl (cI, 20, .inl (fN g))), (h, .inr (4, [.ref w])), (w, .inl (cI, 301, .inl (fN (dnT opP (g i) (fiD opP f0W g i)))))] H := hP
        have hD : va_D A [(h2, .inr (3, [.ref a2, .int (nI n)])), (a2, .inl (cI, 20, .inl (fN g))), (h, .inr (4, [.ref w])), (w, .inl (cI, 301, .inl (fN (dnT opP (g i) (fiD opP f0W g i)))))] := hD
        refine lv_iinc (v := nI (i + 1)) (lv' := [(3, .int (nI (i + 1))), (0, .ref h), (1, .ref h2), (2, .int (bI false))]) hx hb dX7_fill_24 hl (k := 0) rfl (su_inc _) (by decide) rfl (fun ls hl => ?_)
        refine lv_goto (tgt := 6) hx hb dX7_fill_27 (by decide) ?_
        exact ih6 (i + 1) (by omega) (by omega) _ _ hP hD hS _ (lv_sub hl [0, 1, 2, 3] rfl)
  exact loop6 ((n - (0)) + 1) (0) (by omega) (by omega) _ _ hP hD hS _ (lv_sub hl [0, 1, 2, 3] rfl)
set_option maxHeartbeats 4000000 in
set_option maxRecDepth 100000 in
theorem k_beginS (l : Launch) (D : va_G) (cI cL cZ : ClassId) (sz : Nat) (h : Nat) (w : Nat) (fr : Nat → Int32) :
    Met l yX5_begin (ws_ yX5_begin cX5_begin 2 none) { frames := 0, cells := 0, slots := 0, locals := 0 } (su_pre D (su_T cI cL cZ) sz [(h, .inr (5, [.ref w])), (w, .inl (cZ, 301, .inl fr))] [.ref h]) (su_qv D (va_A [(h, .inr (5, [.ref w])), (w, .inl (cZ, 301, .inl fr))] sz) (fun (uu : Unit) => True) (fun (uu : Unit) => [(h, .inr (5, [.ref w])), (w, .inl (cZ, 301, .inl (fB f0S)))])) 0 0 (va_A [(h, .inr (5, [.ref w])), (w, .inl (cZ, 301, .inl fr))] sz) := by
  refine su_met (Qf := fun A => su_qv D A (fun (uu : Unit) => True) (fun (uu : Unit) => [(h, .inr (5, [.ref w])), (w, .inl (cZ, 301, .inl (fB f0S)))])) (cc := cX5_begin) (maxL := 2) (ret := none) (by decide) (Nat.le_of_ble_eq_true rfl) ?_
  intro p e s m args below meth c R Q A H locs ls hx hb hr hlocks hin hml hown hts hN hP hK hD hA hS hRm hQ hl
  have hown : s.vm.findClass RX5 = some m.cls := hown
  have hl : lv_has ls 2 [(0, .ref h)] := hl
  have hR3 : 0 ≤ R.cells := by rw [hRm]; exact Nat.le_of_ble_eq_true rfl
  have hR4 : 0 ≤ R.slots := by rw [hRm]; exact Nat.le_of_ble_eq_true rfl
  have k_163 := hts _ q_163
  refine lv_iconst (v := nI 0) hx hb dX5_begin_0 (by decide) ?_
  refine lv_istore_n (lv' := [(1, .int (nI 0)), (0, .ref h)]) hx hb dX5_begin_1 rfl hl (by decide) rfl (fun ls hl => ?_)
  have loop2 : ∀ (k2 : Nat) (i : Nat), (i ≤ 301) → 301 - i < k2 → ∀ (H : Heap) (locs : List Loc), va_P D vwCl [(h, .inr (5, [.ref w])), (w, .inl (cZ, 301, .inl (su_fl (fB f0S) fr i)))] H → va_D A [(h, .inr (5, [.ref w])), (w, .inl (cZ, 301, .inl (su_fl (fB f0S) fr i)))] → va_S A s.heap H locs → ∀ ls : Array Slot, lv_has ls 2 [(1, .int (nI i)), (0, .ref h)] → W p l e R s m args below meth c H locs 0 0 Q (F0 m 2 ls []) := by
    intro k2
    induction k2 with
    | zero => intro i hi hk; exact absurd hk (Nat.not_lt_zero _)
    | succ k2 ih2 =>
      intro i hi hk2 H locs hP hD hS ls hl
      refine lv_iload_n hx hb dX5_begin_2 rfl (lv_at hl 0 rfl) ?_
      refine lv_sipush (v := nI 300) hx hb dX5_begin_3 (by decide) ?_
      refine lv_icmp_gt (tgt := 30) hx hb dX5_begin_6 (by decide) (fun c6 => ?_) (fun c6 => ?_)
      · have c6 : 300 < i := su_lt (by omega) (by omega) c6
        obtain ⟨hP, hD⟩ := su_reI (q0 := 1) (fB f0S) hP hD rfl (fun j hj => su_flN (by omega))
        have hP : va_P D vwCl [(h, .inr (5, [.ref w])), (w, .inl (cZ, 301, .inl (fB f0S)))] H := hP
        have hD : va_D A [(h, .inr (5, [.ref w])), (w, .inl (cZ, 301, .inl (fB f0S)))] := hD
        rw [hQ]
        exact su_ev hx hb hr hlocks hS dX5_begin_30 () (trivial) hP hD
      · have c6 : i ≤ 300 := su_nlt (by omega) (by omega) c6
        refine lv_aload_n hx hb dX5_begin_9 rfl (lv_at hl 1 rfl) ?_
        refine va_get (D := D) (ci := 5) (v := .ref w) (C := RX5) (T := TX5) (N := 1) hx hb hts in_X5 hown hK hP 0 rfl rfl 0 (by decide) k_163 (fun _ h9 => h9) rfl dX5_begin_10 ?_
        refine lv_iload_n hx hb dX5_begin_13 rfl (lv_at hl 0 rfl) ?_
        refine lv_iload_n hx hb dX5_begin_14 rfl (lv_at hl 0 rfl) ?_
        refine lv_if_ne (tgt := 22) hx hb dX5_begin_15 (by decide) (fun c15 => ?_) (fun c15 => ?_)
        · have c15 : i ≠ 0 := su_nz c15
          refine lv_iconst (v := nI 0) hx hb dX5_begin_22 (by decide) ?_
          refine su_zast hx hb hK hP hD hS 1 2 rfl rfl (i := i) (by omega) (by decide) (by decide) (va_up (su_fl (fB f0S) fr i) i (nI 0)) (fun _ _ => rfl) dX5_begin_23 (fun H locs hP hD hS => ?_)
          have hP : va_P D vwCl [(h, .inr (5, [.ref w])), (w, .inl (cZ, 301, .inl (va_up (su_fl (fB f0S) fr i) i (nI 0))))] H := hP
          have hD : va_D A [(h, .inr (5, [.ref w])), (w, .inl (cZ, 301, .inl (va_up (su_fl (fB f0S) fr i) i (nI 0))))] := hD
          refine lv_iinc (v := nI (i + 1)) (lv' := [(1, .int (nI (i + 1))), (0, .ref h)]) hx hb dX5_begin_24 hl (k := 0) rfl (su_inc _) (by decide) rfl (fun ls hl => ?_)
          refine lv_goto (tgt := 2) hx hb dX5_begin_27 (by decide) ?_
          obtain ⟨hP, hD⟩ := su_reI (q0 := 1) (su_fl (fB f0S) fr (i + 1)) hP hD rfl (fun j _ => su_flS (by first | exact be_S1 c15 | exact be_S0 c15) j)
          have hP : va_P D vwCl [(h, .inr (5, [.ref w])), (w, .inl (cZ, 301, .inl (su_fl (fB f0S) fr (i + 1))))] H := hP
          have hD : va_D A [(h, .inr (5, [.ref w])), (w, .inl (cZ, 301, .inl (su_fl (fB f0S) fr (i + 1))))] := hD
          exact ih2 (i + 1) (by omega) (by omega) _ _ hP hD hS _ (lv_sub hl [0, 1] rfl)
        · have c15 : i = 0 := su_z (by omega) c15
          refine lv_iconst (v := nI 1) hx hb dX5_begin_18 (by decide) ?_
          refine lv_goto (tgt := 23) hx hb dX5_begin_19 (by decide) ?_
          refine su_zast hx hb hK hP hD hS 1 2 rfl rfl (i := i) (by omega) (by decide) (by decide) (va_up (su_fl (fB f0S) fr i) i (nI 1)) (fun _ _ => rfl) dX5_begin_23 (fun H locs hP hD hS => ?_)
          have hP : va_P D vwCl [(h, .inr (5, [.ref w])), (w, .inl (cZ, 301, .inl (va_up (su_fl (fB f0S) fr i) i (nI 1))))] H := hP
          have hD : va_D A [(h, .inr (5, [.ref w])), (w, .inl (cZ, 301, .inl (va_up (su_fl (fB f0S) fr i) i (nI 1))))] := hD
          refine lv_iinc (v := nI (i + 1)) (lv' := [(1, .int (nI (i + 1))), (0, .ref h)]) hx hb dX5_begin_24 hl (k := 0) rfl (su_inc _) (by decide) rfl (fun ls hl => ?_)
          refine lv_goto (tgt := 2) hx hb dX5_begin_27 (by decide) ?_
          obtain ⟨hP, hD⟩ := su_reI (q0 := 1) (su_fl (fB f0S) fr (i + 1)) hP hD rfl (fun j _ => su_flS (by first | exact be_S1 c15 | exact be_S0 c15) j)
          have hP : va_P D vwCl [(h, .inr (5, [.ref w])), (w, .inl (cZ, 301, .inl (su_fl (fB f0S) fr (i + 1))))] H := hP
          have hD : va_D A [(h, .inr (5, [.ref w])), (w, .inl (cZ, 301, .inl (su_fl (fB f0S) fr (i + 1))))] := hD
          exact ih2 (i + 1) (by omega) (by omega) _ _ hP hD hS _ (lv_sub hl [0, 1] rfl)
  obtain ⟨hP, hD⟩ := su_reI (q0 := 1) (su_fl (fB f0S) fr (0)) hP hD rfl (fun j _ => su_fl0 j)
  have hP : va_P D vwCl [(h, .inr (5, [.ref w])), (w, .inl (cZ, 301, .inl (su_fl (fB f0S) fr (0))))] H := hP
  have hD : va_D A [(h, .inr (5, [.ref w])), (w, .inl (cZ, 301, .inl (su_fl (fB f0S) fr (0))))] := hD
  exact loop2 ((301 - (0)) + 1) (0) (by omega) (by omega) _ _ hP hD hS _ (lv_sub hl [0, 1] rfl)
set_option maxHeartbeats 4000000 in
set_option maxRecDepth 100000 in
theorem k_carryS (l : Launch) (D : va_G) (cI cL cZ : ClassId) (sz : Nat) (h : Nat) (w : Nat) (f : Nat → Bool) (u : Nat) (v : Nat) (hu : u ≤ 300) (hv : v ≤ 300) :
    Met l yX5_carry (ws_ yX5_carry cX5_carry 3 none) { frames := 1, cells := 0, slots := 0, locals := 30 } (su_pre D (su_T cI cL cZ) sz [(h, .inr (5, [.ref w])), (w, .inl (cZ, 301, .inl (fB f)))] [.ref h, .int (nI u), .int (nI v)]) (su_qv D (va_A [(h, .inr (5, [.ref w])), (w, .inl (cZ, 301, .inl (fB f)))] sz) (fun (uu : Unit) => True) (fun (uu : Unit) => [(h, .inr (5, [.ref w])), (w, .inl (cZ, 301, .inl (fB (va_up f v (opS (f v) (f u))))))])) 0 0 (va_A [(h, .inr (5, [.ref w])), (w, .inl (cZ, 301, .inl (fB f)))] sz) := by
  refine su_met (y := yX5_carry) (av := [.ref h, .int (nI u), .int (nI v)]) (Qf := fun A => su_qv D A (fun (uu : Unit) => True) (fun (uu : Unit) => [(h, .inr (5, [.ref w])), (w, .inl (cZ, 301, .inl (fB (va_up f v (opS (f v) (f u))))))])) (cc := cX5_carry) (maxL := 3) (ret := none) (by decide) (Nat.le_of_ble_eq_true rfl) ?_
  intro p e s m args below meth c R Q A H locs ls hx hb hr hlocks hin hml hown hts hN hP hK hD hA hS hRm hQ hl
  have hown : s.vm.findClass RX5 = some m.cls := hown
  have hl : lv_has ls 3 [(0, .ref h), (1, .int (nI u)), (2, .int (nI v))] := hl
  have hR1 : 1 ≤ R.frames := by rw [hRm]; exact Nat.le_of_ble_eq_true rfl
  have hR2 : 30 ≤ R.locals := by rw [hRm]; exact Nat.le_of_ble_eq_true rfl
  have hR3 : 0 ≤ R.cells := by rw [hRm]; exact Nat.le_of_ble_eq_true rfl
  have hR4 : 0 ≤ R.slots := by rw [hRm]; exact Nat.le_of_ble_eq_true rfl
  have k_163 := hts _ q_163
  refine lv_iload_n hx hb dX5_carry_0 rfl (lv_at hl 1 rfl) ?_
  refine su_ci (wr := [(h, .inr (5, [.ref w])), (w, .inl (cZ, 301, .inl (fB f)))]) (su_runSI (As := [.int (nI u)]) (rest := []) ⟨hx, hb, hml, hown, hts⟩ (k_isCell l D cI cL cZ H.size (u) (hu)) (hts _ q_311) (hts _ q_312) (hts _ q_298) (hts _ q_35) (hts _ q_299) (lw_gC q_299) rfl rfl rfl 1 rfl (by decide +kernel) ⟨Nat.le_trans (Nat.le_of_ble_eq_true rfl) hR1, Nat.le_trans (Nat.le_of_ble_eq_true rfl) hR2⟩ (su_ps hN hK hP hD [] [0, 1, 2] rfl rfl rfl) rfl rfl hl.1 rfl (lv_room (Nat.le_of_ble_eq_true rfl)) dX5_carry_1 ⟨Nat.le_trans (Nat.le_of_ble_eq_true rfl) hR3, Nat.le_trans (Nat.le_of_ble_eq_true rfl) hR4⟩) hP hD hS hA [] [0, 1] rfl rfl (by decide) (by decide) (fun r uu H locs hw hP hD hS => ?_)
  obtain rfl : r = bI true := hw
  have hP : va_P D vwCl [(h, .inr (5, [.ref w])), (w, .inl (cZ, 301, .inl (fB f)))] H := hP
  have hD : va_D A [(h, .inr (5, [.ref w])), (w, .inl (cZ, 301, .inl (fB f)))] := hD
  refine lv_if_eq (tgt := 30) hx hb dX5_carry_4 (by decide) (fun c4 => ?_) (fun c4 => ?_)
  · have c4 : true = false := bI_e c4
    exact absurd c4 (by decide)
  · have c4 : true = true := bI_n c4
    refine lv_iload_n hx hb dX5_carry_7 rfl (lv_at hl 2 rfl) ?_
    refine su_ci (wr := [(h, .inr (5, [.ref w])), (w, .inl (cZ, 301, .inl (fB f)))]) (su_runSI (As := [.int (nI v)]) (rest := []) ⟨hx, hb, hml, hown, hts⟩ (k_isCell l D cI cL cZ H.size (v) (hv)) (hts _ q_311) (hts _ q_312) (hts _ q_298) (hts _ q_35) (hts _ q_299) (lw_gC q_299) rfl rfl rfl 1 rfl (by decide +kernel) ⟨Nat.le_trans (Nat.le_of_ble_eq_true rfl) hR1, Nat.le_trans (Nat.le_of_ble_eq_true rfl) hR2⟩ (su_ps hN hK hP hD [] [0, 1, 2] rfl rfl rfl) rfl rfl hl.1 rfl (lv_room (Nat.le_of_ble_eq_true rfl)) dX5_carry_8 ⟨Nat.le_trans (Nat.le_of_ble_eq_true rfl) hR3, Nat.le_trans (Nat.le_of_ble_eq_true rfl) hR4⟩) hP hD hS hA [] [0, 1] rfl rfl (by decide) (by decide) (fun r uu H locs hw hP hD hS => ?_)
    obtain rfl : r = bI true := hw
    have hP : va_P D vwCl [(h, .inr (5, [.ref w])), (w, .inl (cZ, 301, .inl (fB f)))] H := hP
    have hD : va_D A [(h, .inr (5, [.ref w])), (w, .inl (cZ, 301, .inl (fB f)))] := hD
    refine lv_if_eq (tgt := 30) hx hb dX5_carry_11 (by decide) (fun c11 => ?_) (fun c11 => ?_)
    · have c11 : true = false := bI_e c11
      exact absurd c11 (by decide)
    · have c11 : true = true := bI_n c11
      refine lv_aload_n hx hb dX5_carry_14 rfl (lv_at hl 0 rfl) ?_
      refine va_get (D := D) (ci := 5) (v := .ref w) (C := RX5) (T := TX5) (N := 1) hx hb hts in_X5 hown hK hP 0 rfl rfl 0 (by decide) k_163 (fun _ h9 => h9) rfl dX5_carry_15 ?_
      refine lv_iload_n hx hb dX5_carry_18 rfl (lv_at hl 1 rfl) ?_
      refine su_zald hx hb hK hP 1 2 rfl rfl (i := u) (by omega) (by decide) (bI (f u)) (rfl) dX5_carry_19 ?_
      refine lv_if_eq (tgt := 30) hx hb dX5_carry_20 (by decide) (fun c20 => ?_) (fun c20 => ?_)
      · have c20 : f u = false := bI_e c20
        obtain ⟨hP, hD⟩ := su_reI (q0 := 1) (fB (va_up f v (opS (f v) (f u)))) hP hD rfl (fun j _ => by first | (rw [c20, opS, Bool.or_true]) | (rw [c20, opS, Bool.or_false]; unfold fB va_up; by_cases q9 : j = v; rw [q9, if_pos rfl]; rw [if_neg q9]))
        have hP : va_P D vwCl [(h, .inr (5, [.ref w])), (w, .inl (cZ, 301, .inl (fB (va_up f v (opS (f v) (f u))))))] H := hP
        have hD : va_D A [(h, .inr (5, [.ref w])), (w, .inl (cZ, 301, .inl (fB (va_up f v (opS (f v) (f u))))))] := hD
        rw [hQ]
        exact su_ev hx hb hr hlocks hS dX5_carry_30 () (trivial) hP hD
      · have c20 : f u = true := bI_n c20
        refine lv_aload_n hx hb dX5_carry_23 rfl (lv_at hl 0 rfl) ?_
        refine va_get (D := D) (ci := 5) (v := .ref w) (C := RX5) (T := TX5) (N := 1) hx hb hts in_X5 hown hK hP 0 rfl rfl 0 (by decide) k_163 (fun _ h9 => h9) rfl dX5_carry_24 ?_
        refine lv_iload_n hx hb dX5_carry_27 rfl (lv_at hl 2 rfl) ?_
        refine lv_iconst (v := nI 1) hx hb dX5_carry_28 (by decide) ?_
        refine su_eqi (bI true) (by decide) ?_
        refine su_zast hx hb hK hP hD hS 1 2 rfl rfl (i := v) (by omega) (by decide) (bI_01 _) (fB (va_up f v true)) (fun j _ => su_upB _ _ _ j) dX5_carry_29 (fun H locs hP hD hS => ?_)
        have hP : va_P D vwCl [(h, .inr (5, [.ref w])), (w, .inl (cZ, 301, .inl (fB (va_up f v true))))] H := hP
        have hD : va_D A [(h, .inr (5, [.ref w])), (w, .inl (cZ, 301, .inl (fB (va_up f v true))))] := hD
        obtain ⟨hP, hD⟩ := su_reI (q0 := 1) (fB (va_up f v (opS (f v) (f u)))) hP hD rfl (fun j _ => by first | (rw [c20, opS, Bool.or_true]) | (rw [c20, opS, Bool.or_false]; unfold fB va_up; by_cases q9 : j = v; rw [q9, if_pos rfl]; rw [if_neg q9]))
        have hP : va_P D vwCl [(h, .inr (5, [.ref w])), (w, .inl (cZ, 301, .inl (fB (va_up f v (opS (f v) (f u))))))] H := hP
        have hD : va_D A [(h, .inr (5, [.ref w])), (w, .inl (cZ, 301, .inl (fB (va_up f v (opS (f v) (f u))))))] := hD
        rw [hQ]
        exact su_ev hx hb hr hlocks hS dX5_carry_30 () (trivial) hP hD
set_option maxHeartbeats 4000000 in
set_option maxRecDepth 100000 in
theorem k_takeSD (l : Launch) (D : va_G) (cI cL cZ : ClassId) (sz : Nat) (h : Nat) (w : Nat) (f : Nat → Bool) (num : Nat) (h1 : 1 ≤ num) (h3 : num ≤ 300) :
    Met l yX7_take (ws_ yX7_take cX7_take 4 none) { frames := 2, cells := 0, slots := 0, locals := 60 } (su_pre D (su_T cI cL cZ) sz [(h, .inr (5, [.ref w])), (w, .inl (cZ, 301, .inl (fB f)))] [.ref h, .int (nI num), .int (bI false)]) (su_qv D (va_A [(h, .inr (5, [.ref w])), (w, .inl (cZ, 301, .inl (fB f)))] sz) (fun (uu : Unit) => True) (fun (uu : Unit) => [(h, .inr (5, [.ref w])), (w, .inl (cZ, 301, .inl (fB (dnT opS num f))))])) 0 0 (va_A [(h, .inr (5, [.ref w])), (w, .inl (cZ, 301, .inl (fB f)))] sz) := by
  refine su_met (Qf := fun A => su_qv D A (fun (uu : Unit) => True) (fun (uu : Unit) => [(h, .inr (5, [.ref w])), (w, .inl (cZ, 301, .inl (fB (dnT opS num f))))])) (cc := cX7_take) (maxL := 4) (ret := none) (by decide) (Nat.le_of_ble_eq_true rfl) ?_
  intro p e s m args below meth c R Q A H locs ls hx hb hr hlocks hin hml hown hts hN hP hK hD hA hS hRm hQ hl
  have hown : s.vm.findClass RX7 = some m.cls := hown
  have hl : lv_has ls 4 [(0, .ref h), (1, .int (nI num)), (2, .int (bI false))] := hl
  have hR1 : 2 ≤ R.frames := by rw [hRm]; exact Nat.le_of_ble_eq_true rfl
  have hR2 : 60 ≤ R.locals := by rw [hRm]; exact Nat.le_of_ble_eq_true rfl
  have hR3 : 0 ≤ R.cells := by rw [hRm]; exact Nat.le_of_ble_eq_true rfl
  have hR4 : 0 ≤ R.slots := by rw [hRm]; exact Nat.le_of_ble_eq_true rfl
  refine lv_iload_n hx hb dX7_take_0 rfl (lv_at hl 1 rfl) ?_
  refine lv_iconst (v := nI 1) hx hb dX7_take_1 (by decide) ?_
  refine lv_icmp_lt (tgt := 12) hx hb dX7_take_2 (by decide) (fun c2 => ?_) (fun c2 => ?_)
  · have c2 : num < 1 := su_lt (by omega) (by omega) c2
    omega
  · have c2 : 1 ≤ num := su_nlt (by omega) (by omega) c2
    refine lv_iload_n hx hb dX7_take_5 rfl (lv_at hl 1 rfl) ?_
    refine lv_sipush (v := nI 300) hx hb dX7_take_6 (by decide) ?_
    refine lv_icmp_le (tgt := 13) hx hb dX7_take_9 (by decide) (fun c9 => ?_) (fun c9 => ?_)
    · have c9 : num ≤ 300 := su_ge (by omega) (by omega) c9
      refine lv_iload_n hx hb dX7_take_13 rfl (lv_at hl 2 rfl) ?_
      refine lv_if_eq (tgt := 43) hx hb dX7_take_14 (by decide) (fun c14 => ?_) (fun c14 => ?_)
      · have c14 : false = false := bI_e c14
        refine lv_sipush (v := nI 300) hx hb dX7_take_43 (by decide) ?_
        refine lv_istore_n (lv' := [(3, .int (nI 300)), (0, .ref h), (1, .int (nI num)), (2, .int (bI false))]) hx hb dX7_take_46 rfl hl (by decide) rfl (fun ls hl => ?_)
        have loop47 : ∀ (k47 : Nat) (t : Nat), (t ≤ 300) → (num ≤ t + 1) → t < k47 → ∀ (H : Heap) (locs : List Loc), va_P D vwCl [(h, .inr (5, [.ref w])), (w, .inl (cZ, 301, .inl (fB (dnP opS num f t))))] H → va_D A [(h, .inr (5, [.ref w])), (w, .inl (cZ, 301, .inl (fB (dnP opS num f t))))] → va_S A s.heap H locs → ∀ ls : Array Slot, lv_has ls 4 [(3, .int (nI t)), (0, .ref h), (1, .int (nI num)), (2, .int (bI false))] → W p l e R s m args below meth c H locs 0 0 Q (F0 m 47 ls []) := by
          intro k47
          induction k47 with
          | zero => intro t ht ht2 hk; exact absurd hk (Nat.not_lt_zero _)
          | succ k47 ih47 =>
            intro t ht ht2 hk47 H locs hP hD hS ls hl
            refine lv_iload_n hx hb dX7_take_47 rfl (lv_at hl 0 rfl) ?_
            refine lv_iload_n hx hb dX7_take_48 rfl (lv_at hl 2 rfl) ?_
            refine lv_icmp_lt (tgt := 66) hx hb dX7_take_49 (by decide) (fun c49 => ?_) (fun c49 => ?_)
            · have c49 : t < num := su_lt (by omega) (by omega) c49
              obtain ⟨hP, hD⟩ := su_reI (q0 := 1) (fB (dnT opS num f)) hP hD rfl (fun j _ => by simp only [fB]; rw [dnP_T (by omega)])
              have hP : va_P D vwCl [(h, .inr (5, [.ref w])), (w, .inl (cZ, 301, .inl (fB (dnT opS num f))))] H := hP
              have hD : va_D A [(h, .inr (5, [.ref w])), (w, .inl (cZ, 301, .inl (fB (dnT opS num f))))] := hD
              rw [hQ]
              exact su_ev hx hb hr hlocks hS dX7_take_66 () (trivial) hP hD
            · have c49 : num ≤ t := su_nlt (by omega) (by omega) c49
              refine lv_aload_n hx hb dX7_take_52 rfl (lv_at hl 1 rfl) ?_
              refine lv_iload_n hx hb dX7_take_53 rfl (lv_at hl 0 rfl) ?_
              refine lv_iload_n hx hb dX7_take_54 rfl (lv_at hl 2 rfl) ?_
              refine lv_isub hx hb dX7_take_55 ?_
              refine su_eqi (nI (t - num)) (pk_sub (by omega)) ?_
              refine lv_iload_n hx hb dX7_take_56 rfl (lv_at hl 0 rfl) ?_
              refine su_cv (wr := []) (va_runU (As := [.int (nI (t - num)), .int (nI t)]) (rest := []) ⟨hx, hb, hml, hown, hts⟩ (k_carryS l D cI cL cZ H.size (h) (w) (dnP opS num f t) (t - num) (t) (by omega) (by omega)) (va_cwA 2 hts (lw_gU q_290 q_292 q_308 q_309 q_40 q_310) rfl rfl rfl (hN _ q_291) (by decide +kernel) ⟨Nat.le_trans (Nat.le_of_ble_eq_true rfl) hR1, Nat.le_trans (Nat.le_of_ble_eq_true rfl) hR2⟩) (su_pv hN hK hP hD [0, 1] [0, 1, 2] rfl rfl rfl (ci := 5) (q0 := 0) rfl rfl rfl) rfl rfl hl.1 rfl (lv_room (Nat.le_of_ble_eq_true rfl)) dX7_take_57 ⟨Nat.le_trans (Nat.le_of_ble_eq_true rfl) hR3, Nat.le_trans (Nat.le_of_ble_eq_true rfl) hR4⟩) hP hD hS hA [0, 1] [] rfl rfl (by decide) (by decide) (fun uu H locs hw hP hD hS => ?_)
              have hP : va_P D vwCl [(h, .inr (5, [.ref w])), (w, .inl (cZ, 301, .inl (fB (va_up (dnP opS num f t) t (opS ((dnP opS num f t) t) ((dnP opS num f t) (t - num)))))))] H := hP
              have hD : va_D A [(h, .inr (5, [.ref w])), (w, .inl (cZ, 301, .inl (fB (va_up (dnP opS num f t) t (opS ((dnP opS num f t) t) ((dnP opS num f t) (t - num)))))))] := hD
              refine lv_iinc (v := nI (t - 1)) (lv' := [(3, .int (nI (t - 1))), (0, .ref h), (1, .int (nI num)), (2, .int (bI false))]) hx hb dX7_take_60 hl (k := 0) rfl (sb_m1 (by omega)) (by decide) rfl (fun ls hl => ?_)
              refine lv_goto (tgt := 47) hx hb dX7_take_63 (by decide) ?_
              obtain ⟨hP, hD⟩ := su_reI (q0 := 1) (fB (dnP opS num f (t - 1))) hP hD rfl (fun j _ => by simp only [fB]; exact congrArg _ (dnP_S h1 (by omega) ht j))
              have hP : va_P D vwCl [(h, .inr (5, [.ref w])), (w, .inl (cZ, 301, .inl (fB (dnP opS num f (t - 1)))))] H := hP
              have hD : va_D A [(h, .inr (5, [.ref w])), (w, .inl (cZ, 301, .inl (fB (dnP opS num f (t - 1)))))] := hD
              exact ih47 (t - 1) (by omega) (by omega) (by omega) _ _ hP hD hS _ (lv_sub hl [0, 1, 2, 3] rfl)
        obtain ⟨hP, hD⟩ := su_reI (q0 := 1) (fB (dnP opS num f (300))) hP hD rfl (fun j _ => by simp only [fB]; rw [← dnP_0])
        have hP : va_P D vwCl [(h, .inr (5, [.ref w])), (w, .inl (cZ, 301, .inl (fB (dnP opS num f (300)))))] H := hP
        have hD : va_D A [(h, .inr (5, [.ref w])), (w, .inl (cZ, 301, .inl (fB (dnP opS num f (300)))))] := hD
        exact loop47 (((300)) + 1) (300) (by omega) (by omega) (by omega) _ _ hP hD hS _ (lv_sub hl [0, 1, 2, 3] rfl)
      · have c14 : false = true := bI_n c14
        exact absurd c14 (by decide)
    · have c9 : 300 < num := su_nge (by omega) (by omega) c9
      omega
set_option maxHeartbeats 4000000 in
set_option maxRecDepth 100000 in
theorem k_fillSD (l : Launch) (D : va_G) (cI cL cZ : ClassId) (sz : Nat) (h : Nat) (w : Nat) (fr : Nat → Int32) (h2 : Nat) (a2 : Nat) (g : Nat → Nat) (n : Nat) (hn : n ≤ 20) (hg : ∀ k, k < n → 1 ≤ g k ∧ g k ≤ 300) :
    Met l yX7_fill (ws_ yX7_fill cX7_fill 4 none) { frames := 3, cells := 0, slots := 0, locals := 90 } (su_pre D (su_T cI cL cZ) sz [(h, .inr (5, [.ref w])), (w, .inl (cZ, 301, .inl fr)), (h2, .inr (3, [.ref a2, .int (nI n)])), (a2, .inl (cI, 20, .inl (fN g)))] [.ref h, .ref h2, .int (bI false)]) (su_qv D (va_A [(h, .inr (5, [.ref w])), (w, .inl (cZ, 301, .inl fr)), (h2, .inr (3, [.ref a2, .int (nI n)])), (a2, .inl (cI, 20, .inl (fN g)))] sz) (fun (uu : Unit) => True) (fun (uu : Unit) => [(h, .inr (5, [.ref w])), (w, .inl (cZ, 301, .inl (fB (fiD opS f0S g n)))), (h2, .inr (3, [.ref a2, .int (nI n)])), (a2, .inl (cI, 20, .inl (fN g)))])) 0 0 (va_A [(h, .inr (5, [.ref w])), (w, .inl (cZ, 301, .inl fr)), (h2, .inr (3, [.ref a2, .int (nI n)])), (a2, .inl (cI, 20, .inl (fN g)))] sz) := by
  refine su_met (Qf := fun A => su_qv D A (fun (uu : Unit) => True) (fun (uu : Unit) => [(h, .inr (5, [.ref w])), (w, .inl (cZ, 301, .inl (fB (fiD opS f0S g n)))), (h2, .inr (3, [.ref a2, .int (nI n)])), (a2, .inl (cI, 20, .inl (fN g)))])) (cc := cX7_fill) (maxL := 4) (ret := none) (by decide) (Nat.le_of_ble_eq_true rfl) ?_
  intro p e s m args below meth c R Q A H locs ls hx hb hr hlocks hin hml hown hts hN hP hK hD hA hS hRm hQ hl
  have hown : s.vm.findClass RX7 = some m.cls := hown
  have hl : lv_has ls 4 [(0, .ref h), (1, .ref h2), (2, .int (bI false))] := hl
  have hR1 : 3 ≤ R.frames := by rw [hRm]; exact Nat.le_of_ble_eq_true rfl
  have hR2 : 90 ≤ R.locals := by rw [hRm]; exact Nat.le_of_ble_eq_true rfl
  have hR3 : 0 ≤ R.cells := by rw [hRm]; exact Nat.le_of_ble_eq_true rfl
  have hR4 : 0 ≤ R.slots := by rw [hRm]; exact Nat.le_of_ble_eq_true rfl
  have k_73 := va_Nw.use (A := args) rfl (hN _ q_73)
  refine lv_aload_n hx hb dX7_fill_0 rfl (lv_at hl 0 rfl) ?_
  refine su_cv (wr := [(h2, .inr (3, [.ref a2, .int (nI n)])), (a2, .inl (cI, 20, .inl (fN g)))]) (va_runU (As := []) (rest := []) ⟨hx, hb, hml, hown, hts⟩ (k_beginS l D cI cL cZ H.size (h) (w) (fr) ) (va_cwA 0 hts (lw_gU q_263 q_265 q_272 q_273 q_40 q_274) rfl rfl rfl (hN _ q_264) (by decide +kernel) ⟨Nat.le_trans (Nat.le_of_ble_eq_true rfl) hR1, Nat.le_trans (Nat.le_of_ble_eq_true rfl) hR2⟩) (su_pv hN hK hP hD [0, 1] [0, 1, 2] rfl rfl rfl (ci := 5) (q0 := 0) rfl rfl rfl) rfl rfl hl.1 rfl (lv_room (Nat.le_of_ble_eq_true rfl)) dX7_fill_1 ⟨Nat.le_trans (Nat.le_of_ble_eq_true rfl) hR3, Nat.le_trans (Nat.le_of_ble_eq_true rfl) hR4⟩) hP hD hS hA [0, 1] [2, 3] rfl rfl (by decide) (by decide) (fun uu H locs hw hP hD hS => ?_)
  have hP : va_P D vwCl [(h2, .inr (3, [.ref a2, .int (nI n)])), (a2, .inl (cI, 20, .inl (fN g))), (h, .inr (5, [.ref w])), (w, .inl (cZ, 301, .inl (fB f0S)))] H := hP
  have hD : va_D A [(h2, .inr (3, [.ref a2, .int (nI n)])), (a2, .inl (cI, 20, .inl (fN g))), (h, .inr (5, [.ref w])), (w, .inl (cZ, 301, .inl (fB f0S)))] := hD
  refine lv_iconst (v := nI 0) hx hb dX7_fill_4 (by decide) ?_
  refine lv_istore_n (lv' := [(3, .int (nI 0)), (0, .ref h), (1, .ref h2), (2, .int (bI false))]) hx hb dX7_fill_5 rfl hl (by decide) rfl (fun ls hl => ?_)
  have loop6 : ∀ (k6 : Nat) (i : Nat), (i ≤ n) → n - i < k6 → ∀ (H : Heap) (locs : List Loc), va_P D vwCl [(h2, .inr (3, [.ref a2, .int (nI n)])), (a2, .inl (cI, 20, .inl (fN g))), (h, .inr (5, [.ref w])), (w, .inl (cZ, 301, .inl (fB (fiD opS f0S g i))))] H → va_D A [(h2, .inr (3, [.ref a2, .int (nI n)])), (a2, .inl (cI, 20, .inl (fN g))), (h, .inr (5, [.ref w])), (w, .inl (cZ, 301, .inl (fB (fiD opS f0S g i))))] → va_S A s.heap H locs → ∀ ls : Array Slot, lv_has ls 4 [(3, .int (nI i)), (0, .ref h), (1, .ref h2), (2, .int (bI false))] → W p l e R s m args below meth c H locs 0 0 Q (F0 m 6 ls []) := by
    intro k6
    induction k6 with
    | zero => intro i hi hk; exact absurd hk (Nat.not_lt_zero _)
    | succ k6 ih6 =>
      intro i hi hk6 H locs hP hD hS ls hl
      refine lv_iload_n hx hb dX7_fill_6 rfl (lv_at hl 0 rfl) ?_
      refine lv_aload_n hx hb dX7_fill_7 rfl (lv_at hl 2 rfl) ?_
      refine va_getN (D := D) (ci := 3) (v := .int (nI n)) (C := RX3) (T := TX3) (N := 2) hx hb hts in_X3 hown hK hP 0 rfl rfl 1 (by decide) k_73 (fun _ h9 => h9) rfl dX7_fill_8 ?_
      refine lv_icmp_ge (tgt := 30) hx hb dX7_fill_11 (by decide) (fun c11 => ?_) (fun c11 => ?_)
      · have c11 : n ≤ i := su_ge (by omega) (by omega) c11
        obtain ⟨hP, hD⟩ := su_reI (q0 := 3) (fB (fiD opS f0S g n)) hP hD rfl (fun j _ => by rw [show n = i by omega])
        have hP : va_P D vwCl [(h2, .inr (3, [.ref a2, .int (nI n)])), (a2, .inl (cI, 20, .inl (fN g))), (h, .inr (5, [.ref w])), (w, .inl (cZ, 301, .inl (fB (fiD opS f0S g n))))] H := hP
        have hD : va_D A [(h2, .inr (3, [.ref a2, .int (nI n)])), (a2, .inl (cI, 20, .inl (fN g))), (h, .inr (5, [.ref w])), (w, .inl (cZ, 301, .inl (fB (fiD opS f0S g n))))] := hD
        rw [hQ]
        exact su_ev hx hb hr hlocks hS dX7_fill_30 () (trivial) (hP.sub [2, 3, 0, 1] rfl) (hD.sub [2, 3, 0, 1] (by decide) rfl)
      · have c11 : i < n := su_nge (by omega) (by omega) c11
        refine lv_aload_n hx hb dX7_fill_14 rfl (lv_at hl 1 rfl) ?_
        refine lv_aload_n hx hb dX7_fill_15 rfl (lv_at hl 2 rfl) ?_
        refine lv_iload_n hx hb dX7_fill_16 rfl (lv_at hl 0 rfl) ?_
        refine su_ci (wr := [(h, .inr (5, [.ref w])), (w, .inl (cZ, 301, .inl (fB (fiD opS f0S g i))))]) (va_runV (As := [.int (nI i)]) (rest := [.ref h]) ⟨hx, hb, hml, hown, hts⟩ (k_numberAt l D cI cL cZ H.size (h2) (a2) (g) (n) (i) (hn) (c11)) (cwV 1 hts (lw_gV q_278 q_279 q_280 q_32 q_281) rfl rfl rfl (by decide +kernel) ⟨Nat.le_trans (Nat.le_of_ble_eq_true rfl) hR1, Nat.le_trans (Nat.le_of_ble_eq_true rfl) hR2⟩) (su_pv hN hK hP hD [0, 1] [0, 1, 2] rfl rfl rfl (ci := 3) (q0 := 0) rfl rfl rfl) rfl rfl hl.1 rfl (lv_room (Nat.le_of_ble_eq_true rfl)) dX7_fill_17 ⟨Nat.le_trans (Nat.le_of_ble_eq_true rfl) hR3, Nat.le_trans (Nat.le_of_ble_eq_true rfl) hR4⟩) hP hD hS hA [0, 1] [2, 3] rfl rfl (by decide) (by decide) (fun r uu H locs hw hP hD hS => ?_)
        obtain rfl : r = nI (g i) := hw
        have hP : va_P D vwCl [(h, .inr (5, [.ref w])), (w, .inl (cZ, 301, .inl (fB (fiD opS f0S g i)))), (h2, .inr (3, [.ref a2, .int (nI n)])), (a2, .inl (cI, 20, .inl (fN g)))] H := hP
        have hD : va_D A [(h, .inr (5, [.ref w])), (w, .inl (cZ, 301, .inl (fB (fiD opS f0S g i)))), (h2, .inr (3, [.ref a2, .int (nI n)])), (a2, .inl (cI, 20, .inl (fN g)))] := hD
        refine lv_iload_n hx hb dX7_fill_20 rfl (lv_at hl 3 rfl) ?_
        refine su_cv (wr := [(h2, .inr (3, [.ref a2, .int (nI n)])), (a2, .inl (cI, 20, .inl (fN g)))]) (va_runU (As := [.int (nI (g i)), .int (bI false)]) (rest := []) ⟨hx, hb, hml, hown, hts⟩ (k_takeSD l D cI cL cZ H.size (h) (w) (fiD opS f0S g i) (g i) ((hg i c11).1) ((hg i c11).2)) (va_cwU 2 hts (lw_gU q_286 q_1238 q_s5 q_288 q_35 q_289) rfl rfl rfl rfl (by decide +kernel) ⟨Nat.le_trans (Nat.le_of_ble_eq_true rfl) hR1, Nat.le_trans (Nat.le_of_ble_eq_true rfl) hR2⟩) (su_pv hN hK hP hD [0, 1] [0, 1, 2] rfl rfl rfl (ci := 5) (q0 := 0) rfl rfl rfl) rfl rfl hl.1 rfl (lv_room (Nat.le_of_ble_eq_true rfl)) dX7_fill_21 ⟨Nat.le_trans (Nat.le_of_ble_eq_true rfl) hR3, Nat.le_trans (Nat.le_of_ble_eq_true rfl) hR4⟩) hP hD hS hA [0, 1] [2, 3] rfl rfl (by decide) (by decide) (fun uu H locs hw hP hD hS => ?_)
        have hP : va_P D vwCl [(h2, .inr (3, [.ref a2, .int (nI n)])), (a2, .inl (cI, 20, .inl (fN g))), (h, .inr (5, [.ref w])), (w, .inl (cZ, 301, .inl (fB (dnT opS (g i) (fiD opS f0S g i)))))] H := hP
        have hD : va_D A [(h2, .inr (3, [.ref a2, .int (nI n)])), (a2, .inl (cI, 20, .inl (fN g))), (h, .inr (5, [.ref w])), (w, .inl (cZ, 301, .inl (fB (dnT opS (g i) (fiD opS f0S g i)))))] := hD
        refine lv_iinc (v := nI (i + 1)) (lv' := [(3, .int (nI (i + 1))), (0, .ref h), (1, .ref h2), (2, .int (bI false))]) hx hb dX7_fill_24 hl (k := 0) rfl (su_inc _) (by decide) rfl (fun ls hl => ?_)
        refine lv_goto (tgt := 6) hx hb dX7_fill_27 (by decide) ?_
        exact ih6 (i + 1) (by omega) (by omega) _ _ hP hD hS _ (lv_sub hl [0, 1, 2, 3] rfl)
  exact loop6 ((n - (0)) + 1) (0) (by omega) (by omega) _ _ hP hD hS _ (lv_sub hl [0, 1, 2, 3] rfl)
set_option maxHeartbeats 4000000 in
set_option maxRecDepth 100000 in
theorem k_takeSU (l : Launch) (D : va_G) (cI cL cZ : ClassId) (sz : Nat) (h : Nat) (w : Nat) (f : Nat → Bool) (num : Nat) (h1 : 1 ≤ num) (h3 : num ≤ 300) :
    Met l yX7_take (ws_ yX7_take cX7_take 4 none) { frames := 2, cells := 0, slots := 0, locals := 60 } (su_pre D (su_T cI cL cZ) sz [(h, .inr (5, [.ref w])), (w, .inl (cZ, 301, .inl (fB f)))] [.ref h, .int (nI num), .int (bI true)]) (su_qv D (va_A [(h, .inr (5, [.ref w])), (w, .inl (cZ, 301, .inl (fB f)))] sz) (fun (uu : Unit) => True) (fun (uu : Unit) => [(h, .inr (5, [.ref w])), (w, .inl (cZ, 301, .inl (fB (upT opS num f))))])) 0 0 (va_A [(h, .inr (5, [.ref w])), (w, .inl (cZ, 301, .inl (fB f)))] sz) := by
  refine su_met (Qf := fun A => su_qv D A (fun (uu : Unit) => True) (fun (uu : Unit) => [(h, .inr (5, [.ref w])), (w, .inl (cZ, 301, .inl (fB (upT opS num f))))])) (cc := cX7_take) (maxL := 4) (ret := none) (by decide) (Nat.le_of_ble_eq_true rfl) ?_
  intro p e s m args below meth c R Q A H locs ls hx hb hr hlocks hin hml hown hts hN hP hK hD hA hS hRm hQ hl
  have hown : s.vm.findClass RX7 = some m.cls := hown
  have hl : lv_has ls 4 [(0, .ref h), (1, .int (nI num)), (2, .int (bI true))] := hl
  have hR1 : 2 ≤ R.frames := by rw [hRm]; exact Nat.le_of_ble_eq_true rfl
  have hR2 : 60 ≤ R.locals := by rw [hRm]; exact Nat.le_of_ble_eq_true rfl
  have hR3 : 0 ≤ R.cells := by rw [hRm]; exact Nat.le_of_ble_eq_true rfl
  have hR4 : 0 ≤ R.slots := by rw [hRm]; exact Nat.le_of_ble_eq_true rfl
  refine lv_iload_n hx hb dX7_take_0 rfl (lv_at hl 1 rfl) ?_
  refine lv_iconst (v := nI 1) hx hb dX7_take_1 (by decide) ?_
  refine lv_icmp_lt (tgt := 12) hx hb dX7_take_2 (by decide) (fun c2 => ?_) (fun c2 => ?_)
  · have c2 : num < 1 := su_lt (by omega) (by omega) c2
    omega
  · have c2 : 1 ≤ num := su_nlt (by omega) (by omega) c2
    refine lv_iload_n hx hb dX7_take_5 rfl (lv_at hl 1 rfl) ?_
    refine lv_sipush (v := nI 300) hx hb dX7_take_6 (by decide) ?_
    refine lv_icmp_le (tgt := 13) hx hb dX7_take_9 (by decide) (fun c9 => ?_) (fun c9 => ?_)
    · have c9 : num ≤ 300 := su_ge (by omega) (by omega) c9
      refine lv_iload_n hx hb dX7_take_13 rfl (lv_at hl 2 rfl) ?_
      refine lv_if_eq (tgt := 43) hx hb dX7_take_14 (by decide) (fun c14 => ?_) (fun c14 => ?_)
      · have c14 : true = false := bI_e c14
        exact absurd c14 (by decide)
      · have c14 : true = true := bI_n c14
        refine lv_iload_n hx hb dX7_take_17 rfl (lv_at hl 1 rfl) ?_
        refine lv_istore_n (lv' := [(3, .int (nI num)), (0, .ref h), (1, .int (nI num)), (2, .int (bI true))]) hx hb dX7_take_18 rfl hl (by decide) rfl (fun ls hl => ?_)
        have loop19 : ∀ (k19 : Nat) (t : Nat), (num ≤ t) → (t ≤ 301) → 301 - t < k19 → ∀ (H : Heap) (locs : List Loc), va_P D vwCl [(h, .inr (5, [.ref w])), (w, .inl (cZ, 301, .inl (fB (upP opS num f t))))] H → va_D A [(h, .inr (5, [.ref w])), (w, .inl (cZ, 301, .inl (fB (upP opS num f t))))] → va_S A s.heap H locs → ∀ ls : Array Slot, lv_has ls 4 [(3, .int (nI t)), (0, .ref h), (1, .int (nI num)), (2, .int (bI true))] → W p l e R s m args below meth c H locs 0 0 Q (F0 m 19 ls []) := by
          intro k19
          induction k19 with
          | zero => intro t ht ht2 hk; exact absurd hk (Nat.not_lt_zero _)
          | succ k19 ih19 =>
            intro t ht ht2 hk19 H locs hP hD hS ls hl
            refine lv_iload_n hx hb dX7_take_19 rfl (lv_at hl 0 rfl) ?_
            refine lv_sipush (v := nI 300) hx hb dX7_take_20 (by decide) ?_
            refine lv_icmp_gt (tgt := 40) hx hb dX7_take_23 (by decide) (fun c23 => ?_) (fun c23 => ?_)
            · have c23 : 300 < t := su_lt (by omega) (by omega) c23
              refine lv_goto (tgt := 66) hx hb dX7_take_40 (by decide) ?_
              obtain ⟨hP, hD⟩ := su_reI (q0 := 1) (fB (upT opS num f)) hP hD rfl (fun j _ => by rw [upT, show 301 = t by omega])
              have hP : va_P D vwCl [(h, .inr (5, [.ref w])), (w, .inl (cZ, 301, .inl (fB (upT opS num f))))] H := hP
              have hD : va_D A [(h, .inr (5, [.ref w])), (w, .inl (cZ, 301, .inl (fB (upT opS num f))))] := hD
              rw [hQ]
              exact su_ev hx hb hr hlocks hS dX7_take_66 () (trivial) hP hD
            · have c23 : t ≤ 300 := su_nlt (by omega) (by omega) c23
              refine lv_aload_n hx hb dX7_take_26 rfl (lv_at hl 1 rfl) ?_
              refine lv_iload_n hx hb dX7_take_27 rfl (lv_at hl 0 rfl) ?_
              refine lv_iload_n hx hb dX7_take_28 rfl (lv_at hl 2 rfl) ?_
              refine lv_isub hx hb dX7_take_29 ?_
              refine su_eqi (nI (t - num)) (pk_sub (by omega)) ?_
              refine lv_iload_n hx hb dX7_take_30 rfl (lv_at hl 0 rfl) ?_
              refine su_cv (wr := []) (va_runU (As := [.int (nI (t - num)), .int (nI t)]) (rest := []) ⟨hx, hb, hml, hown, hts⟩ (k_carryS l D cI cL cZ H.size (h) (w) (upP opS num f t) (t - num) (t) (by omega) (by omega)) (va_cwA 2 hts (lw_gU q_290 q_292 q_308 q_309 q_40 q_310) rfl rfl rfl (hN _ q_291) (by decide +kernel) ⟨Nat.le_trans (Nat.le_of_ble_eq_true rfl) hR1, Nat.le_trans (Nat.le_of_ble_eq_true rfl) hR2⟩) (su_pv hN hK hP hD [0, 1] [0, 1, 2] rfl rfl rfl (ci := 5) (q0 := 0) rfl rfl rfl) rfl rfl hl.1 rfl (lv_room (Nat.le_of_ble_eq_true rfl)) dX7_take_31 ⟨Nat.le_trans (Nat.le_of_ble_eq_true rfl) hR3, Nat.le_trans (Nat.le_of_ble_eq_true rfl) hR4⟩) hP hD hS hA [0, 1] [] rfl rfl (by decide) (by decide) (fun uu H locs hw hP hD hS => ?_)
              have hP : va_P D vwCl [(h, .inr (5, [.ref w])), (w, .inl (cZ, 301, .inl (fB (va_up (upP opS num f t) t (opS ((upP opS num f t) t) ((upP opS num f t) (t - num)))))))] H := hP
              have hD : va_D A [(h, .inr (5, [.ref w])), (w, .inl (cZ, 301, .inl (fB (va_up (upP opS num f t) t (opS ((upP opS num f t) t) ((upP opS num f t) (t - num)))))))] := hD
              refine lv_iinc (v := nI (t + 1)) (lv' := [(3, .int (nI (t + 1))), (0, .ref h), (1, .int (nI num)), (2, .int (bI true))]) hx hb dX7_take_34 hl (k := 0) rfl (su_inc _) (by decide) rfl (fun ls hl => ?_)
              refine lv_goto (tgt := 19) hx hb dX7_take_37 (by decide) ?_
              obtain ⟨hP, hD⟩ := su_reI (q0 := 1) (fB (upP opS num f (t + 1))) hP hD rfl (fun j _ => by rw [← upP_S ht]; try rfl)
              have hP : va_P D vwCl [(h, .inr (5, [.ref w])), (w, .inl (cZ, 301, .inl (fB (upP opS num f (t + 1)))))] H := hP
              have hD : va_D A [(h, .inr (5, [.ref w])), (w, .inl (cZ, 301, .inl (fB (upP opS num f (t + 1)))))] := hD
              exact ih19 (t + 1) (by omega) (by omega) (by omega) _ _ hP hD hS _ (lv_sub hl [0, 1, 2, 3] rfl)
        obtain ⟨hP, hD⟩ := su_reI (q0 := 1) (fB (upP opS num f (num))) hP hD rfl (fun j _ => by rw [upP_lo (Nat.le_refl _)])
        have hP : va_P D vwCl [(h, .inr (5, [.ref w])), (w, .inl (cZ, 301, .inl (fB (upP opS num f (num)))))] H := hP
        have hD : va_D A [(h, .inr (5, [.ref w])), (w, .inl (cZ, 301, .inl (fB (upP opS num f (num)))))] := hD
        exact loop19 ((301 - (num)) + 1) (num) (by omega) (by omega) (by omega) _ _ hP hD hS _ (lv_sub hl [0, 1, 2, 3] rfl)
    · have c9 : 300 < num := su_nge (by omega) (by omega) c9
      omega
set_option maxHeartbeats 4000000 in
set_option maxRecDepth 100000 in
theorem k_fillSU (l : Launch) (D : va_G) (cI cL cZ : ClassId) (sz : Nat) (h : Nat) (w : Nat) (fr : Nat → Int32) (h2 : Nat) (a2 : Nat) (g : Nat → Nat) (n : Nat) (hn : n ≤ 20) (hg : ∀ k, k < n → 1 ≤ g k ∧ g k ≤ 300) :
    Met l yX7_fill (ws_ yX7_fill cX7_fill 4 none) { frames := 3, cells := 0, slots := 0, locals := 90 } (su_pre D (su_T cI cL cZ) sz [(h, .inr (5, [.ref w])), (w, .inl (cZ, 301, .inl fr)), (h2, .inr (3, [.ref a2, .int (nI n)])), (a2, .inl (cI, 20, .inl (fN g)))] [.ref h, .ref h2, .int (bI true)]) (su_qv D (va_A [(h, .inr (5, [.ref w])), (w, .inl (cZ, 301, .inl fr)), (h2, .inr (3, [.ref a2, .int (nI n)])), (a2, .inl (cI, 20, .inl (fN g)))] sz) (fun (uu : Unit) => True) (fun (uu : Unit) => [(h, .inr (5, [.ref w])), (w, .inl (cZ, 301, .inl (fB (fiU opS f0S g n)))), (h2, .inr (3, [.ref a2, .int (nI n)])), (a2, .inl (cI, 20, .inl (fN g)))])) 0 0 (va_A [(h, .inr (5, [.ref w])), (w, .inl (cZ, 301, .inl fr)), (h2, .inr (3, [.ref a2, .int (nI n)])), (a2, .inl (cI, 20, .inl (fN g)))] sz) := by
  refine su_met (Qf := fun A => su_qv D A (fun (uu : Unit) => True) (fun (uu : Unit) => [(h, .inr (5, [.ref w])), (w, .inl (cZ, 301, .inl (fB (fiU opS f0S g n)))), (h2, .inr (3, [.ref a2, .int (nI n)])), (a2, .inl (cI, 20, .inl (fN g)))])) (cc := cX7_fill) (maxL := 4) (ret := none) (by decide) (Nat.le_of_ble_eq_true rfl) ?_
  intro p e s m args below meth c R Q A H locs ls hx hb hr hlocks hin hml hown hts hN hP hK hD hA hS hRm hQ hl
  have hown : s.vm.findClass RX7 = some m.cls := hown
  have hl : lv_has ls 4 [(0, .ref h), (1, .ref h2), (2, .int (bI true))] := hl
  have hR1 : 3 ≤ R.frames := by rw [hRm]; exact Nat.le_of_ble_eq_true rfl
  have hR2 : 90 ≤ R.locals := by rw [hRm]; exact Nat.le_of_ble_eq_true rfl
  have hR3 : 0 ≤ R.cells := by rw [hRm]; exact Nat.le_of_ble_eq_true rfl
  have hR4 : 0 ≤ R.slots := by rw [hRm]; exact Nat.le_of_ble_eq_true rfl
  have k_73 := va_Nw.use (A := args) rfl (hN _ q_73)
  refine lv_aload_n hx hb dX7_fill_0 rfl (lv_at hl 0 rfl) ?_
  refine su_cv (wr := [(h2, .inr (3, [.ref a2, .int (nI n)])), (a2, .inl (cI, 20, .inl (fN g)))]) (va_runU (As := []) (rest := []) ⟨hx, hb, hml, hown, hts⟩ (k_beginS l D cI cL cZ H.size (h) (w) (fr) ) (va_cwA 0 hts (lw_gU q_263 q_265 q_272 q_273 q_40 q_274) rfl rfl rfl (hN _ q_264) (by decide +kernel) ⟨Nat.le_trans (Nat.le_of_ble_eq_true rfl) hR1, Nat.le_trans (Nat.le_of_ble_eq_true rfl) hR2⟩) (su_pv hN hK hP hD [0, 1] [0, 1, 2] rfl rfl rfl (ci := 5) (q0 := 0) rfl rfl rfl) rfl rfl hl.1 rfl (lv_room (Nat.le_of_ble_eq_true rfl)) dX7_fill_1 ⟨Nat.le_trans (Nat.le_of_ble_eq_true rfl) hR3, Nat.le_trans (Nat.le_of_ble_eq_true rfl) hR4⟩) hP hD hS hA [0, 1] [2, 3] rfl rfl (by decide) (by decide) (fun uu H locs hw hP hD hS => ?_)
  have hP : va_P D vwCl [(h2, .inr (3, [.ref a2, .int (nI n)])), (a2, .inl (cI, 20, .inl (fN g))), (h, .inr (5, [.ref w])), (w, .inl (cZ, 301, .inl (fB f0S)))] H := hP
  have hD : va_D A [(h2, .inr (3, [.ref a2, .int (nI n)])), (a2, .inl (cI, 20, .inl (fN g))), (h, .inr (5, [.ref w])), (w, .inl (cZ, 301, .inl (fB f0S)))] := hD
  refine lv_iconst (v := nI 0) hx hb dX7_fill_4 (by decide) ?_
  refine lv_istore_n (lv' := [(3, .int (nI 0)), (0, .ref h), (1, .ref h2), (2, .int (bI true))]) hx hb dX7_fill_5 rfl hl (by decide) rfl (fun ls hl => ?_)
  have loop6 : ∀ (k6 : Nat) (i : Nat), (i ≤ n) → n - i < k6 → ∀ (H : Heap) (locs : List Loc), va_P D vwCl [(h2, .inr (3, [.ref a2, .int (nI n)])), (a2, .inl (cI, 20, .inl (fN g))), (h, .inr (5, [.ref w])), (w, .inl (cZ, 301, .inl (fB (fiU opS f0S g i))))] H → va_D A [(h2, .inr (3, [.ref a2, .int (nI n)])), (a2, .inl (cI, 20, .inl (fN g))), (h, .inr (5, [.ref w])), (w, .inl (cZ, 301, .inl (fB (fiU opS f0S g i))))] → va_S A s.heap H locs → ∀ ls : Array Slot, lv_has ls 4 [(3, .int (nI i)), (0, .ref h), (1, .ref h2), (2, .int (bI true))] → W p l e R s m args below meth c H locs 0 0 Q (F0 m 6 ls []) := by
    intro k6
    induction k6 with
    | zero => intro i hi hk; exact absurd hk (Nat.not_lt_zero _)
    | succ k6 ih6 =>
      intro i hi hk6 H locs hP hD hS ls hl
      refine lv_iload_n hx hb dX7_fill_6 rfl (lv_at hl 0 rfl) ?_
      refine lv_aload_n hx hb dX7_fill_7 rfl (lv_at hl 2 rfl) ?_
      refine va_getN (D := D) (ci := 3) (v := .int (nI n)) (C := RX3) (T := TX3) (N := 2) hx hb hts in_X3 hown hK hP 0 rfl rfl 1 (by decide) k_73 (fun _ h9 => h9) rfl dX7_fill_8 ?_
      refine lv_icmp_ge (tgt := 30) hx hb dX7_fill_11 (by decide) (fun c11 => ?_) (fun c11 => ?_)
      · have c11 : n ≤ i := su_ge (by omega) (by omega) c11
        obtain ⟨hP, hD⟩ := su_reI (q0 := 3) (fB (fiU opS f0S g n)) hP hD rfl (fun j _ => by rw [show n = i by omega])
        have hP : va_P D vwCl [(h2, .inr (3, [.ref a2, .int (nI n)])), (a2, .inl (cI, 20, .inl (fN g))), (h, .inr (5, [.ref w])), (w, .inl (cZ, 301, .inl (fB (fiU opS f0S g n))))] H := hP
        have hD : va_D A [(h2, .inr (3, [.ref a2, .int (nI n)])), (a2, .inl (cI, 20, .inl (fN g))), (h, .inr (5, [.ref w])), (w, .inl (cZ, 301, .inl (fB (fiU opS f0S g n))))] := hD
        rw [hQ]
        exact su_ev hx hb hr hlocks hS dX7_fill_30 () (trivial) (hP.sub [2, 3, 0, 1] rfl) (hD.sub [2, 3, 0, 1] (by decide) rfl)
      · have c11 : i < n := su_nge (by omega) (by omega) c11
        refine lv_aload_n hx hb dX7_fill_14 rfl (lv_at hl 1 rfl) ?_
        refine lv_aload_n hx hb dX7_fill_15 rfl (lv_at hl 2 rfl) ?_
        refine lv_iload_n hx hb dX7_fill_16 rfl (lv_at hl 0 rfl) ?_
        refine su_ci (wr := [(h, .inr (5, [.ref w])), (w, .inl (cZ, 301, .inl (fB (fiU opS f0S g i))))]) (va_runV (As := [.int (nI i)]) (rest := [.ref h]) ⟨hx, hb, hml, hown, hts⟩ (k_numberAt l D cI cL cZ H.size (h2) (a2) (g) (n) (i) (hn) (c11)) (cwV 1 hts (lw_gV q_278 q_279 q_280 q_32 q_281) rfl rfl rfl (by decide +kernel) ⟨Nat.le_trans (Nat.le_of_ble_eq_true rfl) hR1, Nat.le_trans (Nat.le_of_ble_eq_true rfl) hR2⟩) (su_pv hN hK hP hD [0, 1] [0, 1, 2] rfl rfl rfl (ci := 3) (q0 := 0) rfl rfl rfl) rfl rfl hl.1 rfl (lv_room (Nat.le_of_ble_eq_true rfl)) dX7_fill_17 ⟨Nat.le_trans (Nat.le_of_ble_eq_true rfl) hR3, Nat.le_trans (Nat.le_of_ble_eq_true rfl) hR4⟩) hP hD hS hA [0, 1] [2, 3] rfl rfl (by decide) (by decide) (fun r uu H locs hw hP hD hS => ?_)
        obtain rfl : r = nI (g i) := hw
        have hP : va_P D vwCl [(h, .inr (5, [.ref w])), (w, .inl (cZ, 301, .inl (fB (fiU opS f0S g i)))), (h2, .inr (3, [.ref a2, .int (nI n)])), (a2, .inl (cI, 20, .inl (fN g)))] H := hP
        have hD : va_D A [(h, .inr (5, [.ref w])), (w, .inl (cZ, 301, .inl (fB (fiU opS f0S g i)))), (h2, .inr (3, [.ref a2, .int (nI n)])), (a2, .inl (cI, 20, .inl (fN g)))] := hD
        refine lv_iload_n hx hb dX7_fill_20 rfl (lv_at hl 3 rfl) ?_
        refine su_cv (wr := [(h2, .inr (3, [.ref a2, .int (nI n)])), (a2, .inl (cI, 20, .inl (fN g)))]) (va_runU (As := [.int (nI (g i)), .int (bI true)]) (rest := []) ⟨hx, hb, hml, hown, hts⟩ (k_takeSU l D cI cL cZ H.size (h) (w) (fiU opS f0S g i) (g i) ((hg i c11).1) ((hg i c11).2)) (va_cwU 2 hts (lw_gU q_286 q_1238 q_s5 q_288 q_35 q_289) rfl rfl rfl rfl (by decide +kernel) ⟨Nat.le_trans (Nat.le_of_ble_eq_true rfl) hR1, Nat.le_trans (Nat.le_of_ble_eq_true rfl) hR2⟩) (su_pv hN hK hP hD [0, 1] [0, 1, 2] rfl rfl rfl (ci := 5) (q0 := 0) rfl rfl rfl) rfl rfl hl.1 rfl (lv_room (Nat.le_of_ble_eq_true rfl)) dX7_fill_21 ⟨Nat.le_trans (Nat.le_of_ble_eq_true rfl) hR3, Nat.le_trans (Nat.le_of_ble_eq_true rfl) hR4⟩) hP hD hS hA [0, 1] [2, 3] rfl rfl (by decide) (by decide) (fun uu H locs hw hP hD hS => ?_)
        have hP : va_P D vwCl [(h2, .inr (3, [.ref a2, .int (nI n)])), (a2, .inl (cI, 20, .inl (fN g))), (h, .inr (5, [.ref w])), (w, .inl (cZ, 301, .inl (fB (upT opS (g i) (fiU opS f0S g i)))))] H := hP
        have hD : va_D A [(h2, .inr (3, [.ref a2, .int (nI n)])), (a2, .inl (cI, 20, .inl (fN g))), (h, .inr (5, [.ref w])), (w, .inl (cZ, 301, .inl (fB (upT opS (g i) (fiU opS f0S g i)))))] := hD
        refine lv_iinc (v := nI (i + 1)) (lv' := [(3, .int (nI (i + 1))), (0, .ref h), (1, .ref h2), (2, .int (bI true))]) hx hb dX7_fill_24 hl (k := 0) rfl (su_inc _) (by decide) rfl (fun ls hl => ?_)
        refine lv_goto (tgt := 6) hx hb dX7_fill_27 (by decide) ?_
        exact ih6 (i + 1) (by omega) (by omega) _ _ hP hD hS _ (lv_sub hl [0, 1, 2, 3] rfl)
  exact loop6 ((n - (0)) + 1) (0) (by omega) (by omega) _ _ hP hD hS _ (lv_sub hl [0, 1, 2, 3] rfl)
set_option maxHeartbeats 4000000 in
set_option maxRecDepth 100000 in
theorem k_waysOf (l : Launch) (D : va_G) (cI cL cZ : ClassId) (sz : Nat) (h : Nat) (w : Nat) (f : Nat → Nat) (u : Nat) (hu : u ≤ 300) :
    Met l yX9_waysOf (ws_ yX9_waysOf cX9_waysOf 2 (some .long)) { frames := 1, cells := 0, slots := 0, locals := 30 } (su_pre D (su_T cI cL cZ) sz [(h, .inr (8, [.ref w])), (w, .inl (cL, 301, .inr (.inl (fL f))))] [.ref h, .int (nI u)]) (su_ql D (va_A [(h, .inr (8, [.ref w])), (w, .inl (cL, 301, .inr (.inl (fL f))))] sz) (fun (r : Int64) (uu : Unit) => r = lN (f u)) (fun (uu : Unit) => [(h, .inr (8, [.ref w])), (w, .inl (cL, 301, .inr (.inl (fL f))))])) 0 0 (va_A [(h, .inr (8, [.ref w])), (w, .inl (cL, 301, .inr (.inl (fL f))))] sz) := by
  refine su_met (Qf := fun A => su_ql D A (fun (r : Int64) (uu : Unit) => r = lN (f u)) (fun (uu : Unit) => [(h, .inr (8, [.ref w])), (w, .inl (cL, 301, .inr (.inl (fL f))))])) (cc := cX9_waysOf) (maxL := 2) (ret := (some .long)) (by decide) (Nat.le_of_ble_eq_true rfl) ?_
  intro p e s m args below meth c R Q A H locs ls hx hb hr hlocks hin hml hown hts hN hP hK hD hA hS hRm hQ hl
  have hown : s.vm.findClass RX9 = some m.cls := hown
  have hl : lv_has ls 2 [(0, .ref h), (1, .int (nI u))] := hl
  have hR1 : 1 ≤ R.frames := by rw [hRm]; exact Nat.le_of_ble_eq_true rfl
  have hR2 : 30 ≤ R.locals := by rw [hRm]; exact Nat.le_of_ble_eq_true rfl
  have hR3 : 0 ≤ R.cells := by rw [hRm]; exact Nat.le_of_ble_eq_true rfl
  have hR4 : 0 ≤ R.slots := by rw [hRm]; exact Nat.le_of_ble_eq_true rfl
  have k_123 := hts _ q_123
  refine lv_iload_n hx hb dX9_waysOf_0 rfl (lv_at hl 1 rfl) ?_
  refine su_ci (wr := [(h, .inr (8, [.ref w])), (w, .inl (cL, 301, .inr (.inl (fL f))))]) (su_runSI (As := [.int (nI u)]) (rest := []) ⟨hx, hb, hml, hown, hts⟩ (k_isCell l D cI cL cZ H.size (u) (hu)) (hts _ q_316) (hts _ q_317) (hts _ q_298) (hts _ q_35) (hts _ q_299) (lw_gC q_299) rfl rfl rfl 1 rfl (by decide +kernel) ⟨Nat.le_trans (Nat.le_of_ble_eq_true rfl) hR1, Nat.le_trans (Nat.le_of_ble_eq_true rfl) hR2⟩ (su_ps hN hK hP hD [] [0, 1, 2] rfl rfl rfl) rfl rfl hl.1 rfl (lv_room (Nat.le_of_ble_eq_true rfl)) dX9_waysOf_1 ⟨Nat.le_trans (Nat.le_of_ble_eq_true rfl) hR3, Nat.le_trans (Nat.le_of_ble_eq_true rfl) hR4⟩) hP hD hS hA [] [0, 1] rfl rfl (by decide) (by decide) (fun r uu H locs hw hP hD hS => ?_)
  obtain rfl : r = bI true := hw
  have hP : va_P D vwCl [(h, .inr (8, [.ref w])), (w, .inl (cL, 301, .inr (.inl (fL f))))] H := hP
  have hD : va_D A [(h, .inr (8, [.ref w])), (w, .inl (cL, 301, .inr (.inl (fL f))))] := hD
  refine lv_if_eq (tgt := 16) hx hb dX9_waysOf_4 (by decide) (fun c4 => ?_) (fun c4 => ?_)
  · have c4 : true = false := bI_e c4
    exact absurd c4 (by decide)
  · have c4 : true = true := bI_n c4
    refine lv_aload_n hx hb dX9_waysOf_7 rfl (lv_at hl 0 rfl) ?_
    refine va_get (D := D) (ci := 8) (v := .ref w) (C := RX9) (T := TX9) (N := 1) hx hb hts in_X9 hown hK hP 0 rfl rfl 0 (by decide) k_123 (fun _ h9 => h9) rfl dX9_waysOf_8 ?_
    refine lv_iload_n hx hb dX9_waysOf_11 rfl (lv_at hl 1 rfl) ?_
    refine su_lald hx hb hK hP 1 1 rfl rfl (i := u) (by omega) (by decide) (lN (f u)) (rfl) dX9_waysOf_12 ?_
    refine lv_goto (tgt := 17) hx hb dX9_waysOf_13 (by decide) ?_
    rw [hQ]
    exact su_el hx hb hr hlocks hS dX9_waysOf_17 () (rfl) hP hD
set_option maxHeartbeats 4000000 in
set_option maxRecDepth 100000 in
theorem k_leastOf (l : Launch) (D : va_G) (cI cL cZ : ClassId) (sz : Nat) (h : Nat) (w : Nat) (f : Nat → Nat) (u : Nat) (hu : u ≤ 300) :
    Met l yX2_leastOf (ws_ yX2_leastOf cX2_leastOf 2 (some .int)) { frames := 1, cells := 0, slots := 0, locals := 30 } (su_pre D (su_T cI cL cZ) sz [(h, .inr (2, [.ref w])), (w, .inl (cI, 301, .inl (fN f)))] [.ref h, .int (nI u)]) (su_qi D (va_A [(h, .inr (2, [.ref w])), (w, .inl (cI, 301, .inl (fN f)))] sz) (fun (r : Int32) (uu : Unit) => r = nI (f u)) (fun (uu : Unit) => [(h, .inr (2, [.ref w])), (w, .inl (cI, 301, .inl (fN f)))])) 0 0 (va_A [(h, .inr (2, [.ref w])), (w, .inl (cI, 301, .inl (fN f)))] sz) := by
  refine su_met (Qf := fun A => su_qi D A (fun (r : Int32) (uu : Unit) => r = nI (f u)) (fun (uu : Unit) => [(h, .inr (2, [.ref w])), (w, .inl (cI, 301, .inl (fN f)))])) (cc := cX2_leastOf) (maxL := 2) (ret := (some .int)) (by decide) (Nat.le_of_ble_eq_true rfl) ?_
  intro p e s m args below meth c R Q A H locs ls hx hb hr hlocks hin hml hown hts hN hP hK hD hA hS hRm hQ hl
  have hown : s.vm.findClass RX2 = some m.cls := hown
  have hl : lv_has ls 2 [(0, .ref h), (1, .int (nI u))] := hl
  have hR1 : 1 ≤ R.frames := by rw [hRm]; exact Nat.le_of_ble_eq_true rfl
  have hR2 : 30 ≤ R.locals := by rw [hRm]; exact Nat.le_of_ble_eq_true rfl
  have hR3 : 0 ≤ R.cells := by rw [hRm]; exact Nat.le_of_ble_eq_true rfl
  have hR4 : 0 ≤ R.slots := by rw [hRm]; exact Nat.le_of_ble_eq_true rfl
  have k_133 := hts _ q_133
  refine lv_iload_n hx hb dX2_leastOf_0 rfl (lv_at hl 1 rfl) ?_
  refine su_ci (wr := [(h, .inr (2, [.ref w])), (w, .inl (cI, 301, .inl (fN f)))]) (su_runSI (As := [.int (nI u)]) (rest := []) ⟨hx, hb, hml, hown, hts⟩ (k_isCell l D cI cL cZ H.size (u) (hu)) (hts _ q_296) (hts _ q_297) (hts _ q_298) (hts _ q_35) (hts _ q_299) (lw_gC q_299) rfl rfl rfl 1 rfl (by decide +kernel) ⟨Nat.le_trans (Nat.le_of_ble_eq_true rfl) hR1, Nat.le_trans (Nat.le_of_ble_eq_true rfl) hR2⟩ (su_ps hN hK hP hD [] [0, 1, 2] rfl rfl rfl) rfl rfl hl.1 rfl (lv_room (Nat.le_of_ble_eq_true rfl)) dX2_leastOf_1 ⟨Nat.le_trans (Nat.le_of_ble_eq_true rfl) hR3, Nat.le_trans (Nat.le_of_ble_eq_true rfl) hR4⟩) hP hD hS hA [] [0, 1] rfl rfl (by decide) (by decide) (fun r uu H locs hw hP hD hS => ?_)
  obtain rfl : r = bI true := hw
  have hP : va_P D vwCl [(h, .inr (2, [.ref w])), (w, .inl (cI, 301, .inl (fN f)))] H := hP
  have hD : va_D A [(h, .inr (2, [.ref w])), (w, .inl (cI, 301, .inl (fN f)))] := hD
  refine lv_if_eq (tgt := 16) hx hb dX2_leastOf_4 (by decide) (fun c4 => ?_) (fun c4 => ?_)
  · have c4 : true = false := bI_e c4
    exact absurd c4 (by decide)
  · have c4 : true = true := bI_n c4
    refine lv_aload_n hx hb dX2_leastOf_7 rfl (lv_at hl 0 rfl) ?_
    refine va_get (D := D) (ci := 2) (v := .ref w) (C := RX2) (T := TX2) (N := 1) hx hb hts in_X2 hown hK hP 0 rfl rfl 0 (by decide) k_133 (fun _ h9 => h9) rfl dX2_leastOf_8 ?_
    refine lv_iload_n hx hb dX2_leastOf_11 rfl (lv_at hl 1 rfl) ?_
    refine su_iald hx hb hK hP 1 0 rfl rfl (i := u) (by omega) (by decide) (nI (f u)) (rfl) dX2_leastOf_12 ?_
    refine lv_goto (tgt := 19) hx hb dX2_leastOf_13 (by decide) ?_
    rw [hQ]
    exact su_ei hx hb hr hlocks hS dX2_leastOf_19 () (rfl) hP hD
set_option maxHeartbeats 4000000 in
set_option maxRecDepth 100000 in
theorem k_isMade (l : Launch) (D : va_G) (cI cL cZ : ClassId) (sz : Nat) (h : Nat) (w : Nat) (f : Nat → Nat) (u : Nat) (hu : u ≤ 300) (hf : leF f) :
    Met l yX2_isMade (ws_ yX2_isMade cX2_isMade 2 (some .boolean)) { frames := 2, cells := 0, slots := 0, locals := 60 } (su_pre D (su_T cI cL cZ) sz [(h, .inr (2, [.ref w])), (w, .inl (cI, 301, .inl (fN f)))] [.ref h, .int (nI u)]) (su_qi D (va_A [(h, .inr (2, [.ref w])), (w, .inl (cI, 301, .inl (fN f)))] sz) (fun (r : Int32) (uu : Unit) => r = bI (decide (f u < 301))) (fun (uu : Unit) => [(h, .inr (2, [.ref w])), (w, .inl (cI, 301, .inl (fN f)))])) 0 0 (va_A [(h, .inr (2, [.ref w])), (w, .inl (cI, 301, .inl (fN f)))] sz) := by
  refine su_met (Qf := fun A => su_qi D A (fun (r : Int32) (uu : Unit) => r = bI (decide (f u < 301))) (fun (uu : Unit) => [(h, .inr (2, [.ref w])), (w, .inl (cI, 301, .inl (fN f)))])) (cc := cX2_isMade) (maxL := 2) (ret := (some .boolean)) (by decide) (Nat.le_of_ble_eq_true rfl) ?_
  intro p e s m args below meth c R Q A H locs ls hx hb hr hlocks hin hml hown hts hN hP hK hD hA hS hRm hQ hl
  have hown : s.vm.findClass RX2 = some m.cls := hown
  have hl : lv_has ls 2 [(0, .ref h), (1, .int (nI u))] := hl
  have hR1 : 2 ≤ R.frames := by rw [hRm]; exact Nat.le_of_ble_eq_true rfl
  have hR2 : 60 ≤ R.locals := by rw [hRm]; exact Nat.le_of_ble_eq_true rfl
  have hR3 : 0 ≤ R.cells := by rw [hRm]; exact Nat.le_of_ble_eq_true rfl
  have hR4 : 0 ≤ R.slots := by rw [hRm]; exact Nat.le_of_ble_eq_true rfl
  have hfu := hf u
  refine lv_aload_n hx hb dX2_isMade_0 rfl (lv_at hl 0 rfl) ?_
  refine lv_iload_n hx hb dX2_isMade_1 rfl (lv_at hl 1 rfl) ?_
  refine su_ci (wr := []) (va_runV (As := [.int (nI u)]) (rest := []) ⟨hx, hb, hml, hown, hts⟩ (k_leastOf l D cI cL cZ H.size (h) (w) (f) (u) (hu)) (cwV 1 hts (lw_gV q_786 q_787 q_788 q_37 q_789) rfl rfl rfl (by decide +kernel) ⟨Nat.le_trans (Nat.le_of_ble_eq_true rfl) hR1, Nat.le_trans (Nat.le_of_ble_eq_true rfl) hR2⟩) (su_pv hN hK hP hD [0, 1] [0, 1, 2] rfl rfl rfl (ci := 2) (q0 := 0) rfl rfl rfl) rfl rfl hl.1 rfl (lv_room (Nat.le_of_ble_eq_true rfl)) dX2_isMade_2 ⟨Nat.le_trans (Nat.le_of_ble_eq_true rfl) hR3, Nat.le_trans (Nat.le_of_ble_eq_true rfl) hR4⟩) hP hD hS hA [0, 1] [] rfl rfl (by decide) (by decide) (fun r uu H locs hw hP hD hS => ?_)
  obtain rfl : r = nI (f u) := hw
  have hP : va_P D vwCl [(h, .inr (2, [.ref w])), (w, .inl (cI, 301, .inl (fN f)))] H := hP
  have hD : va_D A [(h, .inr (2, [.ref w])), (w, .inl (cI, 301, .inl (fN f)))] := hD
  refine lv_sipush (v := nI 301) hx hb dX2_isMade_5 (by decide) ?_
  refine lv_icmp_ge (tgt := 15) hx hb dX2_isMade_8 (by decide) (fun c8 => ?_) (fun c8 => ?_)
  · have c8 : 301 ≤ f u := su_ge (by omega) (by omega) c8
    refine lv_iconst (v := nI 0) hx hb dX2_isMade_15 (by decide) ?_
    rw [hQ]
    exact su_ez hx hb hr hlocks hS dX2_isMade_16 (by decide) () (by first | (rw [nI01_1]; exact bI_d1 (by omega)) | (rw [nI01_0]; exact bI_d0 (by omega))) hP hD
  · have c8 : f u < 301 := su_nge (by omega) (by omega) c8
    refine lv_iconst (v := nI 1) hx hb dX2_isMade_11 (by decide) ?_
    refine lv_goto (tgt := 16) hx hb dX2_isMade_12 (by decide) ?_
    rw [hQ]
    exact su_ez hx hb hr hlocks hS dX2_isMade_16 (by decide) () (by first | (rw [nI01_1]; exact bI_d1 (by omega)) | (rw [nI01_0]; exact bI_d0 (by omega))) hP hD
set_option maxHeartbeats 4000000 in
set_option maxRecDepth 100000 in
theorem k_isMadeWith (l : Launch) (D : va_G) (cI cL cZ : ClassId) (sz : Nat) (h : Nat) (w : Nat) (f : Nat → Nat) (k : Nat) (u : Nat) (hu : u ≤ 300) (hk : k ≤ 20) (hf : f u < 2 ^ 31) :
    Met l yX4_isMadeWith (ws_ yX4_isMadeWith cX4_isMadeWith 3 (some .boolean)) { frames := 1, cells := 0, slots := 0, locals := 30 } (su_pre D (su_T cI cL cZ) sz [(h, .inr (4, [.ref w])), (w, .inl (cI, 301, .inl (fN f)))] [.ref h, .int (nI k), .int (nI u)]) (su_qi D (va_A [(h, .inr (4, [.ref w])), (w, .inl (cI, 301, .inl (fN f)))] sz) (fun (r : Int32) (uu : Unit) => r = bI ((f u).testBit k)) (fun (uu : Unit) => [(h, .inr (4, [.ref w])), (w, .inl (cI, 301, .inl (fN f)))])) 0 0 (va_A [(h, .inr (4, [.ref w])), (w, .inl (cI, 301, .inl (fN f)))] sz) := by
  refine su_met (Qf := fun A => su_qi D A (fun (r : Int32) (uu : Unit) => r = bI ((f u).testBit k)) (fun (uu : Unit) => [(h, .inr (4, [.ref w])), (w, .inl (cI, 301, .inl (fN f)))])) (cc := cX4_isMadeWith) (maxL := 3) (ret := (some .boolean)) (by decide) (Nat.le_of_ble_eq_true rfl) ?_
  intro p e s m args below meth c R Q A H locs ls hx hb hr hlocks hin hml hown hts hN hP hK hD hA hS hRm hQ hl
  have hown : s.vm.findClass RX4 = some m.cls := hown
  have hl : lv_has ls 3 [(0, .ref h), (1, .int (nI k)), (2, .int (nI u))] := hl
  have hR1 : 1 ≤ R.frames := by rw [hRm]; exact Nat.le_of_ble_eq_true rfl
  have hR2 : 30 ≤ R.locals := by rw [hRm]; exact Nat.le_of_ble_eq_true rfl
  have hR3 : 0 ≤ R.cells := by rw [hRm]; exact Nat.le_of_ble_eq_true rfl
  have hR4 : 0 ≤ R.slots := by rw [hRm]; exact Nat.le_of_ble_eq_true rfl
  have k_143 := hts _ q_143
  refine lv_iload_n hx hb dX4_isMadeWith_0 rfl (lv_at hl 2 rfl) ?_
  refine su_ci (wr := [(h, .inr (4, [.ref w])), (w, .inl (cI, 301, .inl (fN f)))]) (su_runSI (As := [.int (nI u)]) (rest := []) ⟨hx, hb, hml, hown, hts⟩ (k_isCell l D cI cL cZ H.size (u) (hu)) (hts _ q_306) (hts _ q_307) (hts _ q_298) (hts _ q_35) (hts _ q_299) (lw_gC q_299) rfl rfl rfl 1 rfl (by decide +kernel) ⟨Nat.le_trans (Nat.le_of_ble_eq_true rfl) hR1, Nat.le_trans (Nat.le_of_ble_eq_true rfl) hR2⟩ (su_ps hN hK hP hD [] [0, 1, 2] rfl rfl rfl) rfl rfl hl.1 rfl (lv_room (Nat.le_of_ble_eq_true rfl)) dX4_isMadeWith_1 ⟨Nat.le_trans (Nat.le_of_ble_eq_true rfl) hR3, Nat.le_trans (Nat.le_of_ble_eq_true rfl) hR4⟩) hP hD hS hA [] [0, 1] rfl rfl (by decide) (by decide) (fun r uu H locs hw hP hD hS => ?_)
  obtain rfl : r = bI true := hw
  have hP : va_P D vwCl [(h, .inr (4, [.ref w])), (w, .inl (cI, 301, .inl (fN f)))] H := hP
  have hD : va_D A [(h, .inr (4, [.ref w])), (w, .inl (cI, 301, .inl (fN f)))] := hD
  refine lv_if_eq (tgt := 24) hx hb dX4_isMadeWith_4 (by decide) (fun c4 => ?_) (fun c4 => ?_)
  · have c4 : true = false := bI_e c4
    exact absurd c4 (by decide)
  · have c4 : true = true := bI_n c4
    refine lv_aload_n hx hb dX4_isMadeWith_7 rfl (lv_at hl 0 rfl) ?_
    refine va_get (D := D) (ci := 4) (v := .ref w) (C := RX4) (T := TX4) (N := 1) hx hb hts in_X4 hown hK hP 0 rfl rfl 0 (by decide) k_143 (fun _ h9 => h9) rfl dX4_isMadeWith_8 ?_
    refine lv_iload_n hx hb dX4_isMadeWith_11 rfl (lv_at hl 2 rfl) ?_
    refine su_iald hx hb hK hP 1 0 rfl rfl (i := u) (by omega) (by decide) (nI (f u)) (rfl) dX4_isMadeWith_12 ?_
    refine lv_iload_n hx hb dX4_isMadeWith_13 rfl (lv_at hl 1 rfl) ?_
    refine lv_ishr hx hb dX4_isMadeWith_14 ?_
    refine lv_iconst (v := nI 1) hx hb dX4_isMadeWith_15 (by decide) ?_
    refine lv_iand hx hb dX4_isMadeWith_16 ?_
    refine su_eqi (bI ((f u).testBit k)) (su_pbit hf hk) ?_
    refine lv_if_eq (tgt := 24) hx hb dX4_isMadeWith_17 (by decide) (fun c17 => ?_) (fun c17 => ?_)
    · have c17 : (f u).testBit k = false := bI_e c17
      refine lv_iconst (v := nI 0) hx hb dX4_isMadeWith_24 (by decide) ?_
      rw [hQ]
      exact su_ez hx hb hr hlocks hS dX4_isMadeWith_25 (by decide) () (by rw [c17]; decide) hP hD
    · have c17 : (f u).testBit k = true := bI_n c17
      refine lv_iconst (v := nI 1) hx hb dX4_isMadeWith_20 (by decide) ?_
      refine lv_goto (tgt := 25) hx hb dX4_isMadeWith_21 (by decide) ?_
      rw [hQ]
      exact su_ez hx hb hr hlocks hS dX4_isMadeWith_25 (by decide) () (by rw [c17]; decide) hP hD
set_option maxHeartbeats 4000000 in
set_option maxRecDepth 100000 in
theorem k_setIsSet (l : Launch) (D : va_G) (cI cL cZ : ClassId) (sz : Nat) (h : Nat) (w : Nat) (f : Nat → Bool) (u : Nat) (hu : u ≤ 300) :
    Met l yX5_isSet (ws_ yX5_isSet cX5_isSet 2 (some .boolean)) { frames := 1, cells := 0, slots := 0, locals := 30 } (su_pre D (su_T cI cL cZ) sz [(h, .inr (5, [.ref w])), (w, .inl (cZ, 301, .inl (fB f)))] [.ref h, .int (nI u)]) (su_qi D (va_A [(h, .inr (5, [.ref w])), (w, .inl (cZ, 301, .inl (fB f)))] sz) (fun (r : Int32) (uu : Unit) => r = bI (f u)) (fun (uu : Unit) => [(h, .inr (5, [.ref w])), (w, .inl (cZ, 301, .inl (fB f)))])) 0 0 (va_A [(h, .inr (5, [.ref w])), (w, .inl (cZ, 301, .inl (fB f)))] sz) := by
  refine su_met (Qf := fun A => su_qi D A (fun (r : Int32) (uu : Unit) => r = bI (f u)) (fun (uu : Unit) => [(h, .inr (5, [.ref w])), (w, .inl (cZ, 301, .inl (fB f)))])) (cc := cX5_isSet) (maxL := 2) (ret := (some .boolean)) (by decide) (Nat.le_of_ble_eq_true rfl) ?_
  intro p e s m args below meth c R Q A H locs ls hx hb hr hlocks hin hml hown hts hN hP hK hD hA hS hRm hQ hl
  have hown : s.vm.findClass RX5 = some m.cls := hown
  have hl : lv_has ls 2 [(0, .ref h), (1, .int (nI u))] := hl
  have hR1 : 1 ≤ R.frames := by rw [hRm]; exact Nat.le_of_ble_eq_true rfl
  have hR2 : 30 ≤ R.locals := by rw [hRm]; exact Nat.le_of_ble_eq_true rfl
  have hR3 : 0 ≤ R.cells := by rw [hRm]; exact Nat.le_of_ble_eq_true rfl
  have hR4 : 0 ≤ R.slots := by rw [hRm]; exact Nat.le_of_ble_eq_true rfl
  have k_163 := hts _ q_163
  refine lv_iload_n hx hb dX5_isSet_0 rfl (lv_at hl 1 rfl) ?_
  refine su_ci (wr := [(h, .inr (5, [.ref w])), (w, .inl (cZ, 301, .inl (fB f)))]) (su_runSI (As := [.int (nI u)]) (rest := []) ⟨hx, hb, hml, hown, hts⟩ (k_isCell l D cI cL cZ H.size (u) (hu)) (hts _ q_311) (hts _ q_312) (hts _ q_298) (hts _ q_35) (hts _ q_299) (lw_gC q_299) rfl rfl rfl 1 rfl (by decide +kernel) ⟨Nat.le_trans (Nat.le_of_ble_eq_true rfl) hR1, Nat.le_trans (Nat.le_of_ble_eq_true rfl) hR2⟩ (su_ps hN hK hP hD [] [0, 1, 2] rfl rfl rfl) rfl rfl hl.1 rfl (lv_room (Nat.le_of_ble_eq_true rfl)) dX5_isSet_1 ⟨Nat.le_trans (Nat.le_of_ble_eq_true rfl) hR3, Nat.le_trans (Nat.le_of_ble_eq_true rfl) hR4⟩) hP hD hS hA [] [0, 1] rfl rfl (by decide) (by decide) (fun r uu H locs hw hP hD hS => ?_)
  obtain rfl : r = bI true := hw
  have hP : va_P D vwCl [(h, .inr (5, [.ref w])), (w, .inl (cZ, 301, .inl (fB f)))] H := hP
  have hD : va_D A [(h, .inr (5, [.ref w])), (w, .inl (cZ, 301, .inl (fB f)))] := hD
  refine lv_if_eq (tgt := 20) hx hb dX5_isSet_4 (by decide) (fun c4 => ?_) (fun c4 => ?_)
  · have c4 : true = false := bI_e c4
    exact absurd c4 (by decide)
  · have c4 : true = true := bI_n c4
    refine lv_aload_n hx hb dX5_isSet_7 rfl (lv_at hl 0 rfl) ?_
    refine va_get (D := D) (ci := 5) (v := .ref w) (C := RX5) (T := TX5) (N := 1) hx hb hts in_X5 hown hK hP 0 rfl rfl 0 (by decide) k_163 (fun _ h9 => h9) rfl dX5_isSet_8 ?_
    refine lv_iload_n hx hb dX5_isSet_11 rfl (lv_at hl 1 rfl) ?_
    refine su_zald hx hb hK hP 1 2 rfl rfl (i := u) (by omega) (by decide) (bI (f u)) (rfl) dX5_isSet_12 ?_
    refine lv_if_eq (tgt := 20) hx hb dX5_isSet_13 (by decide) (fun c13 => ?_) (fun c13 => ?_)
    · have c13 : f u = false := bI_e c13
      refine lv_iconst (v := nI 0) hx hb dX5_isSet_20 (by decide) ?_
      rw [hQ]
      exact su_ez hx hb hr hlocks hS dX5_isSet_21 (by decide) () (by rw [c13]; decide) hP hD
    · have c13 : f u = true := bI_n c13
      refine lv_iconst (v := nI 1) hx hb dX5_isSet_16 (by decide) ?_
      refine lv_goto (tgt := 21) hx hb dX5_isSet_17 (by decide) ?_
      rw [hQ]
      exact su_ez hx hb hr hlocks hS dX5_isSet_21 (by decide) () (by rw [c13]; decide) hP hD
set_option maxHeartbeats 4000000 in
set_option maxRecDepth 100000 in
theorem k_setCount (l : Launch) (D : va_G) (cI cL cZ : ClassId) (sz : Nat) (h : Nat) (w : Nat) (f : Nat → Bool) :
    Met l yX5_countSet (ws_ yX5_countSet cX5_countSet 3 (some .int)) { frames := 0, cells := 0, slots := 0, locals := 0 } (su_pre D (su_T cI cL cZ) sz [(h, .inr (5, [.ref w])), (w, .inl (cZ, 301, .inl (fB f)))] [.ref h]) (su_qi D (va_A [(h, .inr (5, [.ref w])), (w, .inl (cZ, 301, .inl (fB f)))] sz) (fun (r : Int32) (uu : Unit) => r = nI (su_ct f 301)) (fun (uu : Unit) => [(h, .inr (5, [.ref w])), (w, .inl (cZ, 301, .inl (fB f)))])) 0 0 (va_A [(h, .inr (5, [.ref w])), (w, .inl (cZ, 301, .inl (fB f)))] sz) := by
  refine su_met (Qf := fun A => su_qi D A (fun (r : Int32) (uu : Unit) => r = nI (su_ct f 301)) (fun (uu : Unit) => [(h, .inr (5, [.ref w])), (w, .inl (cZ, 301, .inl (fB f)))])) (cc := cX5_countSet) (maxL := 3) (ret := (some .int)) (by decide) (Nat.le_of_ble_eq_true rfl) ?_
  intro p e s m args below meth c R Q A H locs ls hx hb hr hlocks hin hml hown hts hN hP hK hD hA hS hRm hQ hl
  have hown : s.vm.findClass RX5 = some m.cls := hown
  have hl : lv_has ls 3 [(0, .ref h)] := hl
  have hR3 : 0 ≤ R.cells := by rw [hRm]; exact Nat.le_of_ble_eq_true rfl
  have hR4 : 0 ≤ R.slots := by rw [hRm]; exact Nat.le_of_ble_eq_true rfl
  have k_163 := hts _ q_163
  refine lv_iconst (v := nI 0) hx hb dX5_countSet_0 (by decide) ?_
  refine lv_istore_n (lv' := [(1, .int (nI 0)), (0, .ref h)]) hx hb dX5_countSet_1 rfl hl (by decide) rfl (fun ls hl => ?_)
  refine lv_iconst (v := nI 0) hx hb dX5_countSet_2 (by decide) ?_
  refine lv_istore_n (lv' := [(2, .int (nI 0)), (1, .int (nI 0)), (0, .ref h)]) hx hb dX5_countSet_3 rfl hl (by decide) rfl (fun ls hl => ?_)
  have loop4 : ∀ (k4 : Nat) (i : Nat), (i ≤ 301) → 301 - i < k4 → ∀ (H : Heap) (locs : List Loc), va_P D vwCl [(h, .inr (5, [.ref w])), (w, .inl (cZ, 301, .inl (fB f)))] H → va_D A [(h, .inr (5, [.ref w])), (w, .inl (cZ, 301, .inl (fB f)))] → va_S A s.heap H locs → ∀ ls : Array Slot, lv_has ls 3 [(2, .int (nI i)), (1, .int (nI (su_ct f i))), (0, .ref h)] → W p l e R s m args below meth c H locs 0 0 Q (F0 m 4 ls []) := by
    intro k4
    induction k4 with
    | zero => intro i hi hk; exact absurd hk (Nat.not_lt_zero _)
    | succ k4 ih4 =>
      intro i hi hk4 H locs hP hD hS ls hl
      refine lv_iload_n hx hb dX5_countSet_4 rfl (lv_at hl 0 rfl) ?_
      refine lv_sipush (v := nI 300) hx hb dX5_countSet_5 (by decide) ?_
      refine lv_icmp_gt (tgt := 29) hx hb dX5_countSet_8 (by decide) (fun c8 => ?_) (fun c8 => ?_)
      · have c8 : 300 < i := su_lt (by omega) (by omega) c8
        refine lv_iload_n hx hb dX5_countSet_29 rfl (lv_at hl 1 rfl) ?_
        rw [hQ]
        exact su_ei hx hb hr hlocks hS dX5_countSet_30 () (by rw [show i = 301 by omega]) hP hD
      · have c8 : i ≤ 300 := su_nlt (by omega) (by omega) c8
        refine lv_aload_n hx hb dX5_countSet_11 rfl (lv_at hl 2 rfl) ?_
        refine va_get (D := D) (ci := 5) (v := .ref w) (C := RX5) (T := TX5) (N := 1) hx hb hts in_X5 hown hK hP 0 rfl rfl 0 (by decide) k_163 (fun _ h9 => h9) rfl dX5_countSet_12 ?_
        refine lv_iload_n hx hb dX5_countSet_15 rfl (lv_at hl 0 rfl) ?_
        refine su_zald hx hb hK hP 1 2 rfl rfl (i := i) (by omega) (by decide) (bI (f i)) (rfl) dX5_countSet_16 ?_
        refine lv_if_eq (tgt := 23) hx hb dX5_countSet_17 (by decide) (fun c17 => ?_) (fun c17 => ?_)
        · have c17 : f i = false := bI_e c17
          refine lv_iinc (v := nI (i + 1)) (lv' := [(2, .int (nI (i + 1))), (1, .int (nI (su_ct f i))), (0, .ref h)]) hx hb dX5_countSet_23 hl (k := 0) rfl (su_inc _) (by decide) rfl (fun ls hl => ?_)
          refine lv_goto (tgt := 4) hx hb dX5_countSet_26 (by decide) ?_
          have hl : lv_has ls 3 [(2, .int (nI (i + 1))), (1, .int (nI (su_ct f (i + 1)))), (0, .ref h)] := by rw [show (nI (su_ct f (i + 1))) = (nI (su_ct f i)) from (by rw [su_ct, c17]; simp)]; exact hl
          exact ih4 (i + 1) (by omega) (by omega) _ _ hP hD hS _ (lv_sub hl [0, 1, 2] rfl)
        · have c17 : f i = true := bI_n c17
          refine lv_iinc (v := nI (su_ct f i + 1)) (lv' := [(1, .int (nI (su_ct f i + 1))), (2, .int (nI i)), (0, .ref h)]) hx hb dX5_countSet_20 hl (k := 1) rfl (su_inc _) (by decide) rfl (fun ls hl => ?_)
          refine lv_iinc (v := nI (i + 1)) (lv' := [(2, .int (nI (i + 1))), (1, .int (nI (su_ct f i + 1))), (0, .ref h)]) hx hb dX5_countSet_23 hl (k := 1) rfl (su_inc _) (by decide) rfl (fun ls hl => ?_)
          refine lv_goto (tgt := 4) hx hb dX5_countSet_26 (by decide) ?_
          have hl : lv_has ls 3 [(2, .int (nI (i + 1))), (1, .int (nI (su_ct f (i + 1)))), (0, .ref h)] := by rw [show (nI (su_ct f (i + 1))) = (nI (su_ct f i + 1)) from (by rw [su_ct, c17]; simp)]; exact hl
          exact ih4 (i + 1) (by omega) (by omega) _ _ hP hD hS _ (lv_sub hl [0, 1, 2] rfl)
  exact loop4 ((301 - (0)) + 1) (0) (by omega) (by omega) _ _ hP hD hS _ (lv_sub hl [0, 1, 2] rfl)
set_option maxHeartbeats 4000000 in
set_option maxRecDepth 100000 in
theorem k_setEnd (l : Launch) (D : va_G) (cI cL cZ : ClassId) (sz : Nat) (h : Nat) (w : Nat) (f : Nat → Bool) :
    Met l yX5_endOfSet (ws_ yX5_endOfSet cX5_endOfSet 2 (some .int)) { frames := 2, cells := 0, slots := 0, locals := 60 } (su_pre D (su_T cI cL cZ) sz [(h, .inr (5, [.ref w])), (w, .inl (cZ, 301, .inl (fB f)))] [.ref h]) (su_qi D (va_A [(h, .inr (5, [.ref w])), (w, .inl (cZ, 301, .inl (fB f)))] sz) (fun (r : Int32) (uu : Unit) => r = nI (su_endB f 301)) (fun (uu : Unit) => [(h, .inr (5, [.ref w])), (w, .inl (cZ, 301, .inl (fB f)))])) 0 0 (va_A [(h, .inr (5, [.ref w])), (w, .inl (cZ, 301, .inl (fB f)))] sz) := by
  refine su_met (Qf := fun A => su_qi D A (fun (r : Int32) (uu : Unit) => r = nI (su_endB f 301)) (fun (uu : Unit) => [(h, .inr (5, [.ref w])), (w, .inl (cZ, 301, .inl (fB f)))])) (cc := cX5_endOfSet) (maxL := 2) (ret := (some .int)) (by decide) (Nat.le_of_ble_eq_true rfl) ?_
  intro p e s m args below meth c R Q A H locs ls hx hb hr hlocks hin hml hown hts hN hP hK hD hA hS hRm hQ hl
  have hown : s.vm.findClass RX5 = some m.cls := hown
  have hl : lv_has ls 2 [(0, .ref h)] := hl
  have hR1 : 2 ≤ R.frames := by rw [hRm]; exact Nat.le_of_ble_eq_true rfl
  have hR2 : 60 ≤ R.locals := by rw [hRm]; exact Nat.le_of_ble_eq_true rfl
  have hR3 : 0 ≤ R.cells := by rw [hRm]; exact Nat.le_of_ble_eq_true rfl
  have hR4 : 0 ≤ R.slots := by rw [hRm]; exact Nat.le_of_ble_eq_true rfl
  refine lv_sipush (v := nI 301) hx hb dX5_endOfSet_0 (by decide) ?_
  refine lv_istore_n (lv' := [(1, .int (nI 301)), (0, .ref h)]) hx hb dX5_endOfSet_3 rfl hl (by decide) rfl (fun ls hl => ?_)
  have loop4 : ∀ (k4 : Nat) (i : Nat), (i ≤ 301) → (su_endB f 301 = su_endB f i) → i < k4 → ∀ (H : Heap) (locs : List Loc), va_P D vwCl [(h, .inr (5, [.ref w])), (w, .inl (cZ, 301, .inl (fB f)))] H → va_D A [(h, .inr (5, [.ref w])), (w, .inl (cZ, 301, .inl (fB f)))] → va_S A s.heap H locs → ∀ ls : Array Slot, lv_has ls 2 [(1, .int (nI i)), (0, .ref h)] → W p l e R s m args below meth c H locs 0 0 Q (F0 m 4 ls []) := by
    intro k4
    induction k4 with
    | zero => intro i hi hE hk; exact absurd hk (Nat.not_lt_zero _)
    | succ k4 ih4 =>
      intro i hi hE hk4 H locs hP hD hS ls hl
      refine lv_iload_n hx hb dX5_endOfSet_4 rfl (lv_at hl 0 rfl) ?_
      refine lv_if_le (tgt := 24) hx hb dX5_endOfSet_5 (by decide) (fun c5 => ?_) (fun c5 => ?_)
      · have c5 : i = 0 := su_le0 (by omega) c5
        refine lv_iload_n hx hb dX5_endOfSet_24 rfl (lv_at hl 0 rfl) ?_
        rw [hQ]
        exact su_ei hx hb hr hlocks hS dX5_endOfSet_25 () (by rw [hE]; first | (rw [c5]; rfl) | rw [su_endB_hit c5 c15]) hP hD
      · have c5 : 0 < i := su_nle0 c5
        refine lv_aload_n hx hb dX5_endOfSet_8 rfl (lv_at hl 1 rfl) ?_
        refine lv_iload_n hx hb dX5_endOfSet_9 rfl (lv_at hl 0 rfl) ?_
        refine lv_iconst (v := nI 1) hx hb dX5_endOfSet_10 (by decide) ?_
        refine lv_isub hx hb dX5_endOfSet_11 ?_
        refine su_eqi (nI (i - 1)) (pk_sub (by omega)) ?_
        refine su_ci (wr := []) (va_runV (As := [.int (nI (i - 1))]) (rest := []) ⟨hx, hb, hml, hown, hts⟩ (k_setIsSet l D cI cL cZ H.size (h) (w) (f) (i - 1) (by omega)) (cwV 1 hts (lw_gV q_417 q_383 q_384 q_40 q_385) rfl rfl rfl (by decide +kernel) ⟨Nat.le_trans (Nat.le_of_ble_eq_true rfl) hR1, Nat.le_trans (Nat.le_of_ble_eq_true rfl) hR2⟩) (su_pv hN hK hP hD [0, 1] [0, 1, 2] rfl rfl rfl (ci := 5) (q0 := 0) rfl rfl rfl) rfl rfl hl.1 rfl (lv_room (Nat.le_of_ble_eq_true rfl)) dX5_endOfSet_12 ⟨Nat.le_trans (Nat.le_of_ble_eq_true rfl) hR3, Nat.le_trans (Nat.le_of_ble_eq_true rfl) hR4⟩) hP hD hS hA [0, 1] [] rfl rfl (by decide) (by decide) (fun r uu H locs hw hP hD hS => ?_)
        obtain rfl : r = bI (f (i - 1)) := hw
        have hP : va_P D vwCl [(h, .inr (5, [.ref w])), (w, .inl (cZ, 301, .inl (fB f)))] H := hP
        have hD : va_D A [(h, .inr (5, [.ref w])), (w, .inl (cZ, 301, .inl (fB f)))] := hD
        refine lv_if_ne (tgt := 24) hx hb dX5_endOfSet_15 (by decide) (fun c15 => ?_) (fun c15 => ?_)
        · have c15 : f (i - 1) = true := bI_n c15
          refine lv_iload_n hx hb dX5_endOfSet_24 rfl (lv_at hl 0 rfl) ?_
          rw [hQ]
          exact su_ei hx hb hr hlocks hS dX5_endOfSet_25 () (by rw [hE]; first | (rw [c5]; rfl) | rw [su_endB_hit c5 c15]) hP hD
        · have c15 : f (i - 1) = false := bI_e c15
          refine lv_iinc (v := nI (i - 1)) (lv' := [(1, .int (nI (i - 1))), (0, .ref h)]) hx hb dX5_endOfSet_18 hl (k := 0) rfl (sb_m1 (by omega)) (by decide) rfl (fun ls hl => ?_)
          refine lv_goto (tgt := 4) hx hb dX5_endOfSet_21 (by decide) ?_
          exact ih4 (i - 1) (by omega) (by rw [hE]; exact su_endB_miss c5 c15) (by omega) _ _ hP hD hS _ (lv_sub hl [0, 1] rfl)
  exact loop4 (((301)) + 1) (301) (by omega) (rfl) (by omega) _ _ hP hD hS _ (lv_sub hl [0, 1] rfl)
set_option maxHeartbeats 4000000 in
set_option maxRecDepth 100000 in
theorem k_leaveOut (l : Launch) (D : va_G) (cI cL cZ : ClassId) (sz : Nat) (h : Nat) (w : Nat) (f : Nat → Nat) (num : Nat) (h1 : 1 ≤ num) (h3 : num ≤ 300) :
    Met l yX9_leaveOut (ws_ yX9_leaveOut cX9_leaveOut 3 none) { frames := 0, cells := 0, slots := 0, locals := 0 } (su_pre D (su_T cI cL cZ) sz [(h, .inr (8, [.ref w])), (w, .inl (cL, 301, .inr (.inl (fL (dnT opW num f)))))] [.ref h, .int (nI num)]) (su_qv D (va_A [(h, .inr (8, [.ref w])), (w, .inl (cL, 301, .inr (.inl (fL (dnT opW num f)))))] sz) (fun (uu : Unit) => True) (fun (uu : Unit) => [(h, .inr (8, [.ref w])), (w, .inl (cL, 301, .inr (.inl (fL f))))])) 0 0 (va_A [(h, .inr (8, [.ref w])), (w, .inl (cL, 301, .inr (.inl (fL (dnT opW num f)))))] sz) := by
  refine su_met (Qf := fun A => su_qv D A (fun (uu : Unit) => True) (fun (uu : Unit) => [(h, .inr (8, [.ref w])), (w, .inl (cL, 301, .inr (.inl (fL f))))])) (cc := cX9_leaveOut) (maxL := 3) (ret := none) (by decide) (Nat.le_of_ble_eq_true rfl) ?_
  intro p e s m args below meth c R Q A H locs ls hx hb hr hlocks hin hml hown hts hN hP hK hD hA hS hRm hQ hl
  have hown : s.vm.findClass RX9 = some m.cls := hown
  have hl : lv_has ls 3 [(0, .ref h), (1, .int (nI num))] := hl
  have hR3 : 0 ≤ R.cells := by rw [hRm]; exact Nat.le_of_ble_eq_true rfl
  have hR4 : 0 ≤ R.slots := by rw [hRm]; exact Nat.le_of_ble_eq_true rfl
  have k_123 := hts _ q_123
  refine lv_iload_n hx hb dX9_leaveOut_0 rfl (lv_at hl 1 rfl) ?_
  refine lv_iconst (v := nI 1) hx hb dX9_leaveOut_1 (by decide) ?_
  refine lv_icmp_ge (tgt := 6) hx hb dX9_leaveOut_2 (by decide) (fun c2 => ?_) (fun c2 => ?_)
  · have c2 : 1 ≤ num := su_ge (by omega) (by omega) c2
    refine lv_iload_n hx hb dX9_leaveOut_6 rfl (lv_at hl 1 rfl) ?_
    refine lv_istore_n (lv' := [(2, .int (nI num)), (0, .ref h), (1, .int (nI num))]) hx hb dX9_leaveOut_7 rfl hl (by decide) rfl (fun ls hl => ?_)
    have loop8 : ∀ (k8 : Nat) (t : Nat), (num ≤ t) → (t ≤ 301) → 301 - t < k8 → ∀ (H : Heap) (locs : List Loc), va_P D vwCl [(h, .inr (8, [.ref w])), (w, .inl (cL, 301, .inr (.inl (fL (loP num f t)))))] H → va_D A [(h, .inr (8, [.ref w])), (w, .inl (cL, 301, .inr (.inl (fL (loP num f t)))))] → va_S A s.heap H locs → ∀ ls : Array Slot, lv_has ls 3 [(2, .int (nI t)), (0, .ref h), (1, .int (nI num))] → W p l e R s m args below meth c H locs 0 0 Q (F0 m 8 ls []) := by
      intro k8
      induction k8 with
      | zero => intro t ht ht2 hk; exact absurd hk (Nat.not_lt_zero _)
      | succ k8 ih8 =>
        intro t ht ht2 hk8 H locs hP hD hS ls hl
        refine lv_iload_n hx hb dX9_leaveOut_8 rfl (lv_at hl 0 rfl) ?_
        refine lv_sipush (v := nI 300) hx hb dX9_leaveOut_9 (by decide) ?_
        refine lv_icmp_gt (tgt := 38) hx hb dX9_leaveOut_12 (by decide) (fun c12 => ?_) (fun c12 => ?_)
        · have c12 : 300 < t := su_lt (by omega) (by omega) c12
          obtain ⟨hP, hD⟩ := su_reL (q0 := 1) (fL f) hP hD rfl (fun j hj => loP_N (by omega))
          have hP : va_P D vwCl [(h, .inr (8, [.ref w])), (w, .inl (cL, 301, .inr (.inl (fL f))))] H := hP
          have hD : va_D A [(h, .inr (8, [.ref w])), (w, .inl (cL, 301, .inr (.inl (fL f))))] := hD
          rw [hQ]
          exact su_ev hx hb hr hlocks hS dX9_leaveOut_38 () (trivial) hP hD
        · have c12 : t ≤ 300 := su_nlt (by omega) (by omega) c12
          refine lv_aload_n hx hb dX9_leaveOut_15 rfl (lv_at hl 1 rfl) ?_
          refine va_get (D := D) (ci := 8) (v := .ref w) (C := RX9) (T := TX9) (N := 1) hx hb hts in_X9 hown hK hP 0 rfl rfl 0 (by decide) k_123 (fun _ h9 => h9) rfl dX9_leaveOut_16 ?_
          refine lv_iload_n hx hb dX9_leaveOut_19 rfl (lv_at hl 0 rfl) ?_
          refine lv_dup2_11 hx hb dX9_leaveOut_20 rfl rfl ?_
          refine su_lald hx hb hK hP 1 1 rfl rfl (i := t) (by omega) (by decide) (lN (f t + f (t - num))) (congrArg lN (loP_at ht (by omega))) dX9_leaveOut_21 ?_
          refine lv_aload_n hx hb dX9_leaveOut_22 rfl (lv_at hl 1 rfl) ?_
          refine va_get (D := D) (ci := 8) (v := .ref w) (C := RX9) (T := TX9) (N := 1) hx hb hts in_X9 hown hK hP 0 rfl rfl 0 (by decide) k_123 (fun _ h9 => h9) rfl dX9_leaveOut_23 ?_
          refine lv_iload_n hx hb dX9_leaveOut_26 rfl (lv_at hl 0 rfl) ?_
          refine lv_iload_n hx hb dX9_leaveOut_27 rfl (lv_at hl 2 rfl) ?_
          refine lv_isub hx hb dX9_leaveOut_28 ?_
          refine su_eqi (nI (t - num)) (pk_sub (by omega)) ?_
          refine su_lald hx hb hK hP 1 1 rfl rfl (i := (t - num)) (by omega) (by decide) (lN (f (t - num))) (congrArg lN (loP_lo (by omega))) dX9_leaveOut_29 ?_
          refine lv_lsub hx hb dX9_leaveOut_30 ?_
          refine su_eql (lN (f t)) (by rw [lN_sub (by omega), Nat.add_sub_cancel]) ?_
          refine su_last hx hb hK hP hD hS 1 1 rfl rfl (i := t) (by omega) (by decide) (fL (va_up (loP num f t) t (f t))) (fun j _ => su_upL _ _ _ j) dX9_leaveOut_31 (fun H locs hP hD hS => ?_)
          have hP : va_P D vwCl [(h, .inr (8, [.ref w])), (w, .inl (cL, 301, .inr (.inl (fL (va_up (loP num f t) t (f t))))))] H := hP
          have hD : va_D A [(h, .inr (8, [.ref w])), (w, .inl (cL, 301, .inr (.inl (fL (va_up (loP num f t) t (f t))))))] := hD
          refine lv_iinc (v := nI (t + 1)) (lv' := [(2, .int (nI (t + 1))), (0, .ref h), (1, .int (nI num))]) hx hb dX9_leaveOut_32 hl (k := 0) rfl (su_inc _) (by decide) rfl (fun ls hl => ?_)
          refine lv_goto (tgt := 8) hx hb dX9_leaveOut_35 (by decide) ?_
          obtain ⟨hP, hD⟩ := su_reL (q0 := 1) (fL (loP num f (t + 1))) hP hD rfl (fun j _ => loP_S j)
          have hP : va_P D vwCl [(h, .inr (8, [.ref w])), (w, .inl (cL, 301, .inr (.inl (fL (loP num f (t + 1))))))] H := hP
          have hD : va_D A [(h, .inr (8, [.ref w])), (w, .inl (cL, 301, .inr (.inl (fL (loP num f (t + 1))))))] := hD
          exact ih8 (t + 1) (by omega) (by omega) (by omega) _ _ hP hD hS _ (lv_sub hl [0, 1, 2] rfl)
    obtain ⟨hP, hD⟩ := su_reL (q0 := 1) (fL (loP num f (num))) hP hD rfl (fun j _ => loP_0)
    have hP : va_P D vwCl [(h, .inr (8, [.ref w])), (w, .inl (cL, 301, .inr (.inl (fL (loP num f (num))))))] H := hP
    have hD : va_D A [(h, .inr (8, [.ref w])), (w, .inl (cL, 301, .inr (.inl (fL (loP num f (num))))))] := hD
    exact loop8 ((301 - (num)) + 1) (num) (by omega) (by omega) (by omega) _ _ hP hD hS _ (lv_sub hl [0, 1, 2] rfl)
  · have c2 : num < 1 := su_nge (by omega) (by omega) c2
    omega
set_option maxHeartbeats 4000000 in
set_option maxRecDepth 100000 in
theorem k_fillOnce (l : Launch) (D : va_G) (cI cL cZ : ClassId) (sz : Nat) (h : Nat) (b : Nat) (ev : Nat) (bw : Nat) (bs : Nat) (f0 : Nat → Int64) (fs : Nat → Int64) (h2 : Nat) (a2 : Nat) (g : Nat → Nat) (n : Nat) (hn : n ≤ 20) (hT : su_sm g n ≤ 300) :
    Met l yX6_fillOnce (ws_ yX6_fillOnce cX6_fillOnce 3 none) { frames := 3, cells := 0, slots := 0, locals := 100 } (su_pre D (su_T cI cL cZ) sz [(h, .inr (6, [.ref b, .ref ev])), (b, .inr (0, [.ref bw, .ref bs])), (bw, .inl (cL, 5, .inr (.inl f0))), (bs, .inl (cL, 5, .inr (.inl fs))), (h2, .inr (3, [.ref a2, .int (nI n)])), (a2, .inl (cI, 20, .inl (fN g)))] [.ref h, .ref h2]) (su_qv D (va_A [(h, .inr (6, [.ref b, .ref ev])), (b, .inr (0, [.ref bw, .ref bs])), (bw, .inl (cL, 5, .inr (.inl f0))), (bs, .inl (cL, 5, .inr (.inl fs))), (h2, .inr (3, [.ref a2, .int (nI n)])), (a2, .inl (cI, 20, .inl (fN g)))] sz) (fun (uu : (Nat → Int64)) => True) (fun (uu : (Nat → Int64)) => [(h, .inr (6, [.ref b, .ref ev])), (b, .inr (0, [.ref bw, .ref bs])), (bw, .inl (cL, 5, .inr (.inl (bW (shV g n))))), (bs, .inl (cL, 5, .inr (.inl uu))), (h2, .inr (3, [.ref a2, .int (nI n)])), (a2, .inl (cI, 20, .inl (fN g)))])) 0 0 (va_A [(h, .inr (6, [.ref b, .ref ev])), (b, .inr (0, [.ref bw, .ref bs])), (bw, .inl (cL, 5, .inr (.inl f0))), (bs, .inl (cL, 5, .inr (.inl fs))), (h2, .inr (3, [.ref a2, .int (nI n)])), (a2, .inl (cI, 20, .inl (fN g)))] sz) := by
  refine su_met (Qf := fun A => su_qv D A (fun (uu : (Nat → Int64)) => True) (fun (uu : (Nat → Int64)) => [(h, .inr (6, [.ref b, .ref ev])), (b, .inr (0, [.ref bw, .ref bs])), (bw, .inl (cL, 5, .inr (.inl (bW (shV g n))))), (bs, .inl (cL, 5, .inr (.inl uu))), (h2, .inr (3, [.ref a2, .int (nI n)])), (a2, .inl (cI, 20, .inl (fN g)))])) (cc := cX6_fillOnce) (maxL := 3) (ret := none) (by decide) (Nat.le_of_ble_eq_true rfl) ?_
  intro p e s m args below meth c R Q A H locs ls hx hb hr hlocks hin hml hown hts hN hP hK hD hA hS hRm hQ hl
  have hown : s.vm.findClass RX6 = some m.cls := hown
  have hl : lv_has ls 3 [(0, .ref h), (1, .ref h2)] := hl
  have hR1 : 3 ≤ R.frames := by rw [hRm]; exact Nat.le_of_ble_eq_true rfl
  have hR2 : 100 ≤ R.locals := by rw [hRm]; exact Nat.le_of_ble_eq_true rfl
  have hR3 : 0 ≤ R.cells := by rw [hRm]; exact Nat.le_of_ble_eq_true rfl
  have hR4 : 0 ≤ R.slots := by rw [hRm]; exact Nat.le_of_ble_eq_true rfl
  have k_105 := hts _ q_105
  have k_70 := va_Nw.use (A := args) rfl (hN _ q_70)
  refine lv_aload_n hx hb dX6_fillOnce_0 rfl (lv_at hl 0 rfl) ?_
  refine va_get (D := D) (ci := 6) (v := .ref b) (C := RX6) (T := TX6) (N := 2) hx hb hts in_X6 hown hK hP 0 rfl rfl 0 (by decide) k_105 (fun _ h9 => h9) rfl dX6_fillOnce_1 ?_
  refine lv_iconst (v := nI 1) hx hb dX6_fillOnce_4 (by decide) ?_
  refine su_cv (wr := [(h, .inr (6, [.ref b, .ref ev])), (h2, .inr (3, [.ref a2, .int (nI n)])), (a2, .inl (cI, 20, .inl (fN g)))]) (va_runV (As := [.int (nI 1)]) (rest := []) ⟨hx, hb, hml, hown, hts⟩ (k_become l D cI cL cZ H.size (b) (bw) (bs) (5) (f0) (fs) (1) (by decide) (by decide)) (cwV 1 hts (lw_gV q_343 q_344 q_345 q_34 q_346) rfl rfl rfl (by decide +kernel) ⟨Nat.le_trans (Nat.le_of_ble_eq_true rfl) hR1, Nat.le_trans (Nat.le_of_ble_eq_true rfl) hR2⟩) (su_pv hN hK hP hD [1, 2, 3] [0, 1, 2] rfl rfl rfl (ci := 0) (q0 := 0) rfl rfl rfl) rfl rfl hl.1 rfl (lv_room (Nat.le_of_ble_eq_true rfl)) dX6_fillOnce_5 ⟨Nat.le_trans (Nat.le_of_ble_eq_true rfl) hR3, Nat.le_trans (Nat.le_of_ble_eq_true rfl) hR4⟩) hP hD hS hA [1, 2, 3] [0, 4, 5] rfl rfl (by decide) (by decide) (fun uu H locs hw hP hD hS => ?_)
  have hP : va_P D vwCl [(h, .inr (6, [.ref b, .ref ev])), (h2, .inr (3, [.ref a2, .int (nI n)])), (a2, .inl (cI, 20, .inl (fN g))), (b, .inr (0, [.ref bw, .ref bs])), (bw, .inl (cL, 5, .inr (.inl (bW 1)))), (bs, .inl (cL, 5, .inr (.inl fs)))] H := hP
  have hD : va_D A [(h, .inr (6, [.ref b, .ref ev])), (h2, .inr (3, [.ref a2, .int (nI n)])), (a2, .inl (cI, 20, .inl (fN g))), (b, .inr (0, [.ref bw, .ref bs])), (bw, .inl (cL, 5, .inr (.inl (bW 1)))), (bs, .inl (cL, 5, .inr (.inl fs)))] := hD
  refine lv_iconst (v := nI 0) hx hb dX6_fillOnce_8 (by decide) ?_
  refine lv_istore_n (lv' := [(2, .int (nI 0)), (0, .ref h), (1, .ref h2)]) hx hb dX6_fillOnce_9 rfl hl (by decide) rfl (fun ls hl => ?_)
  have loop10 : ∀ (k10 : Nat) (i : Nat) (f : Nat → Int64), (i ≤ n) → n - i < k10 → ∀ (H : Heap) (locs : List Loc), va_P D vwCl [(h, .inr (6, [.ref b, .ref ev])), (h2, .inr (3, [.ref a2, .int (nI n)])), (a2, .inl (cI, 20, .inl (fN g))), (b, .inr (0, [.ref bw, .ref bs])), (bw, .inl (cL, 5, .inr (.inl (bW (shV g i))))), (bs, .inl (cL, 5, .inr (.inl f)))] H → va_D A [(h, .inr (6, [.ref b, .ref ev])), (h2, .inr (3, [.ref a2, .int (nI n)])), (a2, .inl (cI, 20, .inl (fN g))), (b, .inr (0, [.ref bw, .ref bs])), (bw, .inl (cL, 5, .inr (.inl (bW (shV g i))))), (bs, .inl (cL, 5, .inr (.inl f)))] → va_S A s.heap H locs → ∀ ls : Array Slot, lv_has ls 3 [(2, .int (nI i)), (0, .ref h), (1, .ref h2)] → W p l e R s m args below meth c H locs 0 0 Q (F0 m 10 ls []) := by
    intro k10
    induction k10 with
    | zero => intro i f hi hk; exact absurd hk (Nat.not_lt_zero _)
    | succ k10 ih10 =>
      intro i f hi hk10 H locs hP hD hS ls hl
      refine lv_iload_n hx hb dX6_fillOnce_10 rfl (lv_at hl 0 rfl) ?_
      refine lv_aload_n hx hb dX6_fillOnce_11 rfl (lv_at hl 2 rfl) ?_
      refine va_getN (D := D) (ci := 3) (v := .int (nI n)) (C := RX3) (T := TX3) (N := 2) hx hb hts in_X3 hown hK hP 1 rfl rfl 1 (by decide) k_70 (fun _ h9 => h9) rfl dX6_fillOnce_12 ?_
      refine lv_icmp_ge (tgt := 40) hx hb dX6_fillOnce_15 (by decide) (fun c15 => ?_) (fun c15 => ?_)
      · have c15 : n ≤ i := su_ge (by omega) (by omega) c15
        obtain ⟨hP, hD⟩ := su_reL (q0 := 4) (bW (shV g n)) hP hD rfl (fun j _ => by rw [show n = i by omega])
        have hP : va_P D vwCl [(h, .inr (6, [.ref b, .ref ev])), (h2, .inr (3, [.ref a2, .int (nI n)])), (a2, .inl (cI, 20, .inl (fN g))), (b, .inr (0, [.ref bw, .ref bs])), (bw, .inl (cL, 5, .inr (.inl (bW (shV g n))))), (bs, .inl (cL, 5, .inr (.inl f)))] H := hP
        have hD : va_D A [(h, .inr (6, [.ref b, .ref ev])), (h2, .inr (3, [.ref a2, .int (nI n)])), (a2, .inl (cI, 20, .inl (fN g))), (b, .inr (0, [.ref bw, .ref bs])), (bw, .inl (cL, 5, .inr (.inl (bW (shV g n))))), (bs, .inl (cL, 5, .inr (.inl f)))] := hD
        rw [hQ]
        exact su_ev hx hb hr hlocks hS dX6_fillOnce_40 (f) (trivial) (hP.sub [0, 3, 4, 5, 1, 2] rfl) (hD.sub [0, 3, 4, 5, 1, 2] (by decide) rfl)
      · have c15 : i < n := su_nge (by omega) (by omega) c15
        have hgi := su_sm_le (g := g) c15
        refine lv_aload_n hx hb dX6_fillOnce_18 rfl (lv_at hl 1 rfl) ?_
        refine va_get (D := D) (ci := 6) (v := .ref b) (C := RX6) (T := TX6) (N := 2) hx hb hts in_X6 hown hK hP 0 rfl rfl 0 (by decide) k_105 (fun _ h9 => h9) rfl dX6_fillOnce_19 ?_
        refine lv_aload_n hx hb dX6_fillOnce_22 rfl (lv_at hl 1 rfl) ?_
        refine va_get (D := D) (ci := 6) (v := .ref b) (C := RX6) (T := TX6) (N := 2) hx hb hts in_X6 hown hK hP 0 rfl rfl 0 (by decide) k_105 (fun _ h9 => h9) rfl dX6_fillOnce_23 ?_
        refine lv_aload_n hx hb dX6_fillOnce_26 rfl (lv_at hl 2 rfl) ?_
        refine lv_iload_n hx hb dX6_fillOnce_27 rfl (lv_at hl 0 rfl) ?_
        refine su_ci (wr := [(h, .inr (6, [.ref b, .ref ev])), (b, .inr (0, [.ref bw, .ref bs])), (bw, .inl (cL, 5, .inr (.inl (bW (shV g i))))), (bs, .inl (cL, 5, .inr (.inl f)))]) (va_runV (As := [.int (nI i)]) (rest := [.ref b, .ref b]) ⟨hx, hb, hml, hown, hts⟩ (k_numberAt l D cI cL cZ H.size (h2) (a2) (g) (n) (i) (hn) (c15)) (cwV 1 hts (lw_gV q_347 q_279 q_280 q_32 q_281) rfl rfl rfl (by decide +kernel) ⟨Nat.le_trans (Nat.le_of_ble_eq_true rfl) hR1, Nat.le_trans (Nat.le_of_ble_eq_true rfl) hR2⟩) (su_pv hN hK hP hD [1, 2] [0, 1, 2] rfl rfl rfl (ci := 3) (q0 := 0) rfl rfl rfl) rfl rfl hl.1 rfl (lv_room (Nat.le_of_ble_eq_true rfl)) dX6_fillOnce_28 ⟨Nat.le_trans (Nat.le_of_ble_eq_true rfl) hR3, Nat.le_trans (Nat.le_of_ble_eq_true rfl) hR4⟩) hP hD hS hA [1, 2] [0, 3, 4, 5] rfl rfl (by decide) (by decide) (fun r uu H locs hw hP hD hS => ?_)
        obtain rfl : r = nI (g i) := hw
        have hP : va_P D vwCl [(h, .inr (6, [.ref b, .ref ev])), (b, .inr (0, [.ref bw, .ref bs])), (bw, .inl (cL, 5, .inr (.inl (bW (shV g i))))), (bs, .inl (cL, 5, .inr (.inl f))), (h2, .inr (3, [.ref a2, .int (nI n)])), (a2, .inl (cI, 20, .inl (fN g)))] H := hP
        have hD : va_D A [(h, .inr (6, [.ref b, .ref ev])), (b, .inr (0, [.ref bw, .ref bs])), (bw, .inl (cL, 5, .inr (.inl (bW (shV g i))))), (bs, .inl (cL, 5, .inr (.inl f))), (h2, .inr (3, [.ref a2, .int (nI n)])), (a2, .inl (cI, 20, .inl (fN g)))] := hD
        refine su_cv (wr := [(h, .inr (6, [.ref b, .ref ev])), (h2, .inr (3, [.ref a2, .int (nI n)])), (a2, .inl (cI, 20, .inl (fN g)))]) (va_runV (As := [.ref b, .int (nI (g i))]) (rest := []) ⟨hx, hb, hml, hown, hts⟩ (k_orS l D cI cL cZ H.size (b) (bw) (bs) (5) (shV g i) (f) (nI (g i)) (((g i : Nat) : Int)) (by decide) (shV_320 hi hT) (nI_toInt (by omega)) (by omega) (by omega)) (cwV 2 hts (lw_gV q_348 q_349 q_350 q_34 q_351) rfl rfl rfl (by decide +kernel) ⟨Nat.le_trans (Nat.le_of_ble_eq_true rfl) hR1, Nat.le_trans (Nat.le_of_ble_eq_true rfl) hR2⟩) (su_pv hN hK hP hD [1, 2, 3] [0, 1, 2] rfl rfl rfl (ci := 0) (q0 := 0) rfl rfl rfl) rfl rfl hl.1 rfl (lv_room (Nat.le_of_ble_eq_true rfl)) dX6_fillOnce_31 ⟨Nat.le_trans (Nat.le_of_ble_eq_true rfl) hR3, Nat.le_trans (Nat.le_of_ble_eq_true rfl) hR4⟩) hP hD hS hA [1, 2, 3] [0, 4, 5] rfl rfl (by decide) (by decide) (fun uu H locs hw hP hD hS => ?_)
        have hP : va_P D vwCl [(h, .inr (6, [.ref b, .ref ev])), (h2, .inr (3, [.ref a2, .int (nI n)])), (a2, .inl (cI, 20, .inl (fN g))), (b, .inr (0, [.ref bw, .ref bs])), (bw, .inl (cL, 5, .inr (.inl (bW ((shV g i) ||| shz (shV g i) (((g i : Nat) : Int))))))), (bs, .inl (cL, 5, .inr (.inl (bW (shz (shV g i) (((g i : Nat) : Int)))))))] H := hP
        have hD : va_D A [(h, .inr (6, [.ref b, .ref ev])), (h2, .inr (3, [.ref a2, .int (nI n)])), (a2, .inl (cI, 20, .inl (fN g))), (b, .inr (0, [.ref bw, .ref bs])), (bw, .inl (cL, 5, .inr (.inl (bW ((shV g i) ||| shz (shV g i) (((g i : Nat) : Int))))))), (bs, .inl (cL, 5, .inr (.inl (bW (shz (shV g i) (((g i : Nat) : Int)))))))] := hD
        refine lv_iinc (v := nI (i + 1)) (lv' := [(2, .int (nI (i + 1))), (0, .ref h), (1, .ref h2)]) hx hb dX6_fillOnce_34 hl (k := 0) rfl (su_inc _) (by decide) rfl (fun ls hl => ?_)
        refine lv_goto (tgt := 10) hx hb dX6_fillOnce_37 (by decide) ?_
        obtain ⟨hP, hD⟩ := su_reL (q0 := 4) (bW (shV g (i + 1))) hP hD rfl (fun j _ => by rw [shz_n]; rfl)
        have hP : va_P D vwCl [(h, .inr (6, [.ref b, .ref ev])), (h2, .inr (3, [.ref a2, .int (nI n)])), (a2, .inl (cI, 20, .inl (fN g))), (b, .inr (0, [.ref bw, .ref bs])), (bw, .inl (cL, 5, .inr (.inl (bW (shV g (i + 1)))))), (bs, .inl (cL, 5, .inr (.inl (bW (shz (shV g i) (((g i : Nat) : Int)))))))] H := hP
        have hD : va_D A [(h, .inr (6, [.ref b, .ref ev])), (h2, .inr (3, [.ref a2, .int (nI n)])), (a2, .inl (cI, 20, .inl (fN g))), (b, .inr (0, [.ref bw, .ref bs])), (bw, .inl (cL, 5, .inr (.inl (bW (shV g (i + 1)))))), (bs, .inl (cL, 5, .inr (.inl (bW (shz (shV g i) (((g i : Nat) : Int)))))))] := hD
        exact ih10 (i + 1) (bW (shz (shV g i) (((g i : Nat) : Int)))) (by omega) (by omega) _ _ hP hD hS _ (lv_sub hl [0, 1, 2] rfl)
  exact loop10 ((n - (0)) + 1) (0) (fs) (by omega) (by omega) _ _ hP hD hS _ (lv_sub hl [0, 1, 2] rfl)
set_option maxHeartbeats 4000000 in
set_option maxRecDepth 100000 in
theorem k_fillOften (l : Launch) (D : va_G) (cI cL cZ : ClassId) (sz : Nat) (h : Nat) (b : Nat) (ev : Nat) (bw : Nat) (bs : Nat) (ew : Nat) (es : Nat) (f0 : Nat → Int64) (fs : Nat → Int64) (h2 : Nat) (a2 : Nat) (g : Nat → Nat) (n : Nat) (hn : n ≤ 20) (hg : ∀ k, k < n → 1 ≤ g k ∧ g k ≤ 300) :
    Met l yX6_fillOften (ws_ yX6_fillOften cX6_fillOften 4 none) { frames := 3, cells := 0, slots := 0, locals := 100 } (su_pre D (su_T cI cL cZ) sz [(h, .inr (6, [.ref b, .ref ev])), (b, .inr (0, [.ref bw, .ref bs])), (bw, .inl (cL, 5, .inr (.inl f0))), (bs, .inl (cL, 5, .inr (.inl fs))), (ev, .inr (0, [.ref ew, .ref es])), (ew, .inl (cL, 5, .inr (.inl (bW (2 ^ 301 - 1))))), (h2, .inr (3, [.ref a2, .int (nI n)])), (a2, .inl (cI, 20, .inl (fN g)))] [.ref h, .ref h2]) (su_qv D (va_A [(h, .inr (6, [.ref b, .ref ev])), (b, .inr (0, [.ref bw, .ref bs])), (bw, .inl (cL, 5, .inr (.inl f0))), (bs, .inl (cL, 5, .inr (.inl fs))), (ev, .inr (0, [.ref ew, .ref es])), (ew, .inl (cL, 5, .inr (.inl (bW (2 ^ 301 - 1))))), (h2, .inr (3, [.ref a2, .int (nI n)])), (a2, .inl (cI, 20, .inl (fN g)))] sz) (fun (uu : (Nat → Int64)) => True) (fun (uu : (Nat → Int64)) => [(h, .inr (6, [.ref b, .ref ev])), (b, .inr (0, [.ref bw, .ref bs])), (bw, .inl (cL, 5, .inr (.inl (bW (ofV g n))))), (bs, .inl (cL, 5, .inr (.inl uu))), (ev, .inr (0, [.ref ew, .ref es])), (ew, .inl (cL, 5, .inr (.inl (bW (2 ^ 301 - 1))))), (h2, .inr (3, [.ref a2, .int (nI n)])), (a2, .inl (cI, 20, .inl (fN g)))])) 0 0 (va_A [(h, .inr (6, [.ref b, .ref ev])), (b, .inr (0, [.ref bw, .ref bs])), (bw, .inl (cL, 5, .inr (.inl f0))), (bs, .inl (cL, 5, .inr (.inl fs))), (ev, .inr (0, [.ref ew, .ref es])), (ew, .inl (cL, 5, .inr (.inl (bW (2 ^ 301 - 1))))), (h2, .inr (3, [.ref a2, .int (nI n)])), (a2, .inl (cI, 20, .inl (fN g)))] sz) := by
  refine su_met (Qf := fun A => su_qv D A (fun (uu : (Nat → Int64)) => True) (fun (uu : (Nat → Int64)) => [(h, .inr (6, [.ref b, .ref ev])), (b, .inr (0, [.ref bw, .ref bs])), (bw, .inl (cL, 5, .inr (.inl (bW (ofV g n))))), (bs, .inl (cL, 5, .inr (.inl uu))), (ev, .inr (0, [.ref ew, .ref es])), (ew, .inl (cL, 5, .inr (.inl (bW (2 ^ 301 - 1))))), (h2, .inr (3, [.ref a2, .int (nI n)])), (a2, .inl (cI, 20, .inl (fN g)))])) (cc := cX6_fillOften) (maxL := 4) (ret := none) (by decide) (Nat.le_of_ble_eq_true rfl) ?_
  intro p e s m args below meth c R Q A H locs ls hx hb hr hlocks hin hml hown hts hN hP hK hD hA hS hRm hQ hl
  have hown : s.vm.findClass RX6 = some m.cls := hown
  have hl : lv_has ls 4 [(0, .ref h), (1, .ref h2)] := hl
  have hR1 : 3 ≤ R.frames := by rw [hRm]; exact Nat.le_of_ble_eq_true rfl
  have hR2 : 100 ≤ R.locals := by rw [hRm]; exact Nat.le_of_ble_eq_true rfl
  have hR3 : 0 ≤ R.cells := by rw [hRm]; exact Nat.le_of_ble_eq_true rfl
  have hR4 : 0 ≤ R.slots := by rw [hRm]; exact Nat.le_of_ble_eq_true rfl
  have k_105 := hts _ q_105
  have k_70 := va_Nw.use (A := args) rfl (hN _ q_70)
  have k_108 := hts _ q_108
  refine lv_aload_n hx hb dX6_fillOften_0 rfl (lv_at hl 0 rfl) ?_
  refine va_get (D := D) (ci := 6) (v := .ref b) (C := RX6) (T := TX6) (N := 2) hx hb hts in_X6 hown hK hP 0 rfl rfl 0 (by decide) k_105 (fun _ h9 => h9) rfl dX6_fillOften_1 ?_
  refine lv_iconst (v := nI 1) hx hb dX6_fillOften_4 (by decide) ?_
  refine su_cv (wr := [(h, .inr (6, [.ref b, .ref ev])), (ev, .inr (0, [.ref ew, .ref es])), (ew, .inl (cL, 5, .inr (.inl (bW (2 ^ 301 - 1))))), (h2, .inr (3, [.ref a2, .int (nI n)])), (a2, .inl (cI, 20, .inl (fN g)))]) (va_runV (As := [.int (nI 1)]) (rest := []) ⟨hx, hb, hml, hown, hts⟩ (k_become l D cI cL cZ H.size (b) (bw) (bs) (5) (f0) (fs) (1) (by decide) (by decide)) (cwV 1 hts (lw_gV q_343 q_344 q_345 q_34 q_346) rfl rfl rfl (by decide +kernel) ⟨Nat.le_trans (Nat.le_of_ble_eq_true rfl) hR1, Nat.le_trans (Nat.le_of_ble_eq_true rfl) hR2⟩) (su_pv hN hK hP hD [1, 2, 3] [0, 1, 2] rfl rfl rfl (ci := 0) (q0 := 0) rfl rfl rfl) rfl rfl hl.1 rfl (lv_room (Nat.le_of_ble_eq_true rfl)) dX6_fillOften_5 ⟨Nat.le_trans (Nat.le_of_ble_eq_true rfl) hR3, Nat.le_trans (Nat.le_of_ble_eq_true rfl) hR4⟩) hP hD hS hA [1, 2, 3] [0, 4, 5, 6, 7] rfl rfl (by decide) (by decide) (fun uu H locs hw hP hD hS => ?_)
  have hP : va_P D vwCl [(h, .inr (6, [.ref b, .ref ev])), (ev, .inr (0, [.ref ew, .ref es])), (ew, .inl (cL, 5, .inr (.inl (bW (2 ^ 301 - 1))))), (h2, .inr (3, [.ref a2, .int (nI n)])), (a2, .inl (cI, 20, .inl (fN g))), (b, .inr (0, [.ref bw, .ref bs])), (bw, .inl (cL, 5, .inr (.inl (bW 1)))), (bs, .inl (cL, 5, .inr (.inl fs)))] H := hP
  have hD : va_D A [(h, .inr (6, [.ref b, .ref ev])), (ev, .inr (0, [.ref ew, .ref es])), (ew, .inl (cL, 5, .inr (.inl (bW (2 ^ 301 - 1))))), (h2, .inr (3, [.ref a2, .int (nI n)])), (a2, .inl (cI, 20, .inl (fN g))), (b, .inr (0, [.ref bw, .ref bs])), (bw, .inl (cL, 5, .inr (.inl (bW 1)))), (bs, .inl (cL, 5, .inr (.inl fs)))] := hD
  refine lv_iconst (v := nI 0) hx hb dX6_fillOften_8 (by decide) ?_
  refine lv_istore_n (lv' := [(2, .int (nI 0)), (0, .ref h), (1, .ref h2)]) hx hb dX6_fillOften_9 rfl hl (by decide) rfl (fun ls hl => ?_)
  have loop10 : ∀ (k10 : Nat) (i : Nat) (f : Nat → Int64), (i ≤ n) → n - i < k10 → ∀ (H : Heap) (locs : List Loc), va_P D vwCl [(h, .inr (6, [.ref b, .ref ev])), (ev, .inr (0, [.ref ew, .ref es])), (ew, .inl (cL, 5, .inr (.inl (bW (2 ^ 301 - 1))))), (h2, .inr (3, [.ref a2, .int (nI n)])), (a2, .inl (cI, 20, .inl (fN g))), (b, .inr (0, [.ref bw, .ref bs])), (bw, .inl (cL, 5, .inr (.inl (bW (ofV g i))))), (bs, .inl (cL, 5, .inr (.inl f)))] H → va_D A [(h, .inr (6, [.ref b, .ref ev])), (ev, .inr (0, [.ref ew, .ref es])), (ew, .inl (cL, 5, .inr (.inl (bW (2 ^ 301 - 1))))), (h2, .inr (3, [.ref a2, .int (nI n)])), (a2, .inl (cI, 20, .inl (fN g))), (b, .inr (0, [.ref bw, .ref bs])), (bw, .inl (cL, 5, .inr (.inl (bW (ofV g i))))), (bs, .inl (cL, 5, .inr (.inl f)))] → va_S A s.heap H locs → ∀ ls : Array Slot, lv_has ls 4 [(2, .int (nI i)), (0, .ref h), (1, .ref h2)] → W p l e R s m args below meth c H locs 0 0 Q (F0 m 10 ls []) := by
    intro k10
    induction k10 with
    | zero => intro i f hi hk; exact absurd hk (Nat.not_lt_zero _)
    | succ k10 ih10 =>
      intro i f hi hk10 H locs hP hD hS ls hl
      refine lv_iload_n hx hb dX6_fillOften_10 rfl (lv_at hl 0 rfl) ?_
      refine lv_aload_n hx hb dX6_fillOften_11 rfl (lv_at hl 2 rfl) ?_
      refine va_getN (D := D) (ci := 3) (v := .int (nI n)) (C := RX3) (T := TX3) (N := 2) hx hb hts in_X3 hown hK hP 3 rfl rfl 1 (by decide) k_70 (fun _ h9 => h9) rfl dX6_fillOften_12 ?_
      refine lv_icmp_ge (tgt := 72) hx hb dX6_fillOften_15 (by decide) (fun c15 => ?_) (fun c15 => ?_)
      · have c15 : n ≤ i := su_ge (by omega) (by omega) c15
        obtain ⟨hP, hD⟩ := su_reL (q0 := 6) (bW (ofV g n)) hP hD rfl (fun j _ => by rw [show n = i by omega])
        have hP : va_P D vwCl [(h, .inr (6, [.ref b, .ref ev])), (ev, .inr (0, [.ref ew, .ref es])), (ew, .inl (cL, 5, .inr (.inl (bW (2 ^ 301 - 1))))), (h2, .inr (3, [.ref a2, .int (nI n)])), (a2, .inl (cI, 20, .inl (fN g))), (b, .inr (0, [.ref bw, .ref bs])), (bw, .inl (cL, 5, .inr (.inl (bW (ofV g n))))), (bs, .inl (cL, 5, .inr (.inl f)))] H := hP
        have hD : va_D A [(h, .inr (6, [.ref b, .ref ev])), (ev, .inr (0, [.ref ew, .ref es])), (ew, .inl (cL, 5, .inr (.inl (bW (2 ^ 301 - 1))))), (h2, .inr (3, [.ref a2, .int (nI n)])), (a2, .inl (cI, 20, .inl (fN g))), (b, .inr (0, [.ref bw, .ref bs])), (bw, .inl (cL, 5, .inr (.inl (bW (ofV g n))))), (bs, .inl (cL, 5, .inr (.inl f)))] := hD
        rw [hQ]
        exact su_ev hx hb hr hlocks hS dX6_fillOften_72 (f) (trivial) (hP.sub [0, 5, 6, 7, 1, 2, 3, 4] rfl) (hD.sub [0, 5, 6, 7, 1, 2, 3, 4] (by decide) rfl)
      · have c15 : i < n := su_nge (by omega) (by omega) c15
        have hgi := hg i c15
        refine lv_aload_n hx hb dX6_fillOften_18 rfl (lv_at hl 2 rfl) ?_
        refine lv_iload_n hx hb dX6_fillOften_19 rfl (lv_at hl 0 rfl) ?_
        refine su_ci (wr := [(h, .inr (6, [.ref b, .ref ev])), (ev, .inr (0, [.ref ew, .ref es])), (ew, .inl (cL, 5, .inr (.inl (bW (2 ^ 301 - 1))))), (b, .inr (0, [.ref bw, .ref bs])), (bw, .inl (cL, 5, .inr (.inl (bW (ofV g i))))), (bs, .inl (cL, 5, .inr (.inl f)))]) (va_runV (As := [.int (nI i)]) (rest := []) ⟨hx, hb, hml, hown, hts⟩ (k_numberAt l D cI cL cZ H.size (h2) (a2) (g) (n) (i) (hn) (c15)) (cwV 1 hts (lw_gV q_347 q_279 q_280 q_32 q_281) rfl rfl rfl (by decide +kernel) ⟨Nat.le_trans (Nat.le_of_ble_eq_true rfl) hR1, Nat.le_trans (Nat.le_of_ble_eq_true rfl) hR2⟩) (su_pv hN hK hP hD [3, 4] [0, 1, 2] rfl rfl rfl (ci := 3) (q0 := 0) rfl rfl rfl) rfl rfl hl.1 rfl (lv_room (Nat.le_of_ble_eq_true rfl)) dX6_fillOften_20 ⟨Nat.le_trans (Nat.le_of_ble_eq_true rfl) hR3, Nat.le_trans (Nat.le_of_ble_eq_true rfl) hR4⟩) hP hD hS hA [3, 4] [0, 1, 2, 5, 6, 7] rfl rfl (by decide) (by decide) (fun r uu H locs hw hP hD hS => ?_)
        obtain rfl : r = nI (g i) := hw
        have hP : va_P D vwCl [(h, .inr (6, [.ref b, .ref ev])), (ev, .inr (0, [.ref ew, .ref es])), (ew, .inl (cL, 5, .inr (.inl (bW (2 ^ 301 - 1))))), (b, .inr (0, [.ref bw, .ref bs])), (bw, .inl (cL, 5, .inr (.inl (bW (ofV g i))))), (bs, .inl (cL, 5, .inr (.inl f))), (h2, .inr (3, [.ref a2, .int (nI n)])), (a2, .inl (cI, 20, .inl (fN g)))] H := hP
        have hD : va_D A [(h, .inr (6, [.ref b, .ref ev])), (ev, .inr (0, [.ref ew, .ref es])), (ew, .inl (cL, 5, .inr (.inl (bW (2 ^ 301 - 1))))), (b, .inr (0, [.ref bw, .ref bs])), (bw, .inl (cL, 5, .inr (.inl (bW (ofV g i))))), (bs, .inl (cL, 5, .inr (.inl f))), (h2, .inr (3, [.ref a2, .int (nI n)])), (a2, .inl (cI, 20, .inl (fN g)))] := hD
        refine lv_istore_n (lv' := [(3, .int (nI (g i))), (2, .int (nI i)), (0, .ref h), (1, .ref h2)]) hx hb dX6_fillOften_23 rfl hl (by decide) rfl (fun ls hl => ?_)
        have loop24 : ∀ (k24 : Nat) (t : Nat) (f2 : Nat → Int64), (t ≤ 9) → (g i * 2 ^ t < 2 ^ 31) → 9 - t < k24 → ∀ (H : Heap) (locs : List Loc), va_P D vwCl [(h, .inr (6, [.ref b, .ref ev])), (ev, .inr (0, [.ref ew, .ref es])), (ew, .inl (cL, 5, .inr (.inl (bW (2 ^ 301 - 1))))), (b, .inr (0, [.ref bw, .ref bs])), (bw, .inl (cL, 5, .inr (.inl (bW (ofP (ofV g i) (g i) t))))), (bs, .inl (cL, 5, .inr (.inl f2))), (h2, .inr (3, [.ref a2, .int (nI n)])), (a2, .inl (cI, 20, .inl (fN g)))] H → va_D A [(h, .inr (6, [.ref b, .ref ev])), (ev, .inr (0, [.ref ew, .ref es])), (ew, .inl (cL, 5, .inr (.inl (bW (2 ^ 301 - 1))))), (b, .inr (0, [.ref bw, .ref bs])), (bw, .inl (cL, 5, .inr (.inl (bW (ofP (ofV g i) (g i) t))))), (bs, .inl (cL, 5, .inr (.inl f2))), (h2, .inr (3, [.ref a2, .int (nI n)])), (a2, .inl (cI, 20, .inl (fN g)))] → va_S A s.heap H locs → ∀ ls : Array Slot, lv_has ls 4 [(3, .int (nI (g i * 2 ^ t))), (2, .int (nI i)), (0, .ref h), (1, .ref h2)] → W p l e R s m args below meth c H locs 0 0 Q (F0 m 24 ls []) := by
          intro k24
          induction k24 with
          | zero => intro t f2 ht hb9 hk; exact absurd hk (Nat.not_lt_zero _)
          | succ k24 ih24 =>
            intro t f2 ht hb9 hk24 H locs hP hD hS ls hl
            refine lv_iload_n hx hb dX6_fillOften_24 rfl (lv_at hl 0 rfl) ?_
            refine lv_if_le (tgt := 66) hx hb dX6_fillOften_25 (by decide) (fun c25 => ?_) (fun c25 => ?_)
            · have c25 := su_le0 (by omega) c25
              have hp2 : 0 < 2 ^ t := Nat.two_pow_pos t
              have hp3 : 1 * 2 ^ t ≤ g i * 2 ^ t := Nat.mul_le_mul_right _ hgi.1
              omega
            · have c25 : 0 < g i * 2 ^ t := su_nle0 c25
              refine lv_iload_n hx hb dX6_fillOften_28 rfl (lv_at hl 0 rfl) ?_
              refine lv_sipush (v := nI 300) hx hb dX6_fillOften_29 (by decide) ?_
              refine lv_icmp_gt (tgt := 66) hx hb dX6_fillOften_32 (by decide) (fun c32 => ?_) (fun c32 => ?_)
              · have c32 : 300 < g i * 2 ^ t := su_lt (by omega) (by omega) c32
                refine lv_iinc (v := nI (i + 1)) (lv' := [(2, .int (nI (i + 1))), (3, .int (nI (g i * 2 ^ t))), (0, .ref h), (1, .ref h2)]) hx hb dX6_fillOften_66 hl (k := 1) rfl (su_inc _) (by decide) rfl (fun ls hl => ?_)
                refine lv_goto (tgt := 10) hx hb dX6_fillOften_69 (by decide) ?_
                obtain ⟨hP, hD⟩ := su_reL (q0 := 4) (bW (ofV g (i + 1))) hP hD rfl (fun j _ => by rw [ofV, ofP_9 (ofV_lt g i) (by omega) ht])
                have hP : va_P D vwCl [(h, .inr (6, [.ref b, .ref ev])), (ev, .inr (0, [.ref ew, .ref es])), (ew, .inl (cL, 5, .inr (.inl (bW (2 ^ 301 - 1))))), (b, .inr (0, [.ref bw, .ref bs])), (bw, .inl (cL, 5, .inr (.inl (bW (ofV g (i + 1)))))), (bs, .inl (cL, 5, .inr (.inl f2))), (h2, .inr (3, [.ref a2, .int (nI n)])), (a2, .inl (cI, 20, .inl (fN g)))] H := hP
                have hD : va_D A [(h, .inr (6, [.ref b, .ref ev])), (ev, .inr (0, [.ref ew, .ref es])), (ew, .inl (cL, 5, .inr (.inl (bW (2 ^ 301 - 1))))), (b, .inr (0, [.ref bw, .ref bs])), (bw, .inl (cL, 5, .inr (.inl (bW (ofV g (i + 1)))))), (bs, .inl (cL, 5, .inr (.inl f2))), (h2, .inr (3, [.ref a2, .int (nI n)])), (a2, .inl (cI, 20, .inl (fN g)))] := hD
                exact ih10 (i + 1) (f2) (by omega) (by omega) _ _ (hP.sub [0, 1, 2, 6, 7, 3, 4, 5] rfl) (hD.sub [0, 1, 2, 6, 7, 3, 4, 5] (by decide) rfl) hS _ (lv_sub hl [0, 2, 3] rfl)
              · have c32 : g i * 2 ^ t ≤ 300 := su_nlt (by omega) (by omega) c32
                have ht9 := ofP_t9 hgi.1 c32
                refine lv_aload_n hx hb dX6_fillOften_35 rfl (lv_at hl 2 rfl) ?_
                refine va_get (D := D) (ci := 6) (v := .ref b) (C := RX6) (T := TX6) (N := 2) hx hb hts in_X6 hown hK hP 0 rfl rfl 0 (by decide) k_105 (fun _ h9 => h9) rfl dX6_fillOften_36 ?_
                refine lv_aload_n hx hb dX6_fillOften_39 rfl (lv_at hl 2 rfl) ?_
                refine va_get (D := D) (ci := 6) (v := .ref b) (C := RX6) (T := TX6) (N := 2) hx hb hts in_X6 hown hK hP 0 rfl rfl 0 (by decide) k_105 (fun _ h9 => h9) rfl dX6_fillOften_40 ?_
                refine lv_iload_n hx hb dX6_fillOften_43 rfl (lv_at hl 0 rfl) ?_
                refine su_cv (wr := [(h, .inr (6, [.ref b, .ref ev])), (ev, .inr (0, [.ref ew, .ref es])), (ew, .inl (cL, 5, .inr (.inl (bW (2 ^ 301 - 1))))), (h2, .inr (3, [.ref a2, .int (nI n)])), (a2, .inl (cI, 20, .inl (fN g)))]) (va_runV (As := [.ref b, .int (nI (g i * 2 ^ t))]) (rest := []) ⟨hx, hb, hml, hown, hts⟩ (k_orS l D cI cL cZ H.size (b) (bw) (bs) (5) (ofP (ofV g i) (g i) t) (f2) (nI (g i * 2 ^ t)) (((g i * 2 ^ t : Nat) : Int)) (by decide) (Nat.lt_of_lt_of_le (ofP_lt (ofV_lt g i) t) (Nat.pow_le_pow_right (by decide) (by decide))) (nI_toInt (by omega)) (by omega) (by omega)) (cwV 2 hts (lw_gV q_348 q_349 q_350 q_34 q_351) rfl rfl rfl (by decide +kernel) ⟨Nat.le_trans (Nat.le_of_ble_eq_true rfl) hR1, Nat.le_trans (Nat.le_of_ble_eq_true rfl) hR2⟩) (su_pv hN hK hP hD [3, 4, 5] [0, 1, 2] rfl rfl rfl (ci := 0) (q0 := 0) rfl rfl rfl) rfl rfl hl.1 rfl (lv_room (Nat.le_of_ble_eq_true rfl)) dX6_fillOften_44 ⟨Nat.le_trans (Nat.le_of_ble_eq_true rfl) hR3, Nat.le_trans (Nat.le_of_ble_eq_true rfl) hR4⟩) hP hD hS hA [3, 4, 5] [0, 1, 2, 6, 7] rfl rfl (by decide) (by decide) (fun uu H locs hw hP hD hS => ?_)
                have hP : va_P D vwCl [(h, .inr (6, [.ref b, .ref ev])), (ev, .inr (0, [.ref ew, .ref es])), (ew, .inl (cL, 5, .inr (.inl (bW (2 ^ 301 - 1))))), (h2, .inr (3, [.ref a2, .int (nI n)])), (a2, .inl (cI, 20, .inl (fN g))), (b, .inr (0, [.ref bw, .ref bs])), (bw, .inl (cL, 5, .inr (.inl (bW ((ofP (ofV g i) (g i) t) ||| shz (ofP (ofV g i) (g i) t) (((g i * 2 ^ t : Nat) : Int))))))), (bs, .inl (cL, 5, .inr (.inl (bW (shz (ofP (ofV g i) (g i) t) (((g i * 2 ^ t : Nat) : Int)))))))] H := hP
                have hD : va_D A [(h, .inr (6, [.ref b, .ref ev])), (ev, .inr (0, [.ref ew, .ref es])), (ew, .inl (cL, 5, .inr (.inl (bW (2 ^ 301 - 1))))), (h2, .inr (3, [.ref a2, .int (nI n)])), (a2, .inl (cI, 20, .inl (fN g))), (b, .inr (0, [.ref bw, .ref bs])), (bw, .inl (cL, 5, .inr (.inl (bW ((ofP (ofV g i) (g i) t) ||| shz (ofP (ofV g i) (g i) t) (((g i * 2 ^ t : Nat) : Int))))))), (bs, .inl (cL, 5, .inr (.inl (bW (shz (ofP (ofV g i) (g i) t) (((g i * 2 ^ t : Nat) : Int)))))))] := hD
                refine lv_aload_n hx hb dX6_fillOften_47 rfl (lv_at hl 2 rfl) ?_
                refine va_get (D := D) (ci := 6) (v := .ref b) (C := RX6) (T := TX6) (N := 2) hx hb hts in_X6 hown hK hP 0 rfl rfl 0 (by decide) k_105 (fun _ h9 => h9) rfl dX6_fillOften_48 ?_
                refine lv_aload_n hx hb dX6_fillOften_51 rfl (lv_at hl 2 rfl) ?_
                refine va_get (D := D) (ci := 6) (v := .ref ev) (C := RX6) (T := TX6) (N := 2) hx hb hts in_X6 hown hK hP 0 rfl rfl 1 (by decide) k_108 (fun _ h9 => h9) rfl dX6_fillOften_52 ?_
                refine lv_iconst (v := nI 0) hx hb dX6_fillOften_55 (by decide) ?_
                refine su_cv (wr := [(h, .inr (6, [.ref b, .ref ev])), (h2, .inr (3, [.ref a2, .int (nI n)])), (a2, .inl (cI, 20, .inl (fN g)))]) (va_runV (As := [.ref ev, .int (nI 0)]) (rest := []) ⟨hx, hb, hml, hown, hts⟩ (k_andO l D cI cL cZ H.size (b) (bw) (bs) (5) (ofP (ofV g i) (g i) t ||| shz (ofP (ofV g i) (g i) t) ((g i * 2 ^ t : Nat) : Int)) (bW (shz (ofP (ofV g i) (g i) t) (((g i * 2 ^ t : Nat) : Int)))) (ev) (ew) (es) (2 ^ 301 - 1) (nI 0) (0) (by decide) (by decide) (by decide) (by decide) (by decide)) (cwV 2 hts (lw_gV q_697 q_698 q_699 q_34 q_700) rfl rfl rfl (by decide +kernel) ⟨Nat.le_trans (Nat.le_of_ble_eq_true rfl) hR1, Nat.le_trans (Nat.le_of_ble_eq_true rfl) hR2⟩) (su_pv hN hK hP hD [5, 6, 7, 1, 2] [0, 1, 2] rfl rfl rfl (ci := 0) (q0 := 0) rfl rfl rfl) rfl rfl hl.1 rfl (lv_room (Nat.le_of_ble_eq_true rfl)) dX6_fillOften_56 ⟨Nat.le_trans (Nat.le_of_ble_eq_true rfl) hR3, Nat.le_trans (Nat.le_of_ble_eq_true rfl) hR4⟩) hP hD hS hA [5, 6, 7, 1, 2] [0, 3, 4] rfl rfl (by decide) (by decide) (fun uu H locs hw hP hD hS => ?_)
                have hP : va_P D vwCl [(h, .inr (6, [.ref b, .ref ev])), (h2, .inr (3, [.ref a2, .int (nI n)])), (a2, .inl (cI, 20, .inl (fN g))), (b, .inr (0, [.ref bw, .ref bs])), (bw, .inl (cL, 5, .inr (.inl (bW ((ofP (ofV g i) (g i) t ||| shz (ofP (ofV g i) (g i) t) ((g i * 2 ^ t : Nat) : Int)) &&& shz (2 ^ 301 - 1) 0))))), (bs, .inl (cL, 5, .inr (.inl (bW (shz (2 ^ 301 - 1) 0))))), (ev, .inr (0, [.ref ew, .ref es])), (ew, .inl (cL, 5, .inr (.inl (bW (2 ^ 301 - 1)))))] H := hP
                have hD : va_D A [(h, .inr (6, [.ref b, .ref ev])), (h2, .inr (3, [.ref a2, .int (nI n)])), (a2, .inl (cI, 20, .inl (fN g))), (b, .inr (0, [.ref bw, .ref bs])), (bw, .inl (cL, 5, .inr (.inl (bW ((ofP (ofV g i) (g i) t ||| shz (ofP (ofV g i) (g i) t) ((g i * 2 ^ t : Nat) : Int)) &&& shz (2 ^ 301 - 1) 0))))), (bs, .inl (cL, 5, .inr (.inl (bW (shz (2 ^ 301 - 1) 0))))), (ev, .inr (0, [.ref ew, .ref es])), (ew, .inl (cL, 5, .inr (.inl (bW (2 ^ 301 - 1)))))] := hD
                refine lv_iload_n hx hb dX6_fillOften_59 rfl (lv_at hl 0 rfl) ?_
                refine lv_iload_n hx hb dX6_fillOften_60 rfl (lv_at hl 0 rfl) ?_
                refine lv_iadd hx hb dX6_fillOften_61 ?_
                refine su_eqi (nI (g i * 2 ^ (t + 1))) (by rw [nI_add, Nat.pow_succ, ← Nat.mul_assoc, Nat.mul_two]) ?_
                refine lv_istore_n (lv' := [(3, .int (nI (g i * 2 ^ (t + 1)))), (2, .int (nI i)), (0, .ref h), (1, .ref h2)]) hx hb dX6_fillOften_62 rfl hl (by decide) rfl (fun ls hl => ?_)
                refine lv_goto (tgt := 24) hx hb dX6_fillOften_63 (by decide) ?_
                obtain ⟨hP, hD⟩ := su_reL (q0 := 4) (bW (ofP (ofV g i) (g i) (t + 1))) hP hD rfl (fun j _ => by rw [shz_n, shz_0]; rfl)
                have hP : va_P D vwCl [(h, .inr (6, [.ref b, .ref ev])), (h2, .inr (3, [.ref a2, .int (nI n)])), (a2, .inl (cI, 20, .inl (fN g))), (b, .inr (0, [.ref bw, .ref bs])), (bw, .inl (cL, 5, .inr (.inl (bW (ofP (ofV g i) (g i) (t + 1)))))), (bs, .inl (cL, 5, .inr (.inl (bW (shz (2 ^ 301 - 1) 0))))), (ev, .inr (0, [.ref ew, .ref es])), (ew, .inl (cL, 5, .inr (.inl (bW (2 ^ 301 - 1)))))] H := hP
                have hD : va_D A [(h, .inr (6, [.ref b, .ref ev])), (h2, .inr (3, [.ref a2, .int (nI n)])), (a2, .inl (cI, 20, .inl (fN g))), (b, .inr (0, [.ref bw, .ref bs])), (bw, .inl (cL, 5, .inr (.inl (bW (ofP (ofV g i) (g i) (t + 1)))))), (bs, .inl (cL, 5, .inr (.inl (bW (shz (2 ^ 301 - 1) 0))))), (ev, .inr (0, [.ref ew, .ref es])), (ew, .inl (cL, 5, .inr (.inl (bW (2 ^ 301 - 1)))))] := hD
                exact ih24 (t + 1) (bW (shz (2 ^ 301 - 1) 0)) (ht9) (by rw [Nat.pow_succ, ← Nat.mul_assoc]; omega) (by omega) _ _ (hP.sub [0, 6, 7, 3, 4, 5, 1, 2] rfl) (hD.sub [0, 6, 7, 3, 4, 5, 1, 2] (by decide) rfl) hS _ (lv_sub hl [0, 1, 2, 3] rfl)
        have hl : lv_has ls 4 [(3, .int (nI (g i * 2 ^ (0)))), (2, .int (nI i)), (0, .ref h), (1, .ref h2)] := by rw [show (nI (g i * 2 ^ (0))) = (nI (g i)) from (by rw [Nat.pow_zero, Nat.mul_one])]; exact hl
        exact loop24 ((9 - (0)) + 1) (0) (f) (by omega) (by omega) (by omega) _ _ hP hD hS _ (lv_sub hl [0, 1, 2, 3] rfl)
  exact loop10 ((n - (0)) + 1) (0) (fs) (by omega) (by omega) _ _ hP hD hS _ (lv_sub hl [0, 1, 2] rfl)
set_option maxHeartbeats 4000000 in
set_option maxRecDepth 100000 in
theorem k_fillCount (l : Launch) (D : va_G) (cI cL cZ : ClassId) (sz : Nat) (h : Nat) (b : Nat) (cn : Nat) (bw : Nat) (bs : Nat) (f0 : Nat → Int64) (fs : Nat → Int64) (fc : Nat → Int64) (h2 : Nat) (a2 : Nat) (g : Nat → Nat) (n : Nat) (hn : n ≤ 20) (hT : su_sm g n ≤ 300) :
    Met l yX1_fill (ws_ yX1_fill cX1_fill 3 none) { frames := 3, cells := 0, slots := 0, locals := 110 } (su_pre D (su_T cI cL cZ) sz [(h, .inr (1, [.ref b, .ref cn])), (b, .inr (0, [.ref bw, .ref bs])), (bw, .inl (cL, 99, .inr (.inl f0))), (bs, .inl (cL, 99, .inr (.inl fs))), (cn, .inl (cL, 301, .inr (.inl fc))), (h2, .inr (3, [.ref a2, .int (nI n)])), (a2, .inl (cI, 20, .inl (fN g)))] [.ref h, .ref h2]) (su_qv D (va_A [(h, .inr (1, [.ref b, .ref cn])), (b, .inr (0, [.ref bw, .ref bs])), (bw, .inl (cL, 99, .inr (.inl f0))), (bs, .inl (cL, 99, .inr (.inl fs))), (cn, .inl (cL, 301, .inr (.inl fc))), (h2, .inr (3, [.ref a2, .int (nI n)])), (a2, .inl (cI, 20, .inl (fN g)))] sz) (fun (uu : (Nat → Int64)) => True) (fun (uu : (Nat → Int64)) => [(h, .inr (1, [.ref b, .ref cn])), (b, .inr (0, [.ref bw, .ref bs])), (bw, .inl (cL, 99, .inr (.inl (bW (cnV g n))))), (bs, .inl (cL, 99, .inr (.inl uu))), (cn, .inl (cL, 301, .inr (.inl (fL (cnC g n))))), (h2, .inr (3, [.ref a2, .int (nI n)])), (a2, .inl (cI, 20, .inl (fN g)))])) 0 0 (va_A [(h, .inr (1, [.ref b, .ref cn])), (b, .inr (0, [.ref bw, .ref bs])), (bw, .inl (cL, 99, .inr (.inl f0))), (bs, .inl (cL, 99, .inr (.inl fs))), (cn, .inl (cL, 301, .inr (.inl fc))), (h2, .inr (3, [.ref a2, .int (nI n)])), (a2, .inl (cI, 20, .inl (fN g)))] sz) := by
  refine su_met (Qf := fun A => su_qv D A (fun (uu : (Nat → Int64)) => True) (fun (uu : (Nat → Int64)) => [(h, .inr (1, [.ref b, .ref cn])), (b, .inr (0, [.ref bw, .ref bs])), (bw, .inl (cL, 99, .inr (.inl (bW (cnV g n))))), (bs, .inl (cL, 99, .inr (.inl uu))), (cn, .inl (cL, 301, .inr (.inl (fL (cnC g n))))), (h2, .inr (3, [.ref a2, .int (nI n)])), (a2, .inl (cI, 20, .inl (fN g)))])) (cc := cX1_fill) (maxL := 3) (ret := none) (by decide) (Nat.le_of_ble_eq_true rfl) ?_
  intro p e s m args below meth c R Q A H locs ls hx hb hr hlocks hin hml hown hts hN hP hK hD hA hS hRm hQ hl
  have hown : s.vm.findClass RX1 = some m.cls := hown
  have hl : lv_has ls 3 [(0, .ref h), (1, .ref h2)] := hl
  have hR1 : 3 ≤ R.frames := by rw [hRm]; exact Nat.le_of_ble_eq_true rfl
  have hR2 : 110 ≤ R.locals := by rw [hRm]; exact Nat.le_of_ble_eq_true rfl
  have hR3 : 0 ≤ R.cells := by rw [hRm]; exact Nat.le_of_ble_eq_true rfl
  have hR4 : 0 ≤ R.slots := by rw [hRm]; exact Nat.le_of_ble_eq_true rfl
  have k_178 := hts _ q_178
  have k_71 := va_Nw.use (A := args) rfl (hN _ q_71)
  have k_179 := hts _ q_179
  have k_377 := hts _ q_377
  refine lv_aload_n hx hb dX1_fill_0 rfl (lv_at hl 0 rfl) ?_
  refine va_get (D := D) (ci := 1) (v := .ref b) (C := RX1) (T := TX1) (N := 2) hx hb hts in_X1 hown hK hP 0 rfl rfl 0 (by decide) k_178 (fun _ h9 => h9) rfl dX1_fill_1 ?_
  refine lv_iconst (v := nI 1) hx hb dX1_fill_4 (by decide) ?_
  refine su_cv (wr := [(h, .inr (1, [.ref b, .ref cn])), (cn, .inl (cL, 301, .inr (.inl fc))), (h2, .inr (3, [.ref a2, .int (nI n)])), (a2, .inl (cI, 20, .inl (fN g)))]) (va_runV (As := [.int (nI 1)]) (rest := []) ⟨hx, hb, hml, hown, hts⟩ (k_become l D cI cL cZ H.size (b) (bw) (bs) (99) (f0) (fs) (1) (by decide) (by decide)) (cwV 1 hts (lw_gV q_367 q_344 q_345 q_34 q_346) rfl rfl rfl (by decide +kernel) ⟨Nat.le_trans (Nat.le_of_ble_eq_true rfl) hR1, Nat.le_trans (Nat.le_of_ble_eq_true rfl) hR2⟩) (su_pv hN hK hP hD [1, 2, 3] [0, 1, 2] rfl rfl rfl (ci := 0) (q0 := 0) rfl rfl rfl) rfl rfl hl.1 rfl (lv_room (Nat.le_of_ble_eq_true rfl)) dX1_fill_5 ⟨Nat.le_trans (Nat.le_of_ble_eq_true rfl) hR3, Nat.le_trans (Nat.le_of_ble_eq_true rfl) hR4⟩) hP hD hS hA [1, 2, 3] [0, 4, 5, 6] rfl rfl (by decide) (by decide) (fun uu H locs hw hP hD hS => ?_)
  have hP : va_P D vwCl [(h, .inr (1, [.ref b, .ref cn])), (cn, .inl (cL, 301, .inr (.inl fc))), (h2, .inr (3, [.ref a2, .int (nI n)])), (a2, .inl (cI, 20, .inl (fN g))), (b, .inr (0, [.ref bw, .ref bs])), (bw, .inl (cL, 99, .inr (.inl (bW 1)))), (bs, .inl (cL, 99, .inr (.inl fs)))] H := hP
  have hD : va_D A [(h, .inr (1, [.ref b, .ref cn])), (cn, .inl (cL, 301, .inr (.inl fc))), (h2, .inr (3, [.ref a2, .int (nI n)])), (a2, .inl (cI, 20, .inl (fN g))), (b, .inr (0, [.ref bw, .ref bs])), (bw, .inl (cL, 99, .inr (.inl (bW 1)))), (bs, .inl (cL, 99, .inr (.inl fs)))] := hD
  refine lv_iconst (v := nI 0) hx hb dX1_fill_8 (by decide) ?_
  refine lv_istore_n (lv' := [(2, .int (nI 0)), (0, .ref h), (1, .ref h2)]) hx hb dX1_fill_9 rfl hl (by decide) rfl (fun ls hl => ?_)
  have loop10 : ∀ (k10 : Nat) (i : Nat) (f : Nat → Int64), (i ≤ n) → n - i < k10 → ∀ (H : Heap) (locs : List Loc), va_P D vwCl [(h, .inr (1, [.ref b, .ref cn])), (cn, .inl (cL, 301, .inr (.inl fc))), (h2, .inr (3, [.ref a2, .int (nI n)])), (a2, .inl (cI, 20, .inl (fN g))), (b, .inr (0, [.ref bw, .ref bs])), (bw, .inl (cL, 99, .inr (.inl (bW (cnV g i))))), (bs, .inl (cL, 99, .inr (.inl f)))] H → va_D A [(h, .inr (1, [.ref b, .ref cn])), (cn, .inl (cL, 301, .inr (.inl fc))), (h2, .inr (3, [.ref a2, .int (nI n)])), (a2, .inl (cI, 20, .inl (fN g))), (b, .inr (0, [.ref bw, .ref bs])), (bw, .inl (cL, 99, .inr (.inl (bW (cnV g i))))), (bs, .inl (cL, 99, .inr (.inl f)))] → va_S A s.heap H locs → ∀ ls : Array Slot, lv_has ls 3 [(2, .int (nI i)), (0, .ref h), (1, .ref h2)] → W p l e R s m args below meth c H locs 0 0 Q (F0 m 10 ls []) := by
    intro k10
    induction k10 with
    | zero => intro i f hi hk; exact absurd hk (Nat.not_lt_zero _)
    | succ k10 ih10 =>
      intro i f hi hk10 H locs hP hD hS ls hl
      refine lv_iload_n hx hb dX1_fill_10 rfl (lv_at hl 0 rfl) ?_
      refine lv_aload_n hx hb dX1_fill_11 rfl (lv_at hl 2 rfl) ?_
      refine va_getN (D := D) (ci := 3) (v := .int (nI n)) (C := RX3) (T := TX3) (N := 2) hx hb hts in_X3 hown hK hP 2 rfl rfl 1 (by decide) k_71 (fun _ h9 => h9) rfl dX1_fill_12 ?_
      refine lv_icmp_ge (tgt := 43) hx hb dX1_fill_15 (by decide) (fun c15 => ?_) (fun c15 => ?_)
      · have c15 : n ≤ i := su_ge (by omega) (by omega) c15
        refine lv_iconst (v := nI 0) hx hb dX1_fill_43 (by decide) ?_
        refine lv_istore_n (lv' := [(2, .int (nI 0)), (0, .ref h), (1, .ref h2)]) hx hb dX1_fill_44 rfl hl (by decide) rfl (fun ls hl => ?_)
        have loop45 : ∀ (k45 : Nat) (j : Nat), (j ≤ 301) → 301 - j < k45 → ∀ (H : Heap) (locs : List Loc), va_P D vwCl [(h, .inr (1, [.ref b, .ref cn])), (cn, .inl (cL, 301, .inr (.inl (su_fl (fL (cnC g i)) fc j)))), (h2, .inr (3, [.ref a2, .int (nI n)])), (a2, .inl (cI, 20, .inl (fN g))), (b, .inr (0, [.ref bw, .ref bs])), (bw, .inl (cL, 99, .inr (.inl (bW (cnV g i))))), (bs, .inl (cL, 99, .inr (.inl f)))] H → va_D A [(h, .inr (1, [.ref b, .ref cn])), (cn, .inl (cL, 301, .inr (.inl (su_fl (fL (cnC g i)) fc j)))), (h2, .inr (3, [.ref a2, .int (nI n)])), (a2, .inl (cI, 20, .inl (fN g))), (b, .inr (0, [.ref bw, .ref bs])), (bw, .inl (cL, 99, .inr (.inl (bW (cnV g i))))), (bs, .inl (cL, 99, .inr (.inl f)))] → va_S A s.heap H locs → ∀ ls : Array Slot, lv_has ls 3 [(2, .int (nI j)), (0, .ref h), (1, .ref h2)] → W p l e R s m args below meth c H locs 0 0 Q (F0 m 45 ls []) := by
          intro k45
          induction k45 with
          | zero => intro j hj hk; exact absurd hk (Nat.not_lt_zero _)
          | succ k45 ih45 =>
            intro j hj hk45 H locs hP hD hS ls hl
            refine lv_iload_n hx hb dX1_fill_45 rfl (lv_at hl 0 rfl) ?_
            refine lv_sipush (v := nI 300) hx hb dX1_fill_46 (by decide) ?_
            refine lv_icmp_gt (tgt := 79) hx hb dX1_fill_49 (by decide) (fun c49 => ?_) (fun c49 => ?_)
            · have c49 : 300 < j := su_lt (by omega) (by omega) c49
              obtain ⟨hP, hD⟩ := su_reL (q0 := 5) (bW (cnV g n)) hP hD rfl (fun k _ => by rw [show n = i by omega])
              have hP : va_P D vwCl [(h, .inr (1, [.ref b, .ref cn])), (cn, .inl (cL, 301, .inr (.inl (su_fl (fL (cnC g i)) fc j)))), (h2, .inr (3, [.ref a2, .int (nI n)])), (a2, .inl (cI, 20, .inl (fN g))), (b, .inr (0, [.ref bw, .ref bs])), (bw, .inl (cL, 99, .inr (.inl (bW (cnV g n))))), (bs, .inl (cL, 99, .inr (.inl f)))] H := hP
              have hD : va_D A [(h, .inr (1, [.ref b, .ref cn])), (cn, .inl (cL, 301, .inr (.inl (su_fl (fL (cnC g i)) fc j)))), (h2, .inr (3, [.ref a2, .int (nI n)])), (a2, .inl (cI, 20, .inl (fN g))), (b, .inr (0, [.ref bw, .ref bs])), (bw, .inl (cL, 99, .inr (.inl (bW (cnV g n))))), (bs, .inl (cL, 99, .inr (.inl f)))] := hD
              obtain ⟨hP, hD⟩ := su_reL (q0 := 1) (fL (cnC g n)) hP hD rfl (fun k hk => by rw [show n = i by omega]; exact su_flN (by omega))
              have hP : va_P D vwCl [(h, .inr (1, [.ref b, .ref cn])), (cn, .inl (cL, 301, .inr (.inl (fL (cnC g n))))), (h2, .inr (3, [.ref a2, .int (nI n)])), (a2, .inl (cI, 20, .inl (fN g))), (b, .inr (0, [.ref bw, .ref bs])), (bw, .inl (cL, 99, .inr (.inl (bW (cnV g n))))), (bs, .inl (cL, 99, .inr (.inl f)))] H := hP
              have hD : va_D A [(h, .inr (1, [.ref b, .ref cn])), (cn, .inl (cL, 301, .inr (.inl (fL (cnC g n))))), (h2, .inr (3, [.ref a2, .int (nI n)])), (a2, .inl (cI, 20, .inl (fN g))), (b, .inr (0, [.ref bw, .ref bs])), (bw, .inl (cL, 99, .inr (.inl (bW (cnV g n))))), (bs, .inl (cL, 99, .inr (.inl f)))] := hD
              rw [hQ]
              exact su_ev hx hb hr hlocks hS dX1_fill_79 (f) (trivial) (hP.sub [0, 4, 5, 6, 1, 2, 3] rfl) (hD.sub [0, 4, 5, 6, 1, 2, 3] (by decide) rfl)
            · have c49 : j ≤ 300 := su_nlt (by omega) (by omega) c49
              refine lv_aload_n hx hb dX1_fill_52 rfl (lv_at hl 1 rfl) ?_
              refine va_get (D := D) (ci := 1) (v := .ref cn) (C := RX1) (T := TX1) (N := 2) hx hb hts in_X1 hown hK hP 0 rfl rfl 1 (by decide) k_179 (fun _ h9 => h9) rfl dX1_fill_53 ?_
              refine lv_iload_n hx hb dX1_fill_56 rfl (lv_at hl 0 rfl) ?_
              refine lv_aload_n hx hb dX1_fill_57 rfl (lv_at hl 1 rfl) ?_
              refine va_get (D := D) (ci := 1) (v := .ref b) (C := RX1) (T := TX1) (N := 2) hx hb hts in_X1 hown hK hP 0 rfl rfl 0 (by decide) k_178 (fun _ h9 => h9) rfl dX1_fill_58 ?_
              refine lv_bipush (v := nI 21) hx hb dX1_fill_61 (by decide) ?_
              refine lv_iload_n hx hb dX1_fill_63 rfl (lv_at hl 0 rfl) ?_
              refine lv_imul hx hb dX1_fill_64 ?_
              refine su_eqi (nI (21 * j)) (pk_mul _ _) ?_
              refine su_cl (wr := [(h, .inr (1, [.ref b, .ref cn])), (cn, .inl (cL, 301, .inr (.inl (su_fl (fL (cnC g i)) fc j)))), (h2, .inr (3, [.ref a2, .int (nI n)])), (a2, .inl (cI, 20, .inl (fN g))), (bs, .inl (cL, 99, .inr (.inl f)))]) (va_runV (As := [.int (nI (21 * j))]) (rest := [.int (nI j), .ref cn]) ⟨hx, hb, hml, hown, hts⟩ (k_fieldAt l D cI cL cZ H.size (b) (bw) (bs) (99) (cnV g i) (21 * j) (by decide) (cnV_99 hi hn hT) (by omega)) (cwV 1 hts (lw_gV q_373 q_374 q_375 q_34 q_376) rfl rfl rfl (by decide +kernel) ⟨Nat.le_trans (Nat.le_of_ble_eq_true rfl) hR1, Nat.le_trans (Nat.le_of_ble_eq_true rfl) hR2⟩) (su_pv hN hK hP hD [4, 5] [0, 1, 2] rfl rfl rfl (ci := 0) (q0 := 0) rfl rfl rfl) rfl rfl hl.1 rfl (lv_room (Nat.le_of_ble_eq_true rfl)) dX1_fill_65 ⟨Nat.le_trans (Nat.le_of_ble_eq_true rfl) hR3, Nat.le_trans (Nat.le_of_ble_eq_true rfl) hR4⟩) hP hD hS hA [4, 5] [0, 1, 2, 3, 6] rfl rfl (by decide) (by decide) (fun r uu H locs hw hP hD hS => ?_)
              obtain rfl : r = lN ((cnV g i) >>> (21 * j)) := hw
              have hP : va_P D vwCl [(h, .inr (1, [.ref b, .ref cn])), (cn, .inl (cL, 301, .inr (.inl (su_fl (fL (cnC g i)) fc j)))), (h2, .inr (3, [.ref a2, .int (nI n)])), (a2, .inl (cI, 20, .inl (fN g))), (bs, .inl (cL, 99, .inr (.inl f))), (b, .inr (0, [.ref bw, .ref bs])), (bw, .inl (cL, 99, .inr (.inl (bW (cnV g i)))))] H := hP
              have hD : va_D A [(h, .inr (1, [.ref b, .ref cn])), (cn, .inl (cL, 301, .inr (.inl (su_fl (fL (cnC g i)) fc j)))), (h2, .inr (3, [.ref a2, .int (nI n)])), (a2, .inl (cI, 20, .inl (fN g))), (bs, .inl (cL, 99, .inr (.inl f))), (b, .inr (0, [.ref bw, .ref bs])), (bw, .inl (cL, 99, .inr (.inl (bW (cnV g i)))))] := hD
              refine lv_ldc2 hx hb hown k_377 dX1_fill_68 ?_
              refine lv_land hx hb dX1_fill_71 ?_
              refine su_eql (lN ((cnV g i >>> (21 * j)) % 2 ^ 21)) (su_mask21 _) ?_
              refine su_last hx hb hK hP hD hS 1 1 rfl rfl (i := j) (by omega) (by decide) (va_up (su_fl (fL (cnC g i)) fc j) j (lN ((cnV g i >>> (21 * j)) % 2 ^ 21))) (fun _ _ => rfl) dX1_fill_72 (fun H locs hP hD hS => ?_)
              have hP : va_P D vwCl [(h, .inr (1, [.ref b, .ref cn])), (cn, .inl (cL, 301, .inr (.inl (va_up (su_fl (fL (cnC g i)) fc j) j (lN ((cnV g i >>> (21 * j)) % 2 ^ 21)))))), (h2, .inr (3, [.ref a2, .int (nI n)])), (a2, .inl (cI, 20, .inl (fN g))), (bs, .inl (cL, 99, .inr (.inl f))), (b, .inr (0, [.ref bw, .ref bs])), (bw, .inl (cL, 99, .inr (.inl (bW (cnV g i)))))] H := hP
              have hD : va_D A [(h, .inr (1, [.ref b, .ref cn])), (cn, .inl (cL, 301, .inr (.inl (va_up (su_fl (fL (cnC g i)) fc j) j (lN ((cnV g i >>> (21 * j)) % 2 ^ 21)))))), (h2, .inr (3, [.ref a2, .int (nI n)])), (a2, .inl (cI, 20, .inl (fN g))), (bs, .inl (cL, 99, .inr (.inl f))), (b, .inr (0, [.ref bw, .ref bs])), (bw, .inl (cL, 99, .inr (.inl (bW (cnV g i)))))] := hD
              refine lv_iinc (v := nI (j + 1)) (lv' := [(2, .int (nI (j + 1))), (0, .ref h), (1, .ref h2)]) hx hb dX1_fill_73 hl (k := 0) rfl (su_inc _) (by decide) rfl (fun ls hl => ?_)
              refine lv_goto (tgt := 45) hx hb dX1_fill_76 (by decide) ?_
              obtain ⟨hP, hD⟩ := su_reL (q0 := 1) (su_fl (fL (cnC g i)) fc (j + 1)) hP hD rfl (fun k _ => su_flS rfl k)
              have hP : va_P D vwCl [(h, .inr (1, [.ref b, .ref cn])), (cn, .inl (cL, 301, .inr (.inl (su_fl (fL (cnC g i)) fc (j + 1))))), (h2, .inr (3, [.ref a2, .int (nI n)])), (a2, .inl (cI, 20, .inl (fN g))), (bs, .inl (cL, 99, .inr (.inl f))), (b, .inr (0, [.ref bw, .ref bs])), (bw, .inl (cL, 99, .inr (.inl (bW (cnV g i)))))] H := hP
              have hD : va_D A [(h, .inr (1, [.ref b, .ref cn])), (cn, .inl (cL, 301, .inr (.inl (su_fl (fL (cnC g i)) fc (j + 1))))), (h2, .inr (3, [.ref a2, .int (nI n)])), (a2, .inl (cI, 20, .inl (fN g))), (bs, .inl (cL, 99, .inr (.inl f))), (b, .inr (0, [.ref bw, .ref bs])), (bw, .inl (cL, 99, .inr (.inl (bW (cnV g i)))))] := hD
              exact ih45 (j + 1) (by omega) (by omega) _ _ (hP.sub [0, 1, 2, 3, 5, 6, 4] rfl) (hD.sub [0, 1, 2, 3, 5, 6, 4] (by decide) rfl) hS _ (lv_sub hl [0, 1, 2] rfl)
        obtain ⟨hP, hD⟩ := su_reL (q0 := 1) (su_fl (fL (cnC g i)) fc (0)) hP hD rfl (fun k _ => su_fl0 k)
        have hP : va_P D vwCl [(h, .inr (1, [.ref b, .ref cn])), (cn, .inl (cL, 301, .inr (.inl (su_fl (fL (cnC g i)) fc (0))))), (h2, .inr (3, [.ref a2, .int (nI n)])), (a2, .inl (cI, 20, .inl (fN g))), (b, .inr (0, [.ref bw, .ref bs])), (bw, .inl (cL, 99, .inr (.inl (bW (cnV g i))))), (bs, .inl (cL, 99, .inr (.inl f)))] H := hP
        have hD : va_D A [(h, .inr (1, [.ref b, .ref cn])), (cn, .inl (cL, 301, .inr (.inl (su_fl (fL (cnC g i)) fc (0))))), (h2, .inr (3, [.ref a2, .int (nI n)])), (a2, .inl (cI, 20, .inl (fN g))), (b, .inr (0, [.ref bw, .ref bs])), (bw, .inl (cL, 99, .inr (.inl (bW (cnV g i))))), (bs, .inl (cL, 99, .inr (.inl f)))] := hD
        exact loop45 ((301 - (0)) + 1) (0) (by omega) (by omega) _ _ hP hD hS _ (lv_sub hl [0, 1, 2] rfl)
      · have c15 : i < n := su_nge (by omega) (by omega) c15
        have hgi := su_sm_le (g := g) c15
        refine lv_aload_n hx hb dX1_fill_18 rfl (lv_at hl 1 rfl) ?_
        refine va_get (D := D) (ci := 1) (v := .ref b) (C := RX1) (T := TX1) (N := 2) hx hb hts in_X1 hown hK hP 0 rfl rfl 0 (by decide) k_178 (fun _ h9 => h9) rfl dX1_fill_19 ?_
        refine lv_aload_n hx hb dX1_fill_22 rfl (lv_at hl 1 rfl) ?_
        refine va_get (D := D) (ci := 1) (v := .ref b) (C := RX1) (T := TX1) (N := 2) hx hb hts in_X1 hown hK hP 0 rfl rfl 0 (by decide) k_178 (fun _ h9 => h9) rfl dX1_fill_23 ?_
        refine lv_bipush (v := nI 21) hx hb dX1_fill_26 (by decide) ?_
        refine lv_aload_n hx hb dX1_fill_28 rfl (lv_at hl 2 rfl) ?_
        refine lv_iload_n hx hb dX1_fill_29 rfl (lv_at hl 0 rfl) ?_
        refine su_ci (wr := [(h, .inr (1, [.ref b, .ref cn])), (cn, .inl (cL, 301, .inr (.inl fc))), (b, .inr (0, [.ref bw, .ref bs])), (bw, .inl (cL, 99, .inr (.inl (bW (cnV g i))))), (bs, .inl (cL, 99, .inr (.inl f)))]) (va_runV (As := [.int (nI i)]) (rest := [.int (nI 21), .ref b, .ref b]) ⟨hx, hb, hml, hown, hts⟩ (k_numberAt l D cI cL cZ H.size (h2) (a2) (g) (n) (i) (hn) (c15)) (cwV 1 hts (lw_gV q_368 q_279 q_280 q_32 q_281) rfl rfl rfl (by decide +kernel) ⟨Nat.le_trans (Nat.le_of_ble_eq_true rfl) hR1, Nat.le_trans (Nat.le_of_ble_eq_true rfl) hR2⟩) (su_pv hN hK hP hD [2, 3] [0, 1, 2] rfl rfl rfl (ci := 3) (q0 := 0) rfl rfl rfl) rfl rfl hl.1 rfl (lv_room (Nat.le_of_ble_eq_true rfl)) dX1_fill_30 ⟨Nat.le_trans (Nat.le_of_ble_eq_true rfl) hR3, Nat.le_trans (Nat.le_of_ble_eq_true rfl) hR4⟩) hP hD hS hA [2, 3] [0, 1, 4, 5, 6] rfl rfl (by decide) (by decide) (fun r uu H locs hw hP hD hS => ?_)
        obtain rfl : r = nI (g i) := hw
        have hP : va_P D vwCl [(h, .inr (1, [.ref b, .ref cn])), (cn, .inl (cL, 301, .inr (.inl fc))), (b, .inr (0, [.ref bw, .ref bs])), (bw, .inl (cL, 99, .inr (.inl (bW (cnV g i))))), (bs, .inl (cL, 99, .inr (.inl f))), (h2, .inr (3, [.ref a2, .int (nI n)])), (a2, .inl (cI, 20, .inl (fN g)))] H := hP
        have hD : va_D A [(h, .inr (1, [.ref b, .ref cn])), (cn, .inl (cL, 301, .inr (.inl fc))), (b, .inr (0, [.ref bw, .ref bs])), (bw, .inl (cL, 99, .inr (.inl (bW (cnV g i))))), (bs, .inl (cL, 99, .inr (.inl f))), (h2, .inr (3, [.ref a2, .int (nI n)])), (a2, .inl (cI, 20, .inl (fN g)))] := hD
        refine lv_imul hx hb dX1_fill_33 ?_
        refine su_eqi (nI (21 * (g i))) (pk_mul _ _) ?_
        refine su_cv (wr := [(h, .inr (1, [.ref b, .ref cn])), (cn, .inl (cL, 301, .inr (.inl fc))), (h2, .inr (3, [.ref a2, .int (nI n)])), (a2, .inl (cI, 20, .inl (fN g)))]) (va_runV (As := [.ref b, .int (nI (21 * (g i)))]) (rest := []) ⟨hx, hb, hml, hown, hts⟩ (k_plusS l D cI cL cZ H.size (b) (bw) (bs) (99) (cnV g i) (f) (nI (21 * g i)) (((21 * g i : Nat) : Int)) (by decide) (cnV_99 hi hn hT) (nI_toInt (by omega)) (by omega) (by omega)) (cwV 2 hts (lw_gV q_369 q_370 q_371 q_34 q_372) rfl rfl rfl (by decide +kernel) ⟨Nat.le_trans (Nat.le_of_ble_eq_true rfl) hR1, Nat.le_trans (Nat.le_of_ble_eq_true rfl) hR2⟩) (su_pv hN hK hP hD [2, 3, 4] [0, 1, 2] rfl rfl rfl (ci := 0) (q0 := 0) rfl rfl rfl) rfl rfl hl.1 rfl (lv_room (Nat.le_of_ble_eq_true rfl)) dX1_fill_34 ⟨Nat.le_trans (Nat.le_of_ble_eq_true rfl) hR3, Nat.le_trans (Nat.le_of_ble_eq_true rfl) hR4⟩) hP hD hS hA [2, 3, 4] [0, 1, 5, 6] rfl rfl (by decide) (by decide) (fun uu H locs hw hP hD hS => ?_)
        have hP : va_P D vwCl [(h, .inr (1, [.ref b, .ref cn])), (cn, .inl (cL, 301, .inr (.inl fc))), (h2, .inr (3, [.ref a2, .int (nI n)])), (a2, .inl (cI, 20, .inl (fN g))), (b, .inr (0, [.ref bw, .ref bs])), (bw, .inl (cL, 99, .inr (.inl (bW ((cnV g i) + shz (cnV g i) (((21 * g i : Nat) : Int))))))), (bs, .inl (cL, 99, .inr (.inl (bW (shz (cnV g i) (((21 * g i : Nat) : Int)))))))] H := hP
        have hD : va_D A [(h, .inr (1, [.ref b, .ref cn])), (cn, .inl (cL, 301, .inr (.inl fc))), (h2, .inr (3, [.ref a2, .int (nI n)])), (a2, .inl (cI, 20, .inl (fN g))), (b, .inr (0, [.ref bw, .ref bs])), (bw, .inl (cL, 99, .inr (.inl (bW ((cnV g i) + shz (cnV g i) (((21 * g i : Nat) : Int))))))), (bs, .inl (cL, 99, .inr (.inl (bW (shz (cnV g i) (((21 * g i : Nat) : Int)))))))] := hD
        refine lv_iinc (v := nI (i + 1)) (lv' := [(2, .int (nI (i + 1))), (0, .ref h), (1, .ref h2)]) hx hb dX1_fill_37 hl (k := 0) rfl (su_inc _) (by decide) rfl (fun ls hl => ?_)
        refine lv_goto (tgt := 10) hx hb dX1_fill_40 (by decide) ?_
        obtain ⟨hP, hD⟩ := su_reL (q0 := 5) (bW (cnV g (i + 1))) hP hD rfl (fun j _ => by rw [shz_n]; rfl)
        have hP : va_P D vwCl [(h, .inr (1, [.ref b, .ref cn])), (cn, .inl (cL, 301, .inr (.inl fc))), (h2, .inr (3, [.ref a2, .int (nI n)])), (a2, .inl (cI, 20, .inl (fN g))), (b, .inr (0, [.ref bw, .ref bs])), (bw, .inl (cL, 99, .inr (.inl (bW (cnV g (i + 1)))))), (bs, .inl (cL, 99, .inr (.inl (bW (shz (cnV g i) (((21 * g i : Nat) : Int)))))))] H := hP
        have hD : va_D A [(h, .inr (1, [.ref b, .ref cn])), (cn, .inl (cL, 301, .inr (.inl fc))), (h2, .inr (3, [.ref a2, .int (nI n)])), (a2, .inl (cI, 20, .inl (fN g))), (b, .inr (0, [.ref bw, .ref bs])), (bw, .inl (cL, 99, .inr (.inl (bW (cnV g (i + 1)))))), (bs, .inl (cL, 99, .inr (.inl (bW (shz (cnV g i) (((21 * g i : Nat) : Int)))))))] := hD
        exact ih10 (i + 1) (bW (shz (cnV g i) (((21 * g i : Nat) : Int)))) (by omega) (by omega) _ _ hP hD hS _ (lv_sub hl [0, 1, 2] rfl)
  exact loop10 ((n - (0)) + 1) (0) (fs) (by omega) (by omega) _ _ hP hD hS _ (lv_sub hl [0, 1, 2] rfl)
set_option maxHeartbeats 4000000 in
set_option maxRecDepth 100000 in
theorem k_countOf (l : Launch) (D : va_G) (cI cL cZ : ClassId) (sz : Nat) (h : Nat) (b : Nat) (cn : Nat) (f : Nat → Nat) (u : Nat) (hu : u ≤ 300) :
    Met l yX1_countOf (ws_ yX1_countOf cX1_countOf 2 (some .long)) { frames := 0, cells := 0, slots := 0, locals := 0 } (su_pre D (su_T cI cL cZ) sz [(h, .inr (1, [.ref b, .ref cn])), (cn, .inl (cL, 301, .inr (.inl (fL f))))] [.ref h, .int (nI u)]) (su_ql D (va_A [(h, .inr (1, [.ref b, .ref cn])), (cn, .inl (cL, 301, .inr (.inl (fL f))))] sz) (fun (r : Int64) (uu : Unit) => r = lN (f u)) (fun (uu : Unit) => [(h, .inr (1, [.ref b, .ref cn])), (cn, .inl (cL, 301, .inr (.inl (fL f))))])) 0 0 (va_A [(h, .inr (1, [.ref b, .ref cn])), (cn, .inl (cL, 301, .inr (.inl (fL f))))] sz) := by
  refine su_met (Qf := fun A => su_ql D A (fun (r : Int64) (uu : Unit) => r = lN (f u)) (fun (uu : Unit) => [(h, .inr (1, [.ref b, .ref cn])), (cn, .inl (cL, 301, .inr (.inl (fL f))))])) (cc := cX1_countOf) (maxL := 2) (ret := (some .long)) (by decide) (Nat.le_of_ble_eq_true rfl) ?_
  intro p e s m args below meth c R Q A H locs ls hx hb hr hlocks hin hml hown hts hN hP hK hD hA hS hRm hQ hl
  have hown : s.vm.findClass RX1 = some m.cls := hown
  have hl : lv_has ls 2 [(0, .ref h), (1, .int (nI u))] := hl
  have hR3 : 0 ≤ R.cells := by rw [hRm]; exact Nat.le_of_ble_eq_true rfl
  have hR4 : 0 ≤ R.slots := by rw [hRm]; exact Nat.le_of_ble_eq_true rfl
  have k_179 := hts _ q_179
  refine lv_iload_n hx hb dX1_countOf_0 rfl (lv_at hl 1 rfl) ?_
  refine lv_if_lt (tgt := 20) hx hb dX1_countOf_1 (by decide) (fun c1 => ?_) (fun c1 => ?_)
  · exact absurd c1 (nI_pos (by omega))
  · refine lv_iload_n hx hb dX1_countOf_4 rfl (lv_at hl 1 rfl) ?_
    refine lv_sipush (v := nI 300) hx hb dX1_countOf_5 (by decide) ?_
    refine lv_icmp_gt (tgt := 20) hx hb dX1_countOf_8 (by decide) (fun c8 => ?_) (fun c8 => ?_)
    · have c8 : 300 < u := su_lt (by omega) (by omega) c8
      omega
    · have c8 : u ≤ 300 := su_nlt (by omega) (by omega) c8
      refine lv_aload_n hx hb dX1_countOf_11 rfl (lv_at hl 0 rfl) ?_
      refine va_get (D := D) (ci := 1) (v := .ref cn) (C := RX1) (T := TX1) (N := 2) hx hb hts in_X1 hown hK hP 0 rfl rfl 1 (by decide) k_179 (fun _ h9 => h9) rfl dX1_countOf_12 ?_
      refine lv_iload_n hx hb dX1_countOf_15 rfl (lv_at hl 1 rfl) ?_
      refine su_lald hx hb hK hP 1 1 rfl rfl (i := u) (by omega) (by decide) (lN (f u)) (rfl) dX1_countOf_16 ?_
      refine lv_goto (tgt := 21) hx hb dX1_countOf_17 (by decide) ?_
      rw [hQ]
      exact su_el hx hb hr hlocks hS dX1_countOf_21 () (rfl) hP hD
