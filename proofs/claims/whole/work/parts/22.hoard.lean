set_option maxHeartbeats 4000000 in
set_option maxRecDepth 100000 in
theorem k_hasPlace (l : Launch) (D : va_G) (cI cL cZ : ClassId) (sz : Nat) (h : Nat) (a : Nat) (g : Nat → Nat) (n : Nat) (x : Int32) (hn : n ≤ 20) :
    Met l yX3_hasPlace (ws_ yX3_hasPlace cX3_hasPlace 2 (some .boolean)) { frames := 0, cells := 0, slots := 0, locals := 0 } (su_pre D (su_T cI cL cZ) sz [(h, .inr (3, [.ref a, .int (nI n)])), (a, .inl (cI, 20, .inl (fN g)))] [.ref h, .int x]) (su_qi D (va_A [(h, .inr (3, [.ref a, .int (nI n)])), (a, .inl (cI, 20, .inl (fN g)))] sz) (fun (r : Int32) (uu : Unit) => r = bI (hp x n)) (fun (uu : Unit) => [(h, .inr (3, [.ref a, .int (nI n)])), (a, .inl (cI, 20, .inl (fN g)))])) 0 0 (va_A [(h, .inr (3, [.ref a, .int (nI n)])), (a, .inl (cI, 20, .inl (fN g)))] sz) := by
  refine su_met (Qf := fun A => su_qi D A (fun (r : Int32) (uu : Unit) => r = bI (hp x n)) (fun (uu : Unit) => [(h, .inr (3, [.ref a, .int (nI n)])), (a, .inl (cI, 20, .inl (fN g)))])) (cc := cX3_hasPlace) (maxL := 2) (ret := (some .boolean)) (by decide) (Nat.le_of_ble_eq_true rfl) ?_
  intro p e s m args below meth c R Q A H locs ls hx hb hr hlocks hin hml hown hts hN hP hK hD hA hS hRm hQ hl
  have hown : s.vm.findClass RX3 = some m.cls := hown
  have hl : lv_has ls 2 [(0, .ref h), (1, .int x)] := hl
  have hR3 : 0 ≤ R.cells := by rw [hRm]; exact Nat.le_of_ble_eq_true rfl
  have hR4 : 0 ≤ R.slots := by rw [hRm]; exact Nat.le_of_ble_eq_true rfl
  have k_68 := hts _ q_68
  refine lv_iload_n hx hb dX3_hasPlace_0 rfl (lv_at hl 1 rfl) ?_
  refine lv_if_lt (tgt := 22) hx hb dX3_hasPlace_1 (by decide) (fun c1 => ?_) (fun c1 => ?_)
  · refine lv_iconst (v := nI 0) hx hb dX3_hasPlace_22 (by decide) ?_
    rw [hQ]
    exact su_ez hx hb hr hlocks hS dX3_hasPlace_23 (by decide) () (by first | exact hp_1 hn c1 c9 | exact hp_0a c1 | exact hp_0b hn c9 | exact hp_0c hn c15) hP hD
  · refine lv_iload_n hx hb dX3_hasPlace_4 rfl (lv_at hl 1 rfl) ?_
    refine lv_aload_n hx hb dX3_hasPlace_5 rfl (lv_at hl 0 rfl) ?_
    refine va_get (D := D) (ci := 3) (v := .int (nI n)) (C := RX3) (T := TX3) (N := 2) hx hb hts in_X3 hown hK hP 0 rfl rfl 1 (by decide) k_68 (fun _ h9 => h9) rfl dX3_hasPlace_6 ?_
    refine lv_icmp_ge (tgt := 22) hx hb dX3_hasPlace_9 (by decide) (fun c9 => ?_) (fun c9 => ?_)
    · refine lv_iconst (v := nI 0) hx hb dX3_hasPlace_22 (by decide) ?_
      rw [hQ]
      exact su_ez hx hb hr hlocks hS dX3_hasPlace_23 (by decide) () (by first | exact hp_1 hn c1 c9 | exact hp_0a c1 | exact hp_0b hn c9 | exact hp_0c hn c15) hP hD
    · refine lv_iload_n hx hb dX3_hasPlace_12 rfl (lv_at hl 1 rfl) ?_
      refine lv_bipush (v := nI 20) hx hb dX3_hasPlace_13 (by decide) ?_
      refine lv_icmp_ge (tgt := 22) hx hb dX3_hasPlace_15 (by decide) (fun c15 => ?_) (fun c15 => ?_)
      · refine lv_iconst (v := nI 0) hx hb dX3_hasPlace_22 (by decide) ?_
        rw [hQ]
        exact su_ez hx hb hr hlocks hS dX3_hasPlace_23 (by decide) () (by first | exact hp_1 hn c1 c9 | exact hp_0a c1 | exact hp_0b hn c9 | exact hp_0c hn c15) hP hD
      · refine lv_iconst (v := nI 1) hx hb dX3_hasPlace_18 (by decide) ?_
        refine lv_goto (tgt := 23) hx hb dX3_hasPlace_19 (by decide) ?_
        rw [hQ]
        exact su_ez hx hb hr hlocks hS dX3_hasPlace_23 (by decide) () (by first | exact hp_1 hn c1 c9 | exact hp_0a c1 | exact hp_0b hn c9 | exact hp_0c hn c15) hP hD
set_option maxHeartbeats 4000000 in
set_option maxRecDepth 100000 in
theorem k_numberAt (l : Launch) (D : va_G) (cI cL cZ : ClassId) (sz : Nat) (h : Nat) (a : Nat) (g : Nat → Nat) (n : Nat) (i : Nat) (hn : n ≤ 20) (hi : i < n) :
    Met l yX3_numberAt (ws_ yX3_numberAt cX3_numberAt 2 (some .int)) { frames := 1, cells := 0, slots := 0, locals := 30 } (su_pre D (su_T cI cL cZ) sz [(h, .inr (3, [.ref a, .int (nI n)])), (a, .inl (cI, 20, .inl (fN g)))] [.ref h, .int (nI i)]) (su_qi D (va_A [(h, .inr (3, [.ref a, .int (nI n)])), (a, .inl (cI, 20, .inl (fN g)))] sz) (fun (r : Int32) (uu : Unit) => r = nI (g i)) (fun (uu : Unit) => [(h, .inr (3, [.ref a, .int (nI n)])), (a, .inl (cI, 20, .inl (fN g)))])) 0 0 (va_A [(h, .inr (3, [.ref a, .int (nI n)])), (a, .inl (cI, 20, .inl (fN g)))] sz) := by
  refine su_met (Qf := fun A => su_qi D A (fun (r : Int32) (uu : Unit) => r = nI (g i)) (fun (uu : Unit) => [(h, .inr (3, [.ref a, .int (nI n)])), (a, .inl (cI, 20, .inl (fN g)))])) (cc := cX3_numberAt) (maxL := 2) (ret := (some .int)) (by decide) (Nat.le_of_ble_eq_true rfl) ?_
  intro p e s m args below meth c R Q A H locs ls hx hb hr hlocks hin hml hown hts hN hP hK hD hA hS hRm hQ hl
  have hown : s.vm.findClass RX3 = some m.cls := hown
  have hl : lv_has ls 2 [(0, .ref h), (1, .int (nI i))] := hl
  have hR1 : 1 ≤ R.frames := by rw [hRm]; exact Nat.le_of_ble_eq_true rfl
  have hR2 : 30 ≤ R.locals := by rw [hRm]; exact Nat.le_of_ble_eq_true rfl
  have hR3 : 0 ≤ R.cells := by rw [hRm]; exact Nat.le_of_ble_eq_true rfl
  have hR4 : 0 ≤ R.slots := by rw [hRm]; exact Nat.le_of_ble_eq_true rfl
  have k_67 := hts _ q_67
  refine lv_aload_n hx hb dX3_numberAt_0 rfl (lv_at hl 0 rfl) ?_
  refine lv_iload_n hx hb dX3_numberAt_1 rfl (lv_at hl 1 rfl) ?_
  refine su_ci (wr := []) (va_runV (As := [.int (nI i)]) (rest := []) ⟨hx, hb, hml, hown, hts⟩ (k_hasPlace l D cI cL cZ H.size (h) (a) (g) (n) (nI i) (hn)) (cwV 1 hts (lw_gV q_282 q_283 q_284 q_32 q_285) rfl rfl rfl (by decide +kernel) ⟨Nat.le_trans (Nat.le_of_ble_eq_true rfl) hR1, Nat.le_trans (Nat.le_of_ble_eq_true rfl) hR2⟩) (su_pv hN hK hP hD [0, 1] [0, 1, 2] rfl rfl rfl (ci := 3) (q0 := 0) rfl rfl rfl) rfl rfl hl.1 rfl (lv_room (Nat.le_of_ble_eq_true rfl)) dX3_numberAt_2 ⟨Nat.le_trans (Nat.le_of_ble_eq_true rfl) hR3, Nat.le_trans (Nat.le_of_ble_eq_true rfl) hR4⟩) hP hD hS hA [0, 1] [] rfl rfl (by decide) (by decide) (fun r uu H locs hw hP hD hS => ?_)
  obtain rfl : r = bI (hp (nI i) n) := hw
  have hP : va_P D vwCl [(h, .inr (3, [.ref a, .int (nI n)])), (a, .inl (cI, 20, .inl (fN g)))] H := hP
  have hD : va_D A [(h, .inr (3, [.ref a, .int (nI n)])), (a, .inl (cI, 20, .inl (fN g)))] := hD
  refine su_eqi (bI true) (by rw [hp_lt hi hn]) ?_
  refine lv_if_eq (tgt := 17) hx hb dX3_numberAt_5 (by decide) (fun c5 => ?_) (fun c5 => ?_)
  · have c5 : true = false := bI_e c5
    exact absurd c5 (by decide)
  · have c5 : true = true := bI_n c5
    refine lv_aload_n hx hb dX3_numberAt_8 rfl (lv_at hl 0 rfl) ?_
    refine va_get (D := D) (ci := 3) (v := .ref a) (C := RX3) (T := TX3) (N := 2) hx hb hts in_X3 hown hK hP 0 rfl rfl 0 (by decide) k_67 (fun _ h9 => h9) rfl dX3_numberAt_9 ?_
    refine lv_iload_n hx hb dX3_numberAt_12 rfl (lv_at hl 1 rfl) ?_
    refine su_iald hx hb hK hP 1 0 rfl rfl (i := i) (by omega) (by decide) (nI (g i)) (rfl) dX3_numberAt_13 ?_
    refine lv_goto (tgt := 18) hx hb dX3_numberAt_14 (by decide) ?_
    rw [hQ]
    exact su_ei hx hb hr hlocks hS dX3_numberAt_18 () (rfl) hP hD
set_option maxHeartbeats 4000000 in
set_option maxRecDepth 100000 in
theorem k_sumAt (l : Launch) (D : va_G) (cI cL cZ : ClassId) (sz : Nat) (h : Nat) (a : Nat) (g : Nat → Nat) (n : Nat) (x : Int32) (hn : n ≤ 20) :
    Met l yX3_sumAt (ws_ yX3_sumAt cX3_sumAt 4 (some .int)) { frames := 2, cells := 0, slots := 0, locals := 60 } (su_pre D (su_T cI cL cZ) sz [(h, .inr (3, [.ref a, .int (nI n)])), (a, .inl (cI, 20, .inl (fN g)))] [.ref h, .int x]) (su_qi D (va_A [(h, .inr (3, [.ref a, .int (nI n)])), (a, .inl (cI, 20, .inl (fN g)))] sz) (fun (r : Int32) (uu : Unit) => r = nI (su_sA g n x)) (fun (uu : Unit) => [(h, .inr (3, [.ref a, .int (nI n)])), (a, .inl (cI, 20, .inl (fN g)))])) 0 0 (va_A [(h, .inr (3, [.ref a, .int (nI n)])), (a, .inl (cI, 20, .inl (fN g)))] sz) := by
  refine su_met (Qf := fun A => su_qi D A (fun (r : Int32) (uu : Unit) => r = nI (su_sA g n x)) (fun (uu : Unit) => [(h, .inr (3, [.ref a, .int (nI n)])), (a, .inl (cI, 20, .inl (fN g)))])) (cc := cX3_sumAt) (maxL := 4) (ret := (some .int)) (by decide) (Nat.le_of_ble_eq_true rfl) ?_
  intro p e s m args below meth c R Q A H locs ls hx hb hr hlocks hin hml hown hts hN hP hK hD hA hS hRm hQ hl
  have hown : s.vm.findClass RX3 = some m.cls := hown
  have hl : lv_has ls 4 [(0, .ref h), (1, .int x)] := hl
  have hR1 : 2 ≤ R.frames := by rw [hRm]; exact Nat.le_of_ble_eq_true rfl
  have hR2 : 60 ≤ R.locals := by rw [hRm]; exact Nat.le_of_ble_eq_true rfl
  have hR3 : 0 ≤ R.cells := by rw [hRm]; exact Nat.le_of_ble_eq_true rfl
  have hR4 : 0 ≤ R.slots := by rw [hRm]; exact Nat.le_of_ble_eq_true rfl
  have k_68 := hts _ q_68
  refine lv_iconst (v := nI 0) hx hb dX3_sumAt_0 (by decide) ?_
  refine lv_istore_n (lv' := [(2, .int (nI 0)), (0, .ref h), (1, .int x)]) hx hb dX3_sumAt_1 rfl hl (by decide) rfl (fun ls hl => ?_)
  refine lv_iconst (v := nI 0) hx hb dX3_sumAt_2 (by decide) ?_
  refine lv_istore_n (lv' := [(3, .int (nI 0)), (2, .int (nI 0)), (0, .ref h), (1, .int x)]) hx hb dX3_sumAt_3 rfl hl (by decide) rfl (fun ls hl => ?_)
  have loop4 : ∀ (k4 : Nat) (i : Nat), (i ≤ n) → n - i < k4 → ∀ (H : Heap) (locs : List Loc), va_P D vwCl [(h, .inr (3, [.ref a, .int (nI n)])), (a, .inl (cI, 20, .inl (fN g)))] H → va_D A [(h, .inr (3, [.ref a, .int (nI n)])), (a, .inl (cI, 20, .inl (fN g)))] → va_S A s.heap H locs → ∀ ls : Array Slot, lv_has ls 4 [(3, .int (nI i)), (2, .int (nI (su_sA g i x))), (0, .ref h), (1, .int x)] → W p l e R s m args below meth c H locs 0 0 Q (F0 m 4 ls []) := by
    intro k4
    induction k4 with
    | zero => intro i hi hk; exact absurd hk (Nat.not_lt_zero _)
    | succ k4 ih4 =>
      intro i hi hk4 H locs hP hD hS ls hl
      refine lv_iload_n hx hb dX3_sumAt_4 rfl (lv_at hl 0 rfl) ?_
      refine lv_aload_n hx hb dX3_sumAt_5 rfl (lv_at hl 2 rfl) ?_
      refine va_get (D := D) (ci := 3) (v := .int (nI n)) (C := RX3) (T := TX3) (N := 2) hx hb hts in_X3 hown hK hP 0 rfl rfl 1 (by decide) k_68 (fun _ h9 => h9) rfl dX3_sumAt_6 ?_
      refine lv_icmp_ge (tgt := 34) hx hb dX3_sumAt_9 (by decide) (fun c9 => ?_) (fun c9 => ?_)
      · have c9 : n ≤ i := su_ge (by omega) (by omega) c9
        refine lv_iload_n hx hb dX3_sumAt_34 rfl (lv_at hl 1 rfl) ?_
        rw [hQ]
        exact su_ei hx hb hr hlocks hS dX3_sumAt_35 () (by rw [show i = n by omega]) hP hD
      · have c9 : i < n := su_nge (by omega) (by omega) c9
        refine lv_iload_n hx hb dX3_sumAt_12 rfl (lv_at hl 3 rfl) ?_
        refine lv_iload_n hx hb dX3_sumAt_13 rfl (lv_at hl 0 rfl) ?_
        refine lv_ishr hx hb dX3_sumAt_14 ?_
        refine lv_iconst (v := nI 1) hx hb dX3_sumAt_15 (by decide) ?_
        refine lv_iand hx hb dX3_sumAt_16 ?_
        refine su_eqi (bI (bt x i)) (su_bitE x (by omega)) ?_
        refine lv_if_eq (tgt := 28) hx hb dX3_sumAt_17 (by decide) (fun c17 => ?_) (fun c17 => ?_)
        · have c17 : bt x i = false := bI_e c17
          refine lv_iinc (v := nI (i + 1)) (lv' := [(3, .int (nI (i + 1))), (2, .int (nI (su_sA g i x))), (0, .ref h), (1, .int x)]) hx hb dX3_sumAt_28 hl (k := 0) rfl (su_inc _) (by decide) rfl (fun ls hl => ?_)
          refine lv_goto (tgt := 4) hx hb dX3_sumAt_31 (by decide) ?_
          have hl : lv_has ls 4 [(3, .int (nI (i + 1))), (2, .int (nI (su_sA g (i + 1) x))), (0, .ref h), (1, .int x)] := by rw [show (nI (su_sA g (i + 1) x)) = (nI (su_sA g i x)) from (by rw [su_sA, c17]; simp)]; exact hl
          exact ih4 (i + 1) (by omega) (by omega) _ _ hP hD hS _ (lv_sub hl [0, 1, 2, 3] rfl)
        · have c17 : bt x i = true := bI_n c17
          refine lv_iload_n hx hb dX3_sumAt_20 rfl (lv_at hl 1 rfl) ?_
          refine lv_aload_n hx hb dX3_sumAt_21 rfl (lv_at hl 2 rfl) ?_
          refine lv_iload_n hx hb dX3_sumAt_22 rfl (lv_at hl 0 rfl) ?_
          refine su_ci (wr := []) (va_runV (As := [.int (nI i)]) (rest := [.int (nI (su_sA g i x))]) ⟨hx, hb, hml, hown, hts⟩ (k_numberAt l D cI cL cZ H.size (h) (a) (g) (n) (i) (hn) (c9)) (cwV 1 hts (lw_gV q_330 q_279 q_280 q_32 q_281) rfl rfl rfl (by decide +kernel) ⟨Nat.le_trans (Nat.le_of_ble_eq_true rfl) hR1, Nat.le_trans (Nat.le_of_ble_eq_true rfl) hR2⟩) (su_pv hN hK hP hD [0, 1] [0, 1, 2] rfl rfl rfl (ci := 3) (q0 := 0) rfl rfl rfl) rfl rfl hl.1 rfl (lv_room (Nat.le_of_ble_eq_true rfl)) dX3_sumAt_23 ⟨Nat.le_trans (Nat.le_of_ble_eq_true rfl) hR3, Nat.le_trans (Nat.le_of_ble_eq_true rfl) hR4⟩) hP hD hS hA [0, 1] [] rfl rfl (by decide) (by decide) (fun r uu H locs hw hP hD hS => ?_)
          obtain rfl : r = nI (g i) := hw
          have hP : va_P D vwCl [(h, .inr (3, [.ref a, .int (nI n)])), (a, .inl (cI, 20, .inl (fN g)))] H := hP
          have hD : va_D A [(h, .inr (3, [.ref a, .int (nI n)])), (a, .inl (cI, 20, .inl (fN g)))] := hD
          refine lv_iadd hx hb dX3_sumAt_26 ?_
          refine su_eqi (nI (su_sA g i x + (g i))) (nI_add _ _) ?_
          refine lv_istore_n (lv' := [(2, .int (nI (su_sA g i x + (g i)))), (3, .int (nI i)), (0, .ref h), (1, .int x)]) hx hb dX3_sumAt_27 rfl hl (by decide) rfl (fun ls hl => ?_)
          refine lv_iinc (v := nI (i + 1)) (lv' := [(3, .int (nI (i + 1))), (2, .int (nI (su_sA g i x + (g i)))), (0, .ref h), (1, .int x)]) hx hb dX3_sumAt_28 hl (k := 1) rfl (su_inc _) (by decide) rfl (fun ls hl => ?_)
          refine lv_goto (tgt := 4) hx hb dX3_sumAt_31 (by decide) ?_
          have hl : lv_has ls 4 [(3, .int (nI (i + 1))), (2, .int (nI (su_sA g (i + 1) x))), (0, .ref h), (1, .int x)] := by rw [show (nI (su_sA g (i + 1) x)) = (nI (su_sA g i x + (g i))) from (by rw [su_sA, c17]; simp)]; exact hl
          exact ih4 (i + 1) (by omega) (by omega) _ _ hP hD hS _ (lv_sub hl [0, 1, 2, 3] rfl)
  exact loop4 ((n - (0)) + 1) (0) (by omega) (by omega) _ _ hP hD hS _ (lv_sub hl [0, 1, 2, 3] rfl)
set_option maxHeartbeats 4000000 in
set_option maxRecDepth 100000 in
theorem k_sumOfAll (l : Launch) (D : va_G) (cI cL cZ : ClassId) (sz : Nat) (h : Nat) (a : Nat) (g : Nat → Nat) (n : Nat) (hn : n ≤ 20) :
    Met l yX3_sumOfAll (ws_ yX3_sumOfAll cX3_sumOfAll 1 (some .int)) { frames := 3, cells := 0, slots := 0, locals := 90 } (su_pre D (su_T cI cL cZ) sz [(h, .inr (3, [.ref a, .int (nI n)])), (a, .inl (cI, 20, .inl (fN g)))] [.ref h]) (su_qi D (va_A [(h, .inr (3, [.ref a, .int (nI n)])), (a, .inl (cI, 20, .inl (fN g)))] sz) (fun (r : Int32) (uu : Unit) => r = nI (su_sm g n)) (fun (uu : Unit) => [(h, .inr (3, [.ref a, .int (nI n)])), (a, .inl (cI, 20, .inl (fN g)))])) 0 0 (va_A [(h, .inr (3, [.ref a, .int (nI n)])), (a, .inl (cI, 20, .inl (fN g)))] sz) := by
  refine su_met (Qf := fun A => su_qi D A (fun (r : Int32) (uu : Unit) => r = nI (su_sm g n)) (fun (uu : Unit) => [(h, .inr (3, [.ref a, .int (nI n)])), (a, .inl (cI, 20, .inl (fN g)))])) (cc := cX3_sumOfAll) (maxL := 1) (ret := (some .int)) (by decide) (Nat.le_of_ble_eq_true rfl) ?_
  intro p e s m args below meth c R Q A H locs ls hx hb hr hlocks hin hml hown hts hN hP hK hD hA hS hRm hQ hl
  have hown : s.vm.findClass RX3 = some m.cls := hown
  have hl : lv_has ls 1 [(0, .ref h)] := hl
  have hR1 : 3 ≤ R.frames := by rw [hRm]; exact Nat.le_of_ble_eq_true rfl
  have hR2 : 90 ≤ R.locals := by rw [hRm]; exact Nat.le_of_ble_eq_true rfl
  have hR3 : 0 ≤ R.cells := by rw [hRm]; exact Nat.le_of_ble_eq_true rfl
  have hR4 : 0 ≤ R.slots := by rw [hRm]; exact Nat.le_of_ble_eq_true rfl
  refine lv_aload_n hx hb dX3_sumOfAll_0 rfl (lv_at hl 0 rfl) ?_
  refine lv_iconst (v := -1) hx hb dX3_sumOfAll_1 (by decide) ?_
  refine su_ci (wr := []) (va_runV (As := [.int (-1)]) (rest := []) ⟨hx, hb, hml, hown, hts⟩ (k_sumAt l D cI cL cZ H.size (h) (a) (g) (n) (-1) (hn)) (cwV 1 hts (lw_gV q_422 q_423 q_424 q_32 q_425) rfl rfl rfl (by decide +kernel) ⟨Nat.le_trans (Nat.le_of_ble_eq_true rfl) hR1, Nat.le_trans (Nat.le_of_ble_eq_true rfl) hR2⟩) (su_pv hN hK hP hD [0, 1] [0, 1, 2] rfl rfl rfl (ci := 3) (q0 := 0) rfl rfl rfl) rfl rfl hl.1 rfl (lv_room (Nat.le_of_ble_eq_true rfl)) dX3_sumOfAll_2 ⟨Nat.le_trans (Nat.le_of_ble_eq_true rfl) hR3, Nat.le_trans (Nat.le_of_ble_eq_true rfl) hR4⟩) hP hD hS hA [0, 1] [] rfl rfl (by decide) (by decide) (fun r uu H locs hw hP hD hS => ?_)
  obtain rfl : r = nI (su_sA g n (-1)) := hw
  have hP : va_P D vwCl [(h, .inr (3, [.ref a, .int (nI n)])), (a, .inl (cI, 20, .inl (fN g)))] H := hP
  have hD : va_D A [(h, .inr (3, [.ref a, .int (nI n)])), (a, .inl (cI, 20, .inl (fN g)))] := hD
  refine su_eqi (nI (su_sm g n)) (by rw [su_sA_m1 g n (by omega)]) ?_
  rw [hQ]
  exact su_ei hx hb hr hlocks hS dX3_sumOfAll_5 () (rfl) hP hD
set_option maxHeartbeats 4000000 in
set_option maxRecDepth 100000 in
theorem k_empty (l : Launch) (D : va_G) (cI cL cZ : ClassId) (sz : Nat) (h : Nat) (a : Nat) (g : Nat → Nat) (n : Nat) :
    Met l yX3_empty (ws_ yX3_empty cX3_empty 1 none) { frames := 0, cells := 0, slots := 0, locals := 0 } (su_pre D (su_T cI cL cZ) sz [(h, .inr (3, [.ref a, .int (nI n)])), (a, .inl (cI, 20, .inl (fN g)))] [.ref h]) (su_qv D (va_A [(h, .inr (3, [.ref a, .int (nI n)])), (a, .inl (cI, 20, .inl (fN g)))] sz) (fun (uu : Unit) => True) (fun (uu : Unit) => [(h, .inr (3, [.ref a, .int (nI 0)])), (a, .inl (cI, 20, .inl (fN g)))])) 0 0 (va_A [(h, .inr (3, [.ref a, .int (nI n)])), (a, .inl (cI, 20, .inl (fN g)))] sz) := by
  refine su_met (Qf := fun A => su_qv D A (fun (uu : Unit) => True) (fun (uu : Unit) => [(h, .inr (3, [.ref a, .int (nI 0)])), (a, .inl (cI, 20, .inl (fN g)))])) (cc := cX3_empty) (maxL := 1) (ret := none) (by decide) (Nat.le_of_ble_eq_true rfl) ?_
  intro p e s m args below meth c R Q A H locs ls hx hb hr hlocks hin hml hown hts hN hP hK hD hA hS hRm hQ hl
  have hown : s.vm.findClass RX3 = some m.cls := hown
  have hl : lv_has ls 1 [(0, .ref h)] := hl
  have hR3 : 0 ≤ R.cells := by rw [hRm]; exact Nat.le_of_ble_eq_true rfl
  have hR4 : 0 ≤ R.slots := by rw [hRm]; exact Nat.le_of_ble_eq_true rfl
  have k_68 := hts _ q_68
  refine lv_aload_n hx hb dX3_empty_0 rfl (lv_at hl 0 rfl) ?_
  refine lv_iconst (v := nI 0) hx hb dX3_empty_1 (by decide) ?_
  refine va_put (D := D) (ci := 3) (v := .int (nI 0)) (ty := .int) (C := RX3) (T := TX3) (N := 2) hx hb hts in_X3 tyX3 tyX3_ok nmX3 hown hK hP hD hS 0 rfl rfl 1 (by decide) k_68 (fun _ h9 => h9) rfl (by decide +kernel) rfl rfl (Nat.le_of_ble_eq_true rfl) dX3_empty_2 (fun H locs hP hD hS => ?_)
  have hP : va_P D vwCl [(h, .inr (3, [.ref a, .int (nI 0)])), (a, .inl (cI, 20, .inl (fN g)))] H := hP
  have hD : va_D A [(h, .inr (3, [.ref a, .int (nI 0)])), (a, .inl (cI, 20, .inl (fN g)))] := hD
  rw [hQ]
  exact su_ev hx hb hr hlocks hS dX3_empty_5 () (trivial) hP hD
set_option maxHeartbeats 4000000 in
set_option maxRecDepth 100000 in
theorem k_putIn (l : Launch) (D : va_G) (cI cL cZ : ClassId) (sz : Nat) (h : Nat) (a : Nat) (g : Nat → Nat) (n : Nat) (q : Nat) (v : Nat) (hn : n < 20) (hq : q ≤ n) :
    Met l yX3_putIn (ws_ yX3_putIn cX3_putIn 4 none) { frames := 0, cells := 0, slots := 0, locals := 0 } (su_pre D (su_T cI cL cZ) sz [(h, .inr (3, [.ref a, .int (nI n)])), (a, .inl (cI, 20, .inl (fN g)))] [.ref h, .int (nI q), .int (nI v)]) (su_qv D (va_A [(h, .inr (3, [.ref a, .int (nI n)])), (a, .inl (cI, 20, .inl (fN g)))] sz) (fun (uu : Unit) => True) (fun (uu : Unit) => [(h, .inr (3, [.ref a, .int (nI (n + 1))])), (a, .inl (cI, 20, .inl (fN (su_ins g n q v))))])) 0 0 (va_A [(h, .inr (3, [.ref a, .int (nI n)])), (a, .inl (cI, 20, .inl (fN g)))] sz) := by
  refine su_met (Qf := fun A => su_qv D A (fun (uu : Unit) => True) (fun (uu : Unit) => [(h, .inr (3, [.ref a, .int (nI (n + 1))])), (a, .inl (cI, 20, .inl (fN (su_ins g n q v))))])) (cc := cX3_putIn) (maxL := 4) (ret := none) (by decide) (Nat.le_of_ble_eq_true rfl) ?_
  intro p e s m args below meth c R Q A H locs ls hx hb hr hlocks hin hml hown hts hN hP hK hD hA hS hRm hQ hl
  have hown : s.vm.findClass RX3 = some m.cls := hown
  have hl : lv_has ls 4 [(0, .ref h), (1, .int (nI q)), (2, .int (nI v))] := hl
  have hR3 : 0 ≤ R.cells := by rw [hRm]; exact Nat.le_of_ble_eq_true rfl
  have hR4 : 0 ≤ R.slots := by rw [hRm]; exact Nat.le_of_ble_eq_true rfl
  have k_68 := hts _ q_68
  have k_67 := hts _ q_67
  refine lv_aload_n hx hb dX3_putIn_0 rfl (lv_at hl 0 rfl) ?_
  refine va_get (D := D) (ci := 3) (v := .int (nI n)) (C := RX3) (T := TX3) (N := 2) hx hb hts in_X3 hown hK hP 0 rfl rfl 1 (by decide) k_68 (fun _ h9 => h9) rfl dX3_putIn_1 ?_
  refine lv_bipush (v := nI 20) hx hb dX3_putIn_4 (by decide) ?_
  refine lv_icmp_ge (tgt := 21) hx hb dX3_putIn_6 (by decide) (fun c6 => ?_) (fun c6 => ?_)
  · have c6 : 20 ≤ n := su_ge (by omega) (by omega) c6
    omega
  · have c6 : n < 20 := su_nge (by omega) (by omega) c6
    refine lv_iload_n hx hb dX3_putIn_9 rfl (lv_at hl 1 rfl) ?_
    refine lv_if_lt (tgt := 21) hx hb dX3_putIn_10 (by decide) (fun c10 => ?_) (fun c10 => ?_)
    · exact absurd c10 (nI_pos (by omega))
    · refine lv_iload_n hx hb dX3_putIn_13 rfl (lv_at hl 1 rfl) ?_
      refine lv_aload_n hx hb dX3_putIn_14 rfl (lv_at hl 0 rfl) ?_
      refine va_get (D := D) (ci := 3) (v := .int (nI n)) (C := RX3) (T := TX3) (N := 2) hx hb hts in_X3 hown hK hP 0 rfl rfl 1 (by decide) k_68 (fun _ h9 => h9) rfl dX3_putIn_15 ?_
      refine lv_icmp_le (tgt := 22) hx hb dX3_putIn_18 (by decide) (fun c18 => ?_) (fun c18 => ?_)
      · have c18 : q ≤ n := su_ge (by omega) (by omega) c18
        refine lv_aload_n hx hb dX3_putIn_22 rfl (lv_at hl 0 rfl) ?_
        refine va_get (D := D) (ci := 3) (v := .int (nI n)) (C := RX3) (T := TX3) (N := 2) hx hb hts in_X3 hown hK hP 0 rfl rfl 1 (by decide) k_68 (fun _ h9 => h9) rfl dX3_putIn_23 ?_
        refine lv_istore_n (lv' := [(3, .int (nI n)), (0, .ref h), (1, .int (nI q)), (2, .int (nI v))]) hx hb dX3_putIn_26 rfl hl (by decide) rfl (fun ls hl => ?_)
        have loop27 : ∀ (k27 : Nat) (j : Nat), (q ≤ j) → (j ≤ n) → j < k27 → ∀ (H : Heap) (locs : List Loc), va_P D vwCl [(h, .inr (3, [.ref a, .int (nI n)])), (a, .inl (cI, 20, .inl (fN (su_sh g n j))))] H → va_D A [(h, .inr (3, [.ref a, .int (nI n)])), (a, .inl (cI, 20, .inl (fN (su_sh g n j))))] → va_S A s.heap H locs → ∀ ls : Array Slot, lv_has ls 4 [(3, .int (nI j)), (0, .ref h), (1, .int (nI q)), (2, .int (nI v))] → W p l e R s m args below meth c H locs 0 0 Q (F0 m 27 ls []) := by
          intro k27
          induction k27 with
          | zero => intro j hj hj2 hk; exact absurd hk (Nat.not_lt_zero _)
          | succ k27 ih27 =>
            intro j hj hj2 hk27 H locs hP hD hS ls hl
            refine lv_iload_n hx hb dX3_putIn_27 rfl (lv_at hl 0 rfl) ?_
            refine lv_iload_n hx hb dX3_putIn_28 rfl (lv_at hl 2 rfl) ?_
            refine lv_icmp_le (tgt := 52) hx hb dX3_putIn_29 (by decide) (fun c29 => ?_) (fun c29 => ?_)
            · have c29 : j ≤ q := su_ge (by omega) (by omega) c29
              refine lv_aload_n hx hb dX3_putIn_52 rfl (lv_at hl 1 rfl) ?_
              refine va_get (D := D) (ci := 3) (v := .ref a) (C := RX3) (T := TX3) (N := 2) hx hb hts in_X3 hown hK hP 0 rfl rfl 0 (by decide) k_67 (fun _ h9 => h9) rfl dX3_putIn_53 ?_
              refine lv_iload_n hx hb dX3_putIn_56 rfl (lv_at hl 2 rfl) ?_
              refine lv_iload_n hx hb dX3_putIn_57 rfl (lv_at hl 3 rfl) ?_
              refine su_iast hx hb hK hP hD hS 1 0 rfl rfl (i := q) (by omega) (by decide) (fN (su_ins g n q v)) (fun k _ => by rw [show j = q by omega]; exact su_upN _ _ _ k) dX3_putIn_58 (fun H locs hP hD hS => ?_)
              have hP : va_P D vwCl [(h, .inr (3, [.ref a, .int (nI n)])), (a, .inl (cI, 20, .inl (fN (su_ins g n q v))))] H := hP
              have hD : va_D A [(h, .inr (3, [.ref a, .int (nI n)])), (a, .inl (cI, 20, .inl (fN (su_ins g n q v))))] := hD
              refine lv_aload_n hx hb dX3_putIn_59 rfl (lv_at hl 1 rfl) ?_
              refine lv_dup hx hb dX3_putIn_60 rfl ?_
              refine va_get (D := D) (ci := 3) (v := .int (nI n)) (C := RX3) (T := TX3) (N := 2) hx hb hts in_X3 hown hK hP 0 rfl rfl 1 (by decide) k_68 (fun _ h9 => h9) rfl dX3_putIn_61 ?_
              refine lv_iconst (v := nI 1) hx hb dX3_putIn_64 (by decide) ?_
              refine lv_iadd hx hb dX3_putIn_65 ?_
              refine su_eqi (nI (n + 1)) (nI_add _ _) ?_
              refine va_put (D := D) (ci := 3) (v := .int (nI (n + 1))) (ty := .int) (C := RX3) (T := TX3) (N := 2) hx hb hts in_X3 tyX3 tyX3_ok nmX3 hown hK hP hD hS 0 rfl rfl 1 (by decide) k_68 (fun _ h9 => h9) rfl (by decide +kernel) rfl rfl (Nat.le_of_ble_eq_true rfl) dX3_putIn_66 (fun H locs hP hD hS => ?_)
              have hP : va_P D vwCl [(h, .inr (3, [.ref a, .int (nI (n + 1))])), (a, .inl (cI, 20, .inl (fN (su_ins g n q v))))] H := hP
              have hD : va_D A [(h, .inr (3, [.ref a, .int (nI (n + 1))])), (a, .inl (cI, 20, .inl (fN (su_ins g n q v))))] := hD
              rw [hQ]
              exact su_ev hx hb hr hlocks hS dX3_putIn_69 () (trivial) hP hD
            · have c29 : q < j := su_nge (by omega) (by omega) c29
              refine lv_aload_n hx hb dX3_putIn_32 rfl (lv_at hl 1 rfl) ?_
              refine va_get (D := D) (ci := 3) (v := .ref a) (C := RX3) (T := TX3) (N := 2) hx hb hts in_X3 hown hK hP 0 rfl rfl 0 (by decide) k_67 (fun _ h9 => h9) rfl dX3_putIn_33 ?_
              refine lv_iload_n hx hb dX3_putIn_36 rfl (lv_at hl 0 rfl) ?_
              refine lv_aload_n hx hb dX3_putIn_37 rfl (lv_at hl 1 rfl) ?_
              refine va_get (D := D) (ci := 3) (v := .ref a) (C := RX3) (T := TX3) (N := 2) hx hb hts in_X3 hown hK hP 0 rfl rfl 0 (by decide) k_67 (fun _ h9 => h9) rfl dX3_putIn_38 ?_
              refine lv_iload_n hx hb dX3_putIn_41 rfl (lv_at hl 0 rfl) ?_
              refine lv_iconst (v := nI 1) hx hb dX3_putIn_42 (by decide) ?_
              refine lv_isub hx hb dX3_putIn_43 ?_
              refine su_eqi (nI (j - 1)) (pk_sub (by omega)) ?_
              refine su_iald hx hb hK hP 1 0 rfl rfl (i := (j - 1)) (by omega) (by decide) (nI ((su_sh g n j) (j - 1))) (rfl) dX3_putIn_44 ?_
              refine su_iast hx hb hK hP hD hS 1 0 rfl rfl (i := j) (by omega) (by decide) (fN (va_up (su_sh g n j) j ((su_sh g n j) (j - 1)))) (fun j _ => su_upN _ _ _ j) dX3_putIn_45 (fun H locs hP hD hS => ?_)
              have hP : va_P D vwCl [(h, .inr (3, [.ref a, .int (nI n)])), (a, .inl (cI, 20, .inl (fN (va_up (su_sh g n j) j ((su_sh g n j) (j - 1))))))] H := hP
              have hD : va_D A [(h, .inr (3, [.ref a, .int (nI n)])), (a, .inl (cI, 20, .inl (fN (va_up (su_sh g n j) j ((su_sh g n j) (j - 1))))))] := hD
              refine lv_iinc (v := nI (j - 1)) (lv' := [(3, .int (nI (j - 1))), (0, .ref h), (1, .int (nI q)), (2, .int (nI v))]) hx hb dX3_putIn_46 hl (k := 0) rfl (sb_m1 (by omega)) (by decide) rfl (fun ls hl => ?_)
              refine lv_goto (tgt := 27) hx hb dX3_putIn_49 (by decide) ?_
              obtain ⟨hP, hD⟩ := su_reI (q0 := 1) (fN (su_sh g n (j - 1))) hP hD rfl (fun k _ => su_shS (by omega) hj2 k)
              have hP : va_P D vwCl [(h, .inr (3, [.ref a, .int (nI n)])), (a, .inl (cI, 20, .inl (fN (su_sh g n (j - 1)))))] H := hP
              have hD : va_D A [(h, .inr (3, [.ref a, .int (nI n)])), (a, .inl (cI, 20, .inl (fN (su_sh g n (j - 1)))))] := hD
              exact ih27 (j - 1) (by omega) (by omega) (by omega) _ _ hP hD hS _ (lv_sub hl [0, 1, 2, 3] rfl)
        obtain ⟨hP, hD⟩ := su_reI (q0 := 1) (fN (su_sh g n (n))) hP hD rfl (fun k _ => su_sh0 k)
        have hP : va_P D vwCl [(h, .inr (3, [.ref a, .int (nI n)])), (a, .inl (cI, 20, .inl (fN (su_sh g n (n)))))] H := hP
        have hD : va_D A [(h, .inr (3, [.ref a, .int (nI n)])), (a, .inl (cI, 20, .inl (fN (su_sh g n (n)))))] := hD
        exact loop27 (((n)) + 1) (n) (by omega) (by omega) (by omega) _ _ hP hD hS _ (lv_sub hl [0, 1, 2, 3] rfl)
      · have c18 : n < q := su_nge (by omega) (by omega) c18
        omega
set_option maxHeartbeats 4000000 in
set_option maxRecDepth 100000 in
theorem k_putOver (l : Launch) (D : va_G) (cI cL cZ : ClassId) (sz : Nat) (h : Nat) (a : Nat) (g : Nat → Nat) (n : Nat) (q : Nat) (v : Nat) (hn : n ≤ 20) (hq : q < n) :
    Met l yX3_putOver (ws_ yX3_putOver cX3_putOver 3 none) { frames := 1, cells := 0, slots := 0, locals := 30 } (su_pre D (su_T cI cL cZ) sz [(h, .inr (3, [.ref a, .int (nI n)])), (a, .inl (cI, 20, .inl (fN g)))] [.ref h, .int (nI q), .int (nI v)]) (su_qv D (va_A [(h, .inr (3, [.ref a, .int (nI n)])), (a, .inl (cI, 20, .inl (fN g)))] sz) (fun (uu : Unit) => True) (fun (uu : Unit) => [(h, .inr (3, [.ref a, .int (nI n)])), (a, .inl (cI, 20, .inl (fN (va_up g q v))))])) 0 0 (va_A [(h, .inr (3, [.ref a, .int (nI n)])), (a, .inl (cI, 20, .inl (fN g)))] sz) := by
  refine su_met (Qf := fun A => su_qv D A (fun (uu : Unit) => True) (fun (uu : Unit) => [(h, .inr (3, [.ref a, .int (nI n)])), (a, .inl (cI, 20, .inl (fN (va_up g q v))))])) (cc := cX3_putOver) (maxL := 3) (ret := none) (by decide) (Nat.le_of_ble_eq_true rfl) ?_
  intro p e s m args below meth c R Q A H locs ls hx hb hr hlocks hin hml hown hts hN hP hK hD hA hS hRm hQ hl
  have hown : s.vm.findClass RX3 = some m.cls := hown
  have hl : lv_has ls 3 [(0, .ref h), (1, .int (nI q)), (2, .int (nI v))] := hl
  have hR1 : 1 ≤ R.frames := by rw [hRm]; exact Nat.le_of_ble_eq_true rfl
  have hR2 : 30 ≤ R.locals := by rw [hRm]; exact Nat.le_of_ble_eq_true rfl
  have hR3 : 0 ≤ R.cells := by rw [hRm]; exact Nat.le_of_ble_eq_true rfl
  have hR4 : 0 ≤ R.slots := by rw [hRm]; exact Nat.le_of_ble_eq_true rfl
  have k_67 := hts _ q_67
  refine lv_aload_n hx hb dX3_putOver_0 rfl (lv_at hl 0 rfl) ?_
  refine lv_iload_n hx hb dX3_putOver_1 rfl (lv_at hl 1 rfl) ?_
  refine su_ci (wr := []) (va_runV (As := [.int (nI q)]) (rest := []) ⟨hx, hb, hml, hown, hts⟩ (k_hasPlace l D cI cL cZ H.size (h) (a) (g) (n) (nI q) (hn)) (cwV 1 hts (lw_gV q_282 q_283 q_284 q_32 q_285) rfl rfl rfl (by decide +kernel) ⟨Nat.le_trans (Nat.le_of_ble_eq_true rfl) hR1, Nat.le_trans (Nat.le_of_ble_eq_true rfl) hR2⟩) (su_pv hN hK hP hD [0, 1] [0, 1, 2] rfl rfl rfl (ci := 3) (q0 := 0) rfl rfl rfl) rfl rfl hl.1 rfl (lv_room (Nat.le_of_ble_eq_true rfl)) dX3_putOver_2 ⟨Nat.le_trans (Nat.le_of_ble_eq_true rfl) hR3, Nat.le_trans (Nat.le_of_ble_eq_true rfl) hR4⟩) hP hD hS hA [0, 1] [] rfl rfl (by decide) (by decide) (fun r uu H locs hw hP hD hS => ?_)
  obtain rfl : r = bI (hp (nI q) n) := hw
  have hP : va_P D vwCl [(h, .inr (3, [.ref a, .int (nI n)])), (a, .inl (cI, 20, .inl (fN g)))] H := hP
  have hD : va_D A [(h, .inr (3, [.ref a, .int (nI n)])), (a, .inl (cI, 20, .inl (fN g)))] := hD
  refine su_eqi (bI true) (by rw [hp_lt hq hn]) ?_
  refine lv_if_eq (tgt := 15) hx hb dX3_putOver_5 (by decide) (fun c5 => ?_) (fun c5 => ?_)
  · have c5 : true = false := bI_e c5
    exact absurd c5 (by decide)
  · have c5 : true = true := bI_n c5
    refine lv_aload_n hx hb dX3_putOver_8 rfl (lv_at hl 0 rfl) ?_
    refine va_get (D := D) (ci := 3) (v := .ref a) (C := RX3) (T := TX3) (N := 2) hx hb hts in_X3 hown hK hP 0 rfl rfl 0 (by decide) k_67 (fun _ h9 => h9) rfl dX3_putOver_9 ?_
    refine lv_iload_n hx hb dX3_putOver_12 rfl (lv_at hl 1 rfl) ?_
    refine lv_iload_n hx hb dX3_putOver_13 rfl (lv_at hl 2 rfl) ?_
    refine su_iast hx hb hK hP hD hS 1 0 rfl rfl (i := q) (by omega) (by decide) (fN (va_up g q v)) (fun j _ => su_upN _ _ _ j) dX3_putOver_14 (fun H locs hP hD hS => ?_)
    have hP : va_P D vwCl [(h, .inr (3, [.ref a, .int (nI n)])), (a, .inl (cI, 20, .inl (fN (va_up g q v))))] H := hP
    have hD : va_D A [(h, .inr (3, [.ref a, .int (nI n)])), (a, .inl (cI, 20, .inl (fN (va_up g q v))))] := hD
    rw [hQ]
    exact su_ev hx hb hr hlocks hS dX3_putOver_15 () (trivial) hP hD
set_option maxHeartbeats 4000000 in
set_option maxRecDepth 100000 in
theorem k_takeAway (l : Launch) (D : va_G) (cI cL cZ : ClassId) (sz : Nat) (h : Nat) (a : Nat) (g : Nat → Nat) (n : Nat) (q : Nat) (hn : n ≤ 20) (hq : q < n) :
    Met l yX3_takeAway (ws_ yX3_takeAway cX3_takeAway 4 (some .int)) { frames := 2, cells := 0, slots := 0, locals := 60 } (su_pre D (su_T cI cL cZ) sz [(h, .inr (3, [.ref a, .int (nI n)])), (a, .inl (cI, 20, .inl (fN g)))] [.ref h, .int (nI q)]) (su_qi D (va_A [(h, .inr (3, [.ref a, .int (nI n)])), (a, .inl (cI, 20, .inl (fN g)))] sz) (fun (r : Int32) (uu : Unit) => r = nI (g q)) (fun (uu : Unit) => [(h, .inr (3, [.ref a, .int (nI (n - 1))])), (a, .inl (cI, 20, .inl (fN (su_rm g q (n - 1)))))])) 0 0 (va_A [(h, .inr (3, [.ref a, .int (nI n)])), (a, .inl (cI, 20, .inl (fN g)))] sz) := by
  refine su_met (Qf := fun A => su_qi D A (fun (r : Int32) (uu : Unit) => r = nI (g q)) (fun (uu : Unit) => [(h, .inr (3, [.ref a, .int (nI (n - 1))])), (a, .inl (cI, 20, .inl (fN (su_rm g q (n - 1)))))])) (cc := cX3_takeAway) (maxL := 4) (ret := (some .int)) (by decide) (Nat.le_of_ble_eq_true rfl) ?_
  intro p e s m args below meth c R Q A H locs ls hx hb hr hlocks hin hml hown hts hN hP hK hD hA hS hRm hQ hl
  have hown : s.vm.findClass RX3 = some m.cls := hown
  have hl : lv_has ls 4 [(0, .ref h), (1, .int (nI q))] := hl
  have hR1 : 2 ≤ R.frames := by rw [hRm]; exact Nat.le_of_ble_eq_true rfl
  have hR2 : 60 ≤ R.locals := by rw [hRm]; exact Nat.le_of_ble_eq_true rfl
  have hR3 : 0 ≤ R.cells := by rw [hRm]; exact Nat.le_of_ble_eq_true rfl
  have hR4 : 0 ≤ R.slots := by rw [hRm]; exact Nat.le_of_ble_eq_true rfl
  have k_67 := hts _ q_67
  have k_68 := hts _ q_68
  refine lv_aload_n hx hb dX3_takeAway_0 rfl (lv_at hl 0 rfl) ?_
  refine lv_iload_n hx hb dX3_takeAway_1 rfl (lv_at hl 1 rfl) ?_
  refine su_ci (wr := []) (va_runV (As := [.int (nI q)]) (rest := []) ⟨hx, hb, hml, hown, hts⟩ (k_hasPlace l D cI cL cZ H.size (h) (a) (g) (n) (nI q) (hn)) (cwV 1 hts (lw_gV q_282 q_283 q_284 q_32 q_285) rfl rfl rfl (by decide +kernel) ⟨Nat.le_trans (Nat.le_of_ble_eq_true rfl) hR1, Nat.le_trans (Nat.le_of_ble_eq_true rfl) hR2⟩) (su_pv hN hK hP hD [0, 1] [0, 1, 2] rfl rfl rfl (ci := 3) (q0 := 0) rfl rfl rfl) rfl rfl hl.1 rfl (lv_room (Nat.le_of_ble_eq_true rfl)) dX3_takeAway_2 ⟨Nat.le_trans (Nat.le_of_ble_eq_true rfl) hR3, Nat.le_trans (Nat.le_of_ble_eq_true rfl) hR4⟩) hP hD hS hA [0, 1] [] rfl rfl (by decide) (by decide) (fun r uu H locs hw hP hD hS => ?_)
  obtain rfl : r = bI (hp (nI q) n) := hw
  have hP : va_P D vwCl [(h, .inr (3, [.ref a, .int (nI n)])), (a, .inl (cI, 20, .inl (fN g)))] H := hP
  have hD : va_D A [(h, .inr (3, [.ref a, .int (nI n)])), (a, .inl (cI, 20, .inl (fN g)))] := hD
  refine su_eqi (bI true) (by rw [hp_lt hq hn]) ?_
  refine lv_if_ne (tgt := 10) hx hb dX3_takeAway_5 (by decide) (fun c5 => ?_) (fun c5 => ?_)
  · have c5 : true = true := bI_n c5
    refine lv_aload_n hx hb dX3_takeAway_10 rfl (lv_at hl 0 rfl) ?_
    refine va_get (D := D) (ci := 3) (v := .ref a) (C := RX3) (T := TX3) (N := 2) hx hb hts in_X3 hown hK hP 0 rfl rfl 0 (by decide) k_67 (fun _ h9 => h9) rfl dX3_takeAway_11 ?_
    refine lv_iload_n hx hb dX3_takeAway_14 rfl (lv_at hl 1 rfl) ?_
    refine su_iald hx hb hK hP 1 0 rfl rfl (i := q) (by omega) (by decide) (nI (g q)) (rfl) dX3_takeAway_15 ?_
    refine lv_istore_n (lv' := [(2, .int (nI (g q))), (0, .ref h), (1, .int (nI q))]) hx hb dX3_takeAway_16 rfl hl (by decide) rfl (fun ls hl => ?_)
    refine lv_iload_n hx hb dX3_takeAway_17 rfl (lv_at hl 2 rfl) ?_
    refine lv_istore_n (lv' := [(3, .int (nI q)), (2, .int (nI (g q))), (0, .ref h), (1, .int (nI q))]) hx hb dX3_takeAway_18 rfl hl (by decide) rfl (fun ls hl => ?_)
    have loop19 : ∀ (k19 : Nat) (j : Nat), (q ≤ j) → (j + 1 ≤ n) → n - j < k19 → ∀ (H : Heap) (locs : List Loc), va_P D vwCl [(h, .inr (3, [.ref a, .int (nI n)])), (a, .inl (cI, 20, .inl (fN (su_rm g q j))))] H → va_D A [(h, .inr (3, [.ref a, .int (nI n)])), (a, .inl (cI, 20, .inl (fN (su_rm g q j))))] → va_S A s.heap H locs → ∀ ls : Array Slot, lv_has ls 4 [(3, .int (nI j)), (2, .int (nI (g q))), (0, .ref h), (1, .int (nI q))] → W p l e R s m args below meth c H locs 0 0 Q (F0 m 19 ls []) := by
      intro k19
      induction k19 with
      | zero => intro j hj hj2 hk; exact absurd hk (Nat.not_lt_zero _)
      | succ k19 ih19 =>
        intro j hj hj2 hk19 H locs hP hD hS ls hl
        refine lv_iload_n hx hb dX3_takeAway_19 rfl (lv_at hl 0 rfl) ?_
        refine lv_iconst (v := nI 1) hx hb dX3_takeAway_20 (by decide) ?_
        refine lv_iadd hx hb dX3_takeAway_21 ?_
        refine su_eqi (nI (j + 1)) (nI_add _ _) ?_
        refine lv_aload_n hx hb dX3_takeAway_22 rfl (lv_at hl 2 rfl) ?_
        refine va_get (D := D) (ci := 3) (v := .int (nI n)) (C := RX3) (T := TX3) (N := 2) hx hb hts in_X3 hown hK hP 0 rfl rfl 1 (by decide) k_68 (fun _ h9 => h9) rfl dX3_takeAway_23 ?_
        refine lv_icmp_ge (tgt := 48) hx hb dX3_takeAway_26 (by decide) (fun c26 => ?_) (fun c26 => ?_)
        · have c26 : n ≤ j + 1 := su_ge (by omega) (by omega) c26
          refine lv_aload_n hx hb dX3_takeAway_48 rfl (lv_at hl 2 rfl) ?_
          refine lv_dup hx hb dX3_takeAway_49 rfl ?_
          refine va_get (D := D) (ci := 3) (v := .int (nI n)) (C := RX3) (T := TX3) (N := 2) hx hb hts in_X3 hown hK hP 0 rfl rfl 1 (by decide) k_68 (fun _ h9 => h9) rfl dX3_takeAway_50 ?_
          refine lv_iconst (v := nI 1) hx hb dX3_takeAway_53 (by decide) ?_
          refine lv_isub hx hb dX3_takeAway_54 ?_
          refine su_eqi (nI (n - 1)) (pk_sub (by omega)) ?_
          refine va_put (D := D) (ci := 3) (v := .int (nI (n - 1))) (ty := .int) (C := RX3) (T := TX3) (N := 2) hx hb hts in_X3 tyX3 tyX3_ok nmX3 hown hK hP hD hS 0 rfl rfl 1 (by decide) k_68 (fun _ h9 => h9) rfl (by decide +kernel) rfl rfl (Nat.le_of_ble_eq_true rfl) dX3_takeAway_55 (fun H locs hP hD hS => ?_)
          have hP : va_P D vwCl [(h, .inr (3, [.ref a, .int (nI (n - 1))])), (a, .inl (cI, 20, .inl (fN (su_rm g q j))))] H := hP
          have hD : va_D A [(h, .inr (3, [.ref a, .int (nI (n - 1))])), (a, .inl (cI, 20, .inl (fN (su_rm g q j))))] := hD
          refine lv_iload_n hx hb dX3_takeAway_58 rfl (lv_at hl 1 rfl) ?_
          obtain ⟨hP, hD⟩ := su_reI (q0 := 1) (fN (su_rm g q (n - 1))) hP hD rfl (fun k _ => by rw [show n - 1 = j by omega])
          have hP : va_P D vwCl [(h, .inr (3, [.ref a, .int (nI (n - 1))])), (a, .inl (cI, 20, .inl (fN (su_rm g q (n - 1)))))] H := hP
          have hD : va_D A [(h, .inr (3, [.ref a, .int (nI (n - 1))])), (a, .inl (cI, 20, .inl (fN (su_rm g q (n - 1)))))] := hD
          rw [hQ]
          exact su_ei hx hb hr hlocks hS dX3_takeAway_59 () (rfl) hP hD
        · have c26 : j + 1 < n := su_nge (by omega) (by omega) c26
          refine lv_aload_n hx hb dX3_takeAway_29 rfl (lv_at hl 2 rfl) ?_
          refine va_get (D := D) (ci := 3) (v := .ref a) (C := RX3) (T := TX3) (N := 2) hx hb hts in_X3 hown hK hP 0 rfl rfl 0 (by decide) k_67 (fun _ h9 => h9) rfl dX3_takeAway_30 ?_
          refine lv_iload_n hx hb dX3_takeAway_33 rfl (lv_at hl 0 rfl) ?_
          refine lv_aload_n hx hb dX3_takeAway_34 rfl (lv_at hl 2 rfl) ?_
          refine lv_iload_n hx hb dX3_takeAway_35 rfl (lv_at hl 0 rfl) ?_
          refine lv_iconst (v := nI 1) hx hb dX3_takeAway_36 (by decide) ?_
          refine lv_iadd hx hb dX3_takeAway_37 ?_
          refine su_eqi (nI (j + 1)) (nI_add _ _) ?_
          refine su_ci (wr := []) (va_runV (As := [.int (nI (j + 1))]) (rest := [.int (nI j), .ref a]) ⟨hx, hb, hml, hown, hts⟩ (k_numberAt l D cI cL cZ H.size (h) (a) (su_rm g q j) (n) (j + 1) (hn) (c26)) (cwV 1 hts (lw_gV q_330 q_279 q_280 q_32 q_281) rfl rfl rfl (by decide +kernel) ⟨Nat.le_trans (Nat.le_of_ble_eq_true rfl) hR1, Nat.le_trans (Nat.le_of_ble_eq_true rfl) hR2⟩) (su_pv hN hK hP hD [0, 1] [0, 1, 2] rfl rfl rfl (ci := 3) (q0 := 0) rfl rfl rfl) rfl rfl hl.1 rfl (lv_room (Nat.le_of_ble_eq_true rfl)) dX3_takeAway_38 ⟨Nat.le_trans (Nat.le_of_ble_eq_true rfl) hR3, Nat.le_trans (Nat.le_of_ble_eq_true rfl) hR4⟩) hP hD hS hA [0, 1] [] rfl rfl (by decide) (by decide) (fun r uu H locs hw hP hD hS => ?_)
          obtain rfl : r = nI ((su_rm g q j) (j + 1)) := hw
          have hP : va_P D vwCl [(h, .inr (3, [.ref a, .int (nI n)])), (a, .inl (cI, 20, .inl (fN (su_rm g q j))))] H := hP
          have hD : va_D A [(h, .inr (3, [.ref a, .int (nI n)])), (a, .inl (cI, 20, .inl (fN (su_rm g q j))))] := hD
          refine su_iast hx hb hK hP hD hS 1 0 rfl rfl (i := j) (by omega) (by decide) (fN (va_up (su_rm g q j) j ((su_rm g q j) (j + 1)))) (fun j _ => su_upN _ _ _ j) dX3_takeAway_41 (fun H locs hP hD hS => ?_)
          have hP : va_P D vwCl [(h, .inr (3, [.ref a, .int (nI n)])), (a, .inl (cI, 20, .inl (fN (va_up (su_rm g q j) j ((su_rm g q j) (j + 1))))))] H := hP
          have hD : va_D A [(h, .inr (3, [.ref a, .int (nI n)])), (a, .inl (cI, 20, .inl (fN (va_up (su_rm g q j) j ((su_rm g q j) (j + 1))))))] := hD
          refine lv_iinc (v := nI (j + 1)) (lv' := [(3, .int (nI (j + 1))), (2, .int (nI (g q))), (0, .ref h), (1, .int (nI q))]) hx hb dX3_takeAway_42 hl (k := 0) rfl (su_inc _) (by decide) rfl (fun ls hl => ?_)
          refine lv_goto (tgt := 19) hx hb dX3_takeAway_45 (by decide) ?_
          obtain ⟨hP, hD⟩ := su_reI (q0 := 1) (fN (su_rm g q (j + 1))) hP hD rfl (fun k _ => su_rmS hj k)
          have hP : va_P D vwCl [(h, .inr (3, [.ref a, .int (nI n)])), (a, .inl (cI, 20, .inl (fN (su_rm g q (j + 1)))))] H := hP
          have hD : va_D A [(h, .inr (3, [.ref a, .int (nI n)])), (a, .inl (cI, 20, .inl (fN (su_rm g q (j + 1)))))] := hD
          exact ih19 (j + 1) (by omega) (by omega) (by omega) _ _ hP hD hS _ (lv_sub hl [0, 1, 2, 3] rfl)
    obtain ⟨hP, hD⟩ := su_reI (q0 := 1) (fN (su_rm g q (q))) hP hD rfl (fun k _ => su_rm0 k)
    have hP : va_P D vwCl [(h, .inr (3, [.ref a, .int (nI n)])), (a, .inl (cI, 20, .inl (fN (su_rm g q (q)))))] H := hP
    have hD : va_D A [(h, .inr (3, [.ref a, .int (nI n)])), (a, .inl (cI, 20, .inl (fN (su_rm g q (q)))))] := hD
    exact loop19 ((n - (q)) + 1) (q) (by omega) (by omega) (by omega) _ _ hP hD hS _ (lv_sub hl [0, 1, 2, 3] rfl)
  · have c5 : true = false := bI_e c5
    exact absurd c5 (by decide)
set_option maxHeartbeats 4000000 in
set_option maxRecDepth 100000 in
theorem k_pick (l : Launch) (D : va_G) (cI cL cZ : ClassId) (sz : Nat) (h : Nat) (a : Nat) (g0 : Nat → Nat) (n0 : Nat) (h2 : Nat) (a2 : Nat) (g : Nat → Nat) (n : Nat) (x : Int32) (hn : n ≤ 20) :
    Met l yX3_pick (ws_ yX3_pick cX3_pick 4 none) { frames := 2, cells := 0, slots := 0, locals := 60 } (su_pre D (su_T cI cL cZ) sz [(h, .inr (3, [.ref a, .int (nI n0)])), (a, .inl (cI, 20, .inl (fN g0))), (h2, .inr (3, [.ref a2, .int (nI n)])), (a2, .inl (cI, 20, .inl (fN g)))] [.ref h, .ref h2, .int x]) (su_qv D (va_A [(h, .inr (3, [.ref a, .int (nI n0)])), (a, .inl (cI, 20, .inl (fN g0))), (h2, .inr (3, [.ref a2, .int (nI n)])), (a2, .inl (cI, 20, .inl (fN g)))] sz) (fun (uu : (Nat → Nat) × (Nat)) => su_lst uu.1 uu.2 = su_pk g n x ∧ uu.2 ≤ n) (fun (uu : (Nat → Nat) × (Nat)) => [(h, .inr (3, [.ref a, .int (nI uu.2)])), (a, .inl (cI, 20, .inl (fN uu.1))), (h2, .inr (3, [.ref a2, .int (nI n)])), (a2, .inl (cI, 20, .inl (fN g)))])) 0 0 (va_A [(h, .inr (3, [.ref a, .int (nI n0)])), (a, .inl (cI, 20, .inl (fN g0))), (h2, .inr (3, [.ref a2, .int (nI n)])), (a2, .inl (cI, 20, .inl (fN g)))] sz) := by
  refine su_met (Qf := fun A => su_qv D A (fun (uu : (Nat → Nat) × (Nat)) => su_lst uu.1 uu.2 = su_pk g n x ∧ uu.2 ≤ n) (fun (uu : (Nat → Nat) × (Nat)) => [(h, .inr (3, [.ref a, .int (nI uu.2)])), (a, .inl (cI, 20, .inl (fN uu.1))), (h2, .inr (3, [.ref a2, .int (nI n)])), (a2, .inl (cI, 20, .inl (fN g)))])) (cc := cX3_pick) (maxL := 4) (ret := none) (by decide) (Nat.le_of_ble_eq_true rfl) ?_
  intro p e s m args below meth c R Q A H locs ls hx hb hr hlocks hin hml hown hts hN hP hK hD hA hS hRm hQ hl
  have hown : s.vm.findClass RX3 = some m.cls := hown
  have hl : lv_has ls 4 [(0, .ref h), (1, .ref h2), (2, .int x)] := hl
  have hR1 : 2 ≤ R.frames := by rw [hRm]; exact Nat.le_of_ble_eq_true rfl
  have hR2 : 60 ≤ R.locals := by rw [hRm]; exact Nat.le_of_ble_eq_true rfl
  have hR3 : 0 ≤ R.cells := by rw [hRm]; exact Nat.le_of_ble_eq_true rfl
  have hR4 : 0 ≤ R.slots := by rw [hRm]; exact Nat.le_of_ble_eq_true rfl
  have k_68 := hts _ q_68
  refine lv_aload_n hx hb dX3_pick_0 rfl (lv_at hl 0 rfl) ?_
  refine su_cv (wr := [(h2, .inr (3, [.ref a2, .int (nI n)])), (a2, .inl (cI, 20, .inl (fN g)))]) (va_runV (As := []) (rest := []) ⟨hx, hb, hml, hown, hts⟩ (k_empty l D cI cL cZ H.size (h) (a) (g0) (n0) ) (cwV 0 hts (lw_gV q_326 q_327 q_328 q_32 q_329) rfl rfl rfl (by decide +kernel) ⟨Nat.le_trans (Nat.le_of_ble_eq_true rfl) hR1, Nat.le_trans (Nat.le_of_ble_eq_true rfl) hR2⟩) (su_pv hN hK hP hD [0, 1] [0, 1, 2] rfl rfl rfl (ci := 3) (q0 := 0) rfl rfl rfl) rfl rfl hl.1 rfl (lv_room (Nat.le_of_ble_eq_true rfl)) dX3_pick_1 ⟨Nat.le_trans (Nat.le_of_ble_eq_true rfl) hR3, Nat.le_trans (Nat.le_of_ble_eq_true rfl) hR4⟩) hP hD hS hA [0, 1] [2, 3] rfl rfl (by decide) (by decide) (fun uu H locs hw hP hD hS => ?_)
  have hP : va_P D vwCl [(h2, .inr (3, [.ref a2, .int (nI n)])), (a2, .inl (cI, 20, .inl (fN g))), (h, .inr (3, [.ref a, .int (nI 0)])), (a, .inl (cI, 20, .inl (fN g0)))] H := hP
  have hD : va_D A [(h2, .inr (3, [.ref a2, .int (nI n)])), (a2, .inl (cI, 20, .inl (fN g))), (h, .inr (3, [.ref a, .int (nI 0)])), (a, .inl (cI, 20, .inl (fN g0)))] := hD
  refine lv_iconst (v := nI 0) hx hb dX3_pick_4 (by decide) ?_
  refine lv_istore_n (lv' := [(3, .int (nI 0)), (0, .ref h), (1, .ref h2), (2, .int x)]) hx hb dX3_pick_5 rfl hl (by decide) rfl (fun ls hl => ?_)
  have loop6 : ∀ (k6 : Nat) (i : Nat) (g1 : Nat → Nat) (n1 : Nat), (i ≤ n) → (n1 ≤ i) → (su_lst g1 n1 = su_pk g i x) → n - i < k6 → ∀ (H : Heap) (locs : List Loc), va_P D vwCl [(h2, .inr (3, [.ref a2, .int (nI n)])), (a2, .inl (cI, 20, .inl (fN g))), (h, .inr (3, [.ref a, .int (nI n1)])), (a, .inl (cI, 20, .inl (fN g1)))] H → va_D A [(h2, .inr (3, [.ref a2, .int (nI n)])), (a2, .inl (cI, 20, .inl (fN g))), (h, .inr (3, [.ref a, .int (nI n1)])), (a, .inl (cI, 20, .inl (fN g1)))] → va_S A s.heap H locs → ∀ ls : Array Slot, lv_has ls 4 [(3, .int (nI i)), (0, .ref h), (1, .ref h2), (2, .int x)] → W p l e R s m args below meth c H locs 0 0 Q (F0 m 6 ls []) := by
    intro k6
    induction k6 with
    | zero => intro i g1 n1 hi hm hL hk; exact absurd hk (Nat.not_lt_zero _)
    | succ k6 ih6 =>
      intro i g1 n1 hi hm hL hk6 H locs hP hD hS ls hl
      refine lv_iload_n hx hb dX3_pick_6 rfl (lv_at hl 0 rfl) ?_
      refine lv_aload_n hx hb dX3_pick_7 rfl (lv_at hl 2 rfl) ?_
      refine va_get (D := D) (ci := 3) (v := .int (nI n)) (C := RX3) (T := TX3) (N := 2) hx hb hts in_X3 hown hK hP 0 rfl rfl 1 (by decide) k_68 (fun _ h9 => h9) rfl dX3_pick_8 ?_
      refine lv_icmp_ge (tgt := 41) hx hb dX3_pick_11 (by decide) (fun c11 => ?_) (fun c11 => ?_)
      · have c11 : n ≤ i := su_ge (by omega) (by omega) c11
        rw [hQ]
        exact su_ev hx hb hr hlocks hS dX3_pick_41 (g1, n1) (⟨by rw [hL, show i = n by omega], by omega⟩) (hP.sub [2, 3, 0, 1] rfl) (hD.sub [2, 3, 0, 1] (by decide) rfl)
      · have c11 : i < n := su_nge (by omega) (by omega) c11
        refine lv_iload_n hx hb dX3_pick_14 rfl (lv_at hl 3 rfl) ?_
        refine lv_iload_n hx hb dX3_pick_15 rfl (lv_at hl 0 rfl) ?_
        refine lv_ishr hx hb dX3_pick_16 ?_
        refine lv_iconst (v := nI 1) hx hb dX3_pick_17 (by decide) ?_
        refine lv_iand hx hb dX3_pick_18 ?_
        refine su_eqi (bI (bt x i)) (su_bitE x (by omega)) ?_
        refine lv_if_eq (tgt := 35) hx hb dX3_pick_19 (by decide) (fun c19 => ?_) (fun c19 => ?_)
        · have c19 : bt x i = false := bI_e c19
          refine lv_iinc (v := nI (i + 1)) (lv' := [(3, .int (nI (i + 1))), (0, .ref h), (1, .ref h2), (2, .int x)]) hx hb dX3_pick_35 hl (k := 0) rfl (su_inc _) (by decide) rfl (fun ls hl => ?_)
          refine lv_goto (tgt := 6) hx hb dX3_pick_38 (by decide) ?_
          exact ih6 (i + 1) (g1) (n1) (by omega) (by omega) (by rw [su_pk, c19]; first | (rw [su_ins_lst, hL]; rfl) | simp [hL]) (by omega) _ _ hP hD hS _ (lv_sub hl [0, 1, 2, 3] rfl)
        · have c19 : bt x i = true := bI_n c19
          refine lv_aload_n hx hb dX3_pick_22 rfl (lv_at hl 1 rfl) ?_
          refine lv_aload_n hx hb dX3_pick_23 rfl (lv_at hl 1 rfl) ?_
          refine va_get (D := D) (ci := 3) (v := .int (nI n1)) (C := RX3) (T := TX3) (N := 2) hx hb hts in_X3 hown hK hP 2 rfl rfl 1 (by decide) k_68 (fun _ h9 => h9) rfl dX3_pick_24 ?_
          refine lv_aload_n hx hb dX3_pick_27 rfl (lv_at hl 2 rfl) ?_
          refine lv_iload_n hx hb dX3_pick_28 rfl (lv_at hl 0 rfl) ?_
          refine su_ci (wr := [(h, .inr (3, [.ref a, .int (nI n1)])), (a, .inl (cI, 20, .inl (fN g1)))]) (va_runV (As := [.int (nI i)]) (rest := [.int (nI n1), .ref h]) ⟨hx, hb, hml, hown, hts⟩ (k_numberAt l D cI cL cZ H.size (h2) (a2) (g) (n) (i) (hn) (c11)) (cwV 1 hts (lw_gV q_330 q_279 q_280 q_32 q_281) rfl rfl rfl (by decide +kernel) ⟨Nat.le_trans (Nat.le_of_ble_eq_true rfl) hR1, Nat.le_trans (Nat.le_of_ble_eq_true rfl) hR2⟩) (su_pv hN hK hP hD [0, 1] [0, 1, 2] rfl rfl rfl (ci := 3) (q0 := 0) rfl rfl rfl) rfl rfl hl.1 rfl (lv_room (Nat.le_of_ble_eq_true rfl)) dX3_pick_29 ⟨Nat.le_trans (Nat.le_of_ble_eq_true rfl) hR3, Nat.le_trans (Nat.le_of_ble_eq_true rfl) hR4⟩) hP hD hS hA [0, 1] [2, 3] rfl rfl (by decide) (by decide) (fun r uu H locs hw hP hD hS => ?_)
          obtain rfl : r = nI (g i) := hw
          have hP : va_P D vwCl [(h, .inr (3, [.ref a, .int (nI n1)])), (a, .inl (cI, 20, .inl (fN g1))), (h2, .inr (3, [.ref a2, .int (nI n)])), (a2, .inl (cI, 20, .inl (fN g)))] H := hP
          have hD : va_D A [(h, .inr (3, [.ref a, .int (nI n1)])), (a, .inl (cI, 20, .inl (fN g1))), (h2, .inr (3, [.ref a2, .int (nI n)])), (a2, .inl (cI, 20, .inl (fN g)))] := hD
          refine su_cv (wr := [(h2, .inr (3, [.ref a2, .int (nI n)])), (a2, .inl (cI, 20, .inl (fN g)))]) (va_runV (As := [.int (nI n1), .int (nI (g i))]) (rest := []) ⟨hx, hb, hml, hown, hts⟩ (k_putIn l D cI cL cZ H.size (h) (a) (g1) (n1) (n1) (g i) (by omega) (Nat.le_refl _)) (cwV 2 hts (lw_gV q_331 q_332 q_333 q_32 q_334) rfl rfl rfl (by decide +kernel) ⟨Nat.le_trans (Nat.le_of_ble_eq_true rfl) hR1, Nat.le_trans (Nat.le_of_ble_eq_true rfl) hR2⟩) (su_pv hN hK hP hD [0, 1] [0, 1, 2] rfl rfl rfl (ci := 3) (q0 := 0) rfl rfl rfl) rfl rfl hl.1 rfl (lv_room (Nat.le_of_ble_eq_true rfl)) dX3_pick_32 ⟨Nat.le_trans (Nat.le_of_ble_eq_true rfl) hR3, Nat.le_trans (Nat.le_of_ble_eq_true rfl) hR4⟩) hP hD hS hA [0, 1] [2, 3] rfl rfl (by decide) (by decide) (fun uu H locs hw hP hD hS => ?_)
          have hP : va_P D vwCl [(h2, .inr (3, [.ref a2, .int (nI n)])), (a2, .inl (cI, 20, .inl (fN g))), (h, .inr (3, [.ref a, .int (nI (n1 + 1))])), (a, .inl (cI, 20, .inl (fN (su_ins g1 n1 n1 (g i)))))] H := hP
          have hD : va_D A [(h2, .inr (3, [.ref a2, .int (nI n)])), (a2, .inl (cI, 20, .inl (fN g))), (h, .inr (3, [.ref a, .int (nI (n1 + 1))])), (a, .inl (cI, 20, .inl (fN (su_ins g1 n1 n1 (g i)))))] := hD
          refine lv_iinc (v := nI (i + 1)) (lv' := [(3, .int (nI (i + 1))), (0, .ref h), (1, .ref h2), (2, .int x)]) hx hb dX3_pick_35 hl (k := 0) rfl (su_inc _) (by decide) rfl (fun ls hl => ?_)
          refine lv_goto (tgt := 6) hx hb dX3_pick_38 (by decide) ?_
          exact ih6 (i + 1) (su_ins g1 n1 n1 (g i)) (n1 + 1) (by omega) (by omega) (by rw [su_pk, c19]; first | (rw [su_ins_lst, hL]; rfl) | simp [hL]) (by omega) _ _ hP hD hS _ (lv_sub hl [0, 1, 2, 3] rfl)
  exact loop6 ((n - (0)) + 1) (0) (g0) (0) (by omega) (by omega) (rfl) (by omega) _ _ hP hD hS _ (lv_sub hl [0, 1, 2, 3] rfl)
set_option maxHeartbeats 4000000 in
set_option maxRecDepth 100000 in
theorem k_copyFrom (l : Launch) (D : va_G) (cI cL cZ : ClassId) (sz : Nat) (h : Nat) (a : Nat) (g0 : Nat → Nat) (n0 : Nat) (h2 : Nat) (a2 : Nat) (g : Nat → Nat) (n : Nat) (hn : n ≤ 20) :
    Met l yX3_copyFrom (ws_ yX3_copyFrom cX3_copyFrom 2 none) { frames := 3, cells := 0, slots := 0, locals := 90 } (su_pre D (su_T cI cL cZ) sz [(h, .inr (3, [.ref a, .int (nI n0)])), (a, .inl (cI, 20, .inl (fN g0))), (h2, .inr (3, [.ref a2, .int (nI n)])), (a2, .inl (cI, 20, .inl (fN g)))] [.ref h, .ref h2]) (su_qv D (va_A [(h, .inr (3, [.ref a, .int (nI n0)])), (a, .inl (cI, 20, .inl (fN g0))), (h2, .inr (3, [.ref a2, .int (nI n)])), (a2, .inl (cI, 20, .inl (fN g)))] sz) (fun (uu : (Nat → Nat) × (Nat)) => su_lst uu.1 uu.2 = su_lst g n ∧ uu.2 = n) (fun (uu : (Nat → Nat) × (Nat)) => [(h, .inr (3, [.ref a, .int (nI uu.2)])), (a, .inl (cI, 20, .inl (fN uu.1))), (h2, .inr (3, [.ref a2, .int (nI n)])), (a2, .inl (cI, 20, .inl (fN g)))])) 0 0 (va_A [(h, .inr (3, [.ref a, .int (nI n0)])), (a, .inl (cI, 20, .inl (fN g0))), (h2, .inr (3, [.ref a2, .int (nI n)])), (a2, .inl (cI, 20, .inl (fN g)))] sz) := by
  refine su_met (Qf := fun A => su_qv D A (fun (uu : (Nat → Nat) × (Nat)) => su_lst uu.1 uu.2 = su_lst g n ∧ uu.2 = n) (fun (uu : (Nat → Nat) × (Nat)) => [(h, .inr (3, [.ref a, .int (nI uu.2)])), (a, .inl (cI, 20, .inl (fN uu.1))), (h2, .inr (3, [.ref a2, .int (nI n)])), (a2, .inl (cI, 20, .inl (fN g)))])) (cc := cX3_copyFrom) (maxL := 2) (ret := none) (by decide) (Nat.le_of_ble_eq_true rfl) ?_
  intro p e s m args below meth c R Q A H locs ls hx hb hr hlocks hin hml hown hts hN hP hK hD hA hS hRm hQ hl
  have hown : s.vm.findClass RX3 = some m.cls := hown
  have hl : lv_has ls 2 [(0, .ref h), (1, .ref h2)] := hl
  have hR1 : 3 ≤ R.frames := by rw [hRm]; exact Nat.le_of_ble_eq_true rfl
  have hR2 : 90 ≤ R.locals := by rw [hRm]; exact Nat.le_of_ble_eq_true rfl
  have hR3 : 0 ≤ R.cells := by rw [hRm]; exact Nat.le_of_ble_eq_true rfl
  have hR4 : 0 ≤ R.slots := by rw [hRm]; exact Nat.le_of_ble_eq_true rfl
  refine lv_aload_n hx hb dX3_copyFrom_0 rfl (lv_at hl 0 rfl) ?_
  refine lv_aload_n hx hb dX3_copyFrom_1 rfl (lv_at hl 1 rfl) ?_
  refine lv_iconst (v := -1) hx hb dX3_copyFrom_2 (by decide) ?_
  refine su_cv (wr := []) (va_runV (As := [.ref h2, .int (-1)]) (rest := []) ⟨hx, hb, hml, hown, hts⟩ (k_pick l D cI cL cZ H.size (h) (a) (g0) (n0) (h2) (a2) (g) (n) (-1) (hn)) (cwV 2 hts (lw_gV q_629 q_630 q_631 q_32 q_632) rfl rfl rfl (by decide +kernel) ⟨Nat.le_trans (Nat.le_of_ble_eq_true rfl) hR1, Nat.le_trans (Nat.le_of_ble_eq_true rfl) hR2⟩) (su_pv hN hK hP hD [0, 1, 2, 3] [0, 1, 2] rfl rfl rfl (ci := 3) (q0 := 0) rfl rfl rfl) rfl rfl hl.1 rfl (lv_room (Nat.le_of_ble_eq_true rfl)) dX3_copyFrom_3 ⟨Nat.le_trans (Nat.le_of_ble_eq_true rfl) hR3, Nat.le_trans (Nat.le_of_ble_eq_true rfl) hR4⟩) hP hD hS hA [0, 1, 2, 3] [] rfl rfl (by decide) (by decide) (fun uu H locs hw hP hD hS => ?_)
  obtain ⟨g1, n1⟩ := uu
  have h3 : su_lst g1 n1 = su_pk g n (-1) ∧ n1 ≤ n := hw
  have hP : va_P D vwCl [(h, .inr (3, [.ref a, .int (nI n1)])), (a, .inl (cI, 20, .inl (fN g1))), (h2, .inr (3, [.ref a2, .int (nI n)])), (a2, .inl (cI, 20, .inl (fN g)))] H := hP
  have hD : va_D A [(h, .inr (3, [.ref a, .int (nI n1)])), (a, .inl (cI, 20, .inl (fN g1))), (h2, .inr (3, [.ref a2, .int (nI n)])), (a2, .inl (cI, 20, .inl (fN g)))] := hD
  rw [hQ]
  exact su_ev hx hb hr hlocks hS dX3_copyFrom_6 (g1, n1) (by rw [su_pk_m1 g n (by omega)] at h3; exact ⟨h3.1, by have := congrArg List.length h3.1; rwa [su_lst_len, su_lst_len] at this⟩) hP hD
set_option maxHeartbeats 4000000 in
set_option maxRecDepth 100000 in
theorem k_copyTurned (l : Launch) (D : va_G) (cI cL cZ : ClassId) (sz : Nat) (h : Nat) (a : Nat) (g0 : Nat → Nat) (n0 : Nat) (h2 : Nat) (a2 : Nat) (g : Nat → Nat) (n : Nat) (hn : n ≤ 20) :
    Met l yX3_copyTurned (ws_ yX3_copyTurned cX3_copyTurned 3 none) { frames := 2, cells := 0, slots := 0, locals := 60 } (su_pre D (su_T cI cL cZ) sz [(h, .inr (3, [.ref a, .int (nI n0)])), (a, .inl (cI, 20, .inl (fN g0))), (h2, .inr (3, [.ref a2, .int (nI n)])), (a2, .inl (cI, 20, .inl (fN g)))] [.ref h, .ref h2]) (su_qv D (va_A [(h, .inr (3, [.ref a, .int (nI n0)])), (a, .inl (cI, 20, .inl (fN g0))), (h2, .inr (3, [.ref a2, .int (nI n)])), (a2, .inl (cI, 20, .inl (fN g)))] sz) (fun (uu : (Nat → Nat) × (Nat)) => su_lst uu.1 uu.2 = (su_lst g n).reverse ∧ uu.2 = n) (fun (uu : (Nat → Nat) × (Nat)) => [(h, .inr (3, [.ref a, .int (nI uu.2)])), (a, .inl (cI, 20, .inl (fN uu.1))), (h2, .inr (3, [.ref a2, .int (nI n)])), (a2, .inl (cI, 20, .inl (fN g)))])) 0 0 (va_A [(h, .inr (3, [.ref a, .int (nI n0)])), (a, .inl (cI, 20, .inl (fN g0))), (h2, .inr (3, [.ref a2, .int (nI n)])), (a2, .inl (cI, 20, .inl (fN g)))] sz) := by
  refine su_met (Qf := fun A => su_qv D A (fun (uu : (Nat → Nat) × (Nat)) => su_lst uu.1 uu.2 = (su_lst g n).reverse ∧ uu.2 = n) (fun (uu : (Nat → Nat) × (Nat)) => [(h, .inr (3, [.ref a, .int (nI uu.2)])), (a, .inl (cI, 20, .inl (fN uu.1))), (h2, .inr (3, [.ref a2, .int (nI n)])), (a2, .inl (cI, 20, .inl (fN g)))])) (cc := cX3_copyTurned) (maxL := 3) (ret := none) (by decide) (Nat.le_of_ble_eq_true rfl) ?_
  intro p e s m args below meth c R Q A H locs ls hx hb hr hlocks hin hml hown hts hN hP hK hD hA hS hRm hQ hl
  have hown : s.vm.findClass RX3 = some m.cls := hown
  have hl : lv_has ls 3 [(0, .ref h), (1, .ref h2)] := hl
  have hR1 : 2 ≤ R.frames := by rw [hRm]; exact Nat.le_of_ble_eq_true rfl
  have hR2 : 60 ≤ R.locals := by rw [hRm]; exact Nat.le_of_ble_eq_true rfl
  have hR3 : 0 ≤ R.cells := by rw [hRm]; exact Nat.le_of_ble_eq_true rfl
  have hR4 : 0 ≤ R.slots := by rw [hRm]; exact Nat.le_of_ble_eq_true rfl
  have k_68 := hts _ q_68
  refine lv_aload_n hx hb dX3_copyTurned_0 rfl (lv_at hl 0 rfl) ?_
  refine su_cv (wr := [(h2, .inr (3, [.ref a2, .int (nI n)])), (a2, .inl (cI, 20, .inl (fN g)))]) (va_runV (As := []) (rest := []) ⟨hx, hb, hml, hown, hts⟩ (k_empty l D cI cL cZ H.size (h) (a) (g0) (n0) ) (cwV 0 hts (lw_gV q_326 q_327 q_328 q_32 q_329) rfl rfl rfl (by decide +kernel) ⟨Nat.le_trans (Nat.le_of_ble_eq_true rfl) hR1, Nat.le_trans (Nat.le_of_ble_eq_true rfl) hR2⟩) (su_pv hN hK hP hD [0, 1] [0, 1, 2] rfl rfl rfl (ci := 3) (q0 := 0) rfl rfl rfl) rfl rfl hl.1 rfl (lv_room (Nat.le_of_ble_eq_true rfl)) dX3_copyTurned_1 ⟨Nat.le_trans (Nat.le_of_ble_eq_true rfl) hR3, Nat.le_trans (Nat.le_of_ble_eq_true rfl) hR4⟩) hP hD hS hA [0, 1] [2, 3] rfl rfl (by decide) (by decide) (fun uu H locs hw hP hD hS => ?_)
  have hP : va_P D vwCl [(h2, .inr (3, [.ref a2, .int (nI n)])), (a2, .inl (cI, 20, .inl (fN g))), (h, .inr (3, [.ref a, .int (nI 0)])), (a, .inl (cI, 20, .inl (fN g0)))] H := hP
  have hD : va_D A [(h2, .inr (3, [.ref a2, .int (nI n)])), (a2, .inl (cI, 20, .inl (fN g))), (h, .inr (3, [.ref a, .int (nI 0)])), (a, .inl (cI, 20, .inl (fN g0)))] := hD
  refine lv_aload_n hx hb dX3_copyTurned_4 rfl (lv_at hl 1 rfl) ?_
  refine va_get (D := D) (ci := 3) (v := .int (nI n)) (C := RX3) (T := TX3) (N := 2) hx hb hts in_X3 hown hK hP 0 rfl rfl 1 (by decide) k_68 (fun _ h9 => h9) rfl dX3_copyTurned_5 ?_
  refine lv_iconst (v := nI 1) hx hb dX3_copyTurned_8 (by decide) ?_
  refine lv_isub hx hb dX3_copyTurned_9 ?_
  refine su_eqi (nI n - nI 1) (rfl) ?_
  refine lv_istore_n (lv' := [(2, .int (nI n - nI 1)), (0, .ref h), (1, .ref h2)]) hx hb dX3_copyTurned_10 rfl hl (by decide) rfl (fun ls hl => ?_)
  have loop11 : ∀ (k11 : Nat) (i : Nat) (g1 : Nat → Nat) (n1 : Nat), (i ≤ n) → (n1 + i = n) → (su_lst g1 n1 ++ (su_lst g i).reverse = (su_lst g n).reverse) → i < k11 → ∀ (H : Heap) (locs : List Loc), va_P D vwCl [(h2, .inr (3, [.ref a2, .int (nI n)])), (a2, .inl (cI, 20, .inl (fN g))), (h, .inr (3, [.ref a, .int (nI n1)])), (a, .inl (cI, 20, .inl (fN g1)))] H → va_D A [(h2, .inr (3, [.ref a2, .int (nI n)])), (a2, .inl (cI, 20, .inl (fN g))), (h, .inr (3, [.ref a, .int (nI n1)])), (a, .inl (cI, 20, .inl (fN g1)))] → va_S A s.heap H locs → ∀ ls : Array Slot, lv_has ls 3 [(2, .int (nI i - nI 1)), (0, .ref h), (1, .ref h2)] → W p l e R s m args below meth c H locs 0 0 Q (F0 m 11 ls []) := by
    intro k11
    induction k11 with
    | zero => intro i g1 n1 hi hm hL hk; exact absurd hk (Nat.not_lt_zero _)
    | succ k11 ih11 =>
      intro i g1 n1 hi hm hL hk11 H locs hP hD hS ls hl
      refine lv_iload_n hx hb dX3_copyTurned_11 rfl (lv_at hl 0 rfl) ?_
      refine lv_if_lt (tgt := 34) hx hb dX3_copyTurned_12 (by decide) (fun c12 => ?_) (fun c12 => ?_)
      · have c12 : i = 0 := su_dnlt (by omega) c12
        rw [hQ]
        exact su_ev hx hb hr hlocks hS dX3_copyTurned_34 (g1, n1) (by subst c12; rw [← hL]; exact ⟨by simp [su_lst], by omega⟩) (hP.sub [2, 3, 0, 1] rfl) (hD.sub [2, 3, 0, 1] (by decide) rfl)
      · have c12 : 0 < i := su_dnge c12
        refine lv_aload_n hx hb dX3_copyTurned_15 rfl (lv_at hl 1 rfl) ?_
        refine lv_aload_n hx hb dX3_copyTurned_16 rfl (lv_at hl 1 rfl) ?_
        refine va_get (D := D) (ci := 3) (v := .int (nI n1)) (C := RX3) (T := TX3) (N := 2) hx hb hts in_X3 hown hK hP 2 rfl rfl 1 (by decide) k_68 (fun _ h9 => h9) rfl dX3_copyTurned_17 ?_
        refine lv_aload_n hx hb dX3_copyTurned_20 rfl (lv_at hl 2 rfl) ?_
        refine lv_iload_n hx hb dX3_copyTurned_21 rfl (lv_at hl 0 rfl) ?_
        refine su_eqi (nI (i - 1)) (su_dn (by omega)) ?_
        refine su_ci (wr := [(h, .inr (3, [.ref a, .int (nI n1)])), (a, .inl (cI, 20, .inl (fN g1)))]) (va_runV (As := [.int (nI (i - 1))]) (rest := [.int (nI n1), .ref h]) ⟨hx, hb, hml, hown, hts⟩ (k_numberAt l D cI cL cZ H.size (h2) (a2) (g) (n) (i - 1) (hn) (by omega)) (cwV 1 hts (lw_gV q_330 q_279 q_280 q_32 q_281) rfl rfl rfl (by decide +kernel) ⟨Nat.le_trans (Nat.le_of_ble_eq_true rfl) hR1, Nat.le_trans (Nat.le_of_ble_eq_true rfl) hR2⟩) (su_pv hN hK hP hD [0, 1] [0, 1, 2] rfl rfl rfl (ci := 3) (q0 := 0) rfl rfl rfl) rfl rfl hl.1 rfl (lv_room (Nat.le_of_ble_eq_true rfl)) dX3_copyTurned_22 ⟨Nat.le_trans (Nat.le_of_ble_eq_true rfl) hR3, Nat.le_trans (Nat.le_of_ble_eq_true rfl) hR4⟩) hP hD hS hA [0, 1] [2, 3] rfl rfl (by decide) (by decide) (fun r uu H locs hw hP hD hS => ?_)
        obtain rfl : r = nI (g (i - 1)) := hw
        have hP : va_P D vwCl [(h, .inr (3, [.ref a, .int (nI n1)])), (a, .inl (cI, 20, .inl (fN g1))), (h2, .inr (3, [.ref a2, .int (nI n)])), (a2, .inl (cI, 20, .inl (fN g)))] H := hP
        have hD : va_D A [(h, .inr (3, [.ref a, .int (nI n1)])), (a, .inl (cI, 20, .inl (fN g1))), (h2, .inr (3, [.ref a2, .int (nI n)])), (a2, .inl (cI, 20, .inl (fN g)))] := hD
        refine su_cv (wr := [(h2, .inr (3, [.ref a2, .int (nI n)])), (a2, .inl (cI, 20, .inl (fN g)))]) (va_runV (As := [.int (nI n1), .int (nI (g (i - 1)))]) (rest := []) ⟨hx, hb, hml, hown, hts⟩ (k_putIn l D cI cL cZ H.size (h) (a) (g1) (n1) (n1) (g (i - 1)) (by omega) (Nat.le_refl _)) (cwV 2 hts (lw_gV q_331 q_332 q_333 q_32 q_334) rfl rfl rfl (by decide +kernel) ⟨Nat.le_trans (Nat.le_of_ble_eq_true rfl) hR1, Nat.le_trans (Nat.le_of_ble_eq_true rfl) hR2⟩) (su_pv hN hK hP hD [0, 1] [0, 1, 2] rfl rfl rfl (ci := 3) (q0 := 0) rfl rfl rfl) rfl rfl hl.1 rfl (lv_room (Nat.le_of_ble_eq_true rfl)) dX3_copyTurned_25 ⟨Nat.le_trans (Nat.le_of_ble_eq_true rfl) hR3, Nat.le_trans (Nat.le_of_ble_eq_true rfl) hR4⟩) hP hD hS hA [0, 1] [2, 3] rfl rfl (by decide) (by decide) (fun uu H locs hw hP hD hS => ?_)
        have hP : va_P D vwCl [(h2, .inr (3, [.ref a2, .int (nI n)])), (a2, .inl (cI, 20, .inl (fN g))), (h, .inr (3, [.ref a, .int (nI (n1 + 1))])), (a, .inl (cI, 20, .inl (fN (su_ins g1 n1 n1 (g (i - 1))))))] H := hP
        have hD : va_D A [(h2, .inr (3, [.ref a2, .int (nI n)])), (a2, .inl (cI, 20, .inl (fN g))), (h, .inr (3, [.ref a, .int (nI (n1 + 1))])), (a, .inl (cI, 20, .inl (fN (su_ins g1 n1 n1 (g (i - 1))))))] := hD
        refine lv_iinc (v := nI (i - 1) - nI 1) (lv' := [(2, .int (nI (i - 1) - nI 1)), (0, .ref h), (1, .ref h2)]) hx hb dX3_copyTurned_28 hl (k := 0) rfl (su_dnS (by omega)) (by decide) rfl (fun ls hl => ?_)
        refine lv_goto (tgt := 11) hx hb dX3_copyTurned_31 (by decide) ?_
        exact ih11 (i - 1) (su_ins g1 n1 n1 (g (i - 1))) (n1 + 1) (by omega) (by omega) (by rw [su_ins_lst, ← hL, show su_lst g i = su_lst g (i - 1) ++ [g (i - 1)] by (conv => lhs; rw [show i = (i - 1) + 1 by omega]); rfl]; simp) (by omega) _ _ hP hD hS _ (lv_sub hl [0, 1, 2] rfl)
  exact loop11 (((n)) + 1) (n) (g0) (0) (by omega) (by omega) (rfl) (by omega) _ _ hP hD hS _ (lv_sub hl [0, 1, 2] rfl)
set_option maxHeartbeats 4000000 in
set_option maxRecDepth 100000 in
theorem k_putBehind (l : Launch) (D : va_G) (cI cL cZ : ClassId) (sz : Nat) (h : Nat) (a : Nat) (g0 : Nat → Nat) (n0 : Nat) (h2 : Nat) (a2 : Nat) (g : Nat → Nat) (n : Nat) (hn : n ≤ 20) (hs : n0 + n ≤ 20) :
    Met l yX3_putBehind (ws_ yX3_putBehind cX3_putBehind 3 none) { frames := 2, cells := 0, slots := 0, locals := 60 } (su_pre D (su_T cI cL cZ) sz [(h, .inr (3, [.ref a, .int (nI n0)])), (a, .inl (cI, 20, .inl (fN g0))), (h2, .inr (3, [.ref a2, .int (nI n)])), (a2, .inl (cI, 20, .inl (fN g)))] [.ref h, .ref h2]) (su_qv D (va_A [(h, .inr (3, [.ref a, .int (nI n0)])), (a, .inl (cI, 20, .inl (fN g0))), (h2, .inr (3, [.ref a2, .int (nI n)])), (a2, .inl (cI, 20, .inl (fN g)))] sz) (fun (uu : (Nat → Nat) × (Nat)) => su_lst uu.1 uu.2 = su_lst g0 n0 ++ su_lst g n ∧ uu.2 = n0 + n) (fun (uu : (Nat → Nat) × (Nat)) => [(h, .inr (3, [.ref a, .int (nI uu.2)])), (a, .inl (cI, 20, .inl (fN uu.1))), (h2, .inr (3, [.ref a2, .int (nI n)])), (a2, .inl (cI, 20, .inl (fN g)))])) 0 0 (va_A [(h, .inr (3, [.ref a, .int (nI n0)])), (a, .inl (cI, 20, .inl (fN g0))), (h2, .inr (3, [.ref a2, .int (nI n)])), (a2, .inl (cI, 20, .inl (fN g)))] sz) := by
  refine su_met (Qf := fun A => su_qv D A (fun (uu : (Nat → Nat) × (Nat)) => su_lst uu.1 uu.2 = su_lst g0 n0 ++ su_lst g n ∧ uu.2 = n0 + n) (fun (uu : (Nat → Nat) × (Nat)) => [(h, .inr (3, [.ref a, .int (nI uu.2)])), (a, .inl (cI, 20, .inl (fN uu.1))), (h2, .inr (3, [.ref a2, .int (nI n)])), (a2, .inl (cI, 20, .inl (fN g)))])) (cc := cX3_putBehind) (maxL := 3) (ret := none) (by decide) (Nat.le_of_ble_eq_true rfl) ?_
  intro p e s m args below meth c R Q A H locs ls hx hb hr hlocks hin hml hown hts hN hP hK hD hA hS hRm hQ hl
  have hown : s.vm.findClass RX3 = some m.cls := hown
  have hl : lv_has ls 3 [(0, .ref h), (1, .ref h2)] := hl
  have hR1 : 2 ≤ R.frames := by rw [hRm]; exact Nat.le_of_ble_eq_true rfl
  have hR2 : 60 ≤ R.locals := by rw [hRm]; exact Nat.le_of_ble_eq_true rfl
  have hR3 : 0 ≤ R.cells := by rw [hRm]; exact Nat.le_of_ble_eq_true rfl
  have hR4 : 0 ≤ R.slots := by rw [hRm]; exact Nat.le_of_ble_eq_true rfl
  have k_68 := hts _ q_68
  refine lv_iconst (v := nI 0) hx hb dX3_putBehind_0 (by decide) ?_
  refine lv_istore_n (lv' := [(2, .int (nI 0)), (0, .ref h), (1, .ref h2)]) hx hb dX3_putBehind_1 rfl hl (by decide) rfl (fun ls hl => ?_)
  have loop2 : ∀ (k2 : Nat) (i : Nat) (g1 : Nat → Nat) (n1 : Nat), (i ≤ n) → (n1 = n0 + i) → (su_lst g1 n1 = su_lst g0 n0 ++ su_lst g i) → n - i < k2 → ∀ (H : Heap) (locs : List Loc), va_P D vwCl [(h, .inr (3, [.ref a, .int (nI n1)])), (a, .inl (cI, 20, .inl (fN g1))), (h2, .inr (3, [.ref a2, .int (nI n)])), (a2, .inl (cI, 20, .inl (fN g)))] H → va_D A [(h, .inr (3, [.ref a, .int (nI n1)])), (a, .inl (cI, 20, .inl (fN g1))), (h2, .inr (3, [.ref a2, .int (nI n)])), (a2, .inl (cI, 20, .inl (fN g)))] → va_S A s.heap H locs → ∀ ls : Array Slot, lv_has ls 3 [(2, .int (nI i)), (0, .ref h), (1, .ref h2)] → W p l e R s m args below meth c H locs 0 0 Q (F0 m 2 ls []) := by
    intro k2
    induction k2 with
    | zero => intro i g1 n1 hi hm hL hk; exact absurd hk (Nat.not_lt_zero _)
    | succ k2 ih2 =>
      intro i g1 n1 hi hm hL hk2 H locs hP hD hS ls hl
      refine lv_iload_n hx hb dX3_putBehind_2 rfl (lv_at hl 0 rfl) ?_
      refine lv_aload_n hx hb dX3_putBehind_3 rfl (lv_at hl 2 rfl) ?_
      refine va_get (D := D) (ci := 3) (v := .int (nI n)) (C := RX3) (T := TX3) (N := 2) hx hb hts in_X3 hown hK hP 2 rfl rfl 1 (by decide) k_68 (fun _ h9 => h9) rfl dX3_putBehind_4 ?_
      refine lv_icmp_ge (tgt := 29) hx hb dX3_putBehind_7 (by decide) (fun c7 => ?_) (fun c7 => ?_)
      · have c7 : n ≤ i := su_ge (by omega) (by omega) c7
        rw [hQ]
        exact su_ev hx hb hr hlocks hS dX3_putBehind_29 (g1, n1) (by rw [hL, show i = n by omega]; exact ⟨rfl, by omega⟩) hP hD
      · have c7 : i < n := su_nge (by omega) (by omega) c7
        refine lv_aload_n hx hb dX3_putBehind_10 rfl (lv_at hl 1 rfl) ?_
        refine lv_aload_n hx hb dX3_putBehind_11 rfl (lv_at hl 1 rfl) ?_
        refine va_get (D := D) (ci := 3) (v := .int (nI n1)) (C := RX3) (T := TX3) (N := 2) hx hb hts in_X3 hown hK hP 0 rfl rfl 1 (by decide) k_68 (fun _ h9 => h9) rfl dX3_putBehind_12 ?_
        refine lv_aload_n hx hb dX3_putBehind_15 rfl (lv_at hl 2 rfl) ?_
        refine lv_iload_n hx hb dX3_putBehind_16 rfl (lv_at hl 0 rfl) ?_
        refine su_ci (wr := [(h, .inr (3, [.ref a, .int (nI n1)])), (a, .inl (cI, 20, .inl (fN g1)))]) (va_runV (As := [.int (nI i)]) (rest := [.int (nI n1), .ref h]) ⟨hx, hb, hml, hown, hts⟩ (k_numberAt l D cI cL cZ H.size (h2) (a2) (g) (n) (i) (hn) (c7)) (cwV 1 hts (lw_gV q_330 q_279 q_280 q_32 q_281) rfl rfl rfl (by decide +kernel) ⟨Nat.le_trans (Nat.le_of_ble_eq_true rfl) hR1, Nat.le_trans (Nat.le_of_ble_eq_true rfl) hR2⟩) (su_pv hN hK hP hD [2, 3] [0, 1, 2] rfl rfl rfl (ci := 3) (q0 := 0) rfl rfl rfl) rfl rfl hl.1 rfl (lv_room (Nat.le_of_ble_eq_true rfl)) dX3_putBehind_17 ⟨Nat.le_trans (Nat.le_of_ble_eq_true rfl) hR3, Nat.le_trans (Nat.le_of_ble_eq_true rfl) hR4⟩) hP hD hS hA [2, 3] [0, 1] rfl rfl (by decide) (by decide) (fun r uu H locs hw hP hD hS => ?_)
        obtain rfl : r = nI (g i) := hw
        have hP : va_P D vwCl [(h, .inr (3, [.ref a, .int (nI n1)])), (a, .inl (cI, 20, .inl (fN g1))), (h2, .inr (3, [.ref a2, .int (nI n)])), (a2, .inl (cI, 20, .inl (fN g)))] H := hP
        have hD : va_D A [(h, .inr (3, [.ref a, .int (nI n1)])), (a, .inl (cI, 20, .inl (fN g1))), (h2, .inr (3, [.ref a2, .int (nI n)])), (a2, .inl (cI, 20, .inl (fN g)))] := hD
        refine su_cv (wr := [(h2, .inr (3, [.ref a2, .int (nI n)])), (a2, .inl (cI, 20, .inl (fN g)))]) (va_runV (As := [.int (nI n1), .int (nI (g i))]) (rest := []) ⟨hx, hb, hml, hown, hts⟩ (k_putIn l D cI cL cZ H.size (h) (a) (g1) (n1) (n1) (g i) (by omega) (Nat.le_refl _)) (cwV 2 hts (lw_gV q_331 q_332 q_333 q_32 q_334) rfl rfl rfl (by decide +kernel) ⟨Nat.le_trans (Nat.le_of_ble_eq_true rfl) hR1, Nat.le_trans (Nat.le_of_ble_eq_true rfl) hR2⟩) (su_pv hN hK hP hD [0, 1] [0, 1, 2] rfl rfl rfl (ci := 3) (q0 := 0) rfl rfl rfl) rfl rfl hl.1 rfl (lv_room (Nat.le_of_ble_eq_true rfl)) dX3_putBehind_20 ⟨Nat.le_trans (Nat.le_of_ble_eq_true rfl) hR3, Nat.le_trans (Nat.le_of_ble_eq_true rfl) hR4⟩) hP hD hS hA [0, 1] [2, 3] rfl rfl (by decide) (by decide) (fun uu H locs hw hP hD hS => ?_)
        have hP : va_P D vwCl [(h2, .inr (3, [.ref a2, .int (nI n)])), (a2, .inl (cI, 20, .inl (fN g))), (h, .inr (3, [.ref a, .int (nI (n1 + 1))])), (a, .inl (cI, 20, .inl (fN (su_ins g1 n1 n1 (g i)))))] H := hP
        have hD : va_D A [(h2, .inr (3, [.ref a2, .int (nI n)])), (a2, .inl (cI, 20, .inl (fN g))), (h, .inr (3, [.ref a, .int (nI (n1 + 1))])), (a, .inl (cI, 20, .inl (fN (su_ins g1 n1 n1 (g i)))))] := hD
        refine lv_iinc (v := nI (i + 1)) (lv' := [(2, .int (nI (i + 1))), (0, .ref h), (1, .ref h2)]) hx hb dX3_putBehind_23 hl (k := 0) rfl (su_inc _) (by decide) rfl (fun ls hl => ?_)
        refine lv_goto (tgt := 2) hx hb dX3_putBehind_26 (by decide) ?_
        exact ih2 (i + 1) (su_ins g1 n1 n1 (g i)) (n1 + 1) (by omega) (by omega) (by rw [su_ins_lst, hL, su_lst, List.append_assoc]) (by omega) _ _ (hP.sub [2, 3, 0, 1] rfl) (hD.sub [2, 3, 0, 1] (by decide) rfl) hS _ (lv_sub hl [0, 1, 2] rfl)
  exact loop2 ((n - (0)) + 1) (0) (g0) (n0) (by omega) (by omega) (by simp [su_lst]) (by omega) _ _ hP hD hS _ (lv_sub hl [0, 1, 2] rfl)
