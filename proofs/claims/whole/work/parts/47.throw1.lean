theorem lw_isN_on {w : Cond} (h : lw_isN w = true) : w.onTables = true := by cases w <;> first | rfl | cases h
theorem su_xn : ∀ n ∈ su_xnames, Bundle.fit n = true := by decide +kernel
section SUTHROW3
variable {p : Program} {l : Launch} {e : Env} {R : Room} {s : State} {m : MethodId} {args : Array Value} {below : List Frame} {meth : Method} {c : Code} {H : Heap} {locs : List Loc} {ls : Array Slot} {rest : List Value}
theorem su_throw {cc : ByteArray} {pc : Nat} {cls text : String} {ik is ic ix : Nat} {rx : ByteArray} {A : Nat → Prop} {D : va_G} {S : Type} {px : String → S → Prop} {w1 : S → va_W} (hx : p.tables.exec = Jvm.exec) (hb : c.code = cc) (hfl : l.stackTraces = false) (hX : su_XF cls ik ic ix rx) (hown : s.vm.findClass RX10 = some m.cls)
    (hts : ∀ w ∈ lw_all, w.before args s = true) (hN : su_N s) (hE : su_E A s) (hst : (is, text) ∈ su_strs) (hS : va_S A s.heap H locs) (hsize : ls.size = c.maxLocals) (hnt : ∀ x ∈ c.exceptionTable.toList, False) (hlocks : meth.locks = false)
    (d0 : decode cc pc = .ok (.new ik, 3)) (d3 : decode cc (pc + 3) = .ok (.dup, 1)) (d4 : decode cc (pc + 4) = .ok (.ldc is, 2)) (d6 : decode cc (pc + 6) = .ok (.invokespecial ic, 3)) (d9 : decode cc (pc + 9) = .ok (.athrow, 1))
    (hRf : 6 ≤ R.frames) (hRl : (rest.map fun v => v.category).sum + 82 ≤ R.locals) (hRc : 1 ≤ R.cells) (hRs : 6 ≤ R.slots)
    (u : S) (hpx : px cls u) (hP : va_P D vwCl (w1 u) H) (hD : va_D A (w1 u)) :
    W p l e R s m args below meth c H locs 0 0 (vx_MQ below (fun _ _ _ _ => False) (su_xo D A px w1) args s 1 6 A) (F0 m pc ls rest) := by
  obtain ⟨⟨x0, x1, x2, x5⟩, hfit, h1, h2, h4⟩ := hX
  have hall : ∀ w ∈ Cond.classLink RX10 ik cls :: Cond.initialized cls :: vx_atX RX10 ic cls ix rx su_xnames, w.before args s = true :=
    vx_hat (fun w hw => hts w (List.mem_append_left _ (List.mem_filter.mpr ⟨h1 w hw, (List.mem_filter.mp hw).2⟩))) h2 (fun w hw => va_Nw.use (A := args) (lw_isN_on (List.mem_filter.mp hw).2) (hN w hw))
  obtain ⟨sa, hsa⟩ := hE.2.2.1 _ hst
  refine su_makeX hx hb hfl x0 x1 x2 x5 hown hfit su_xn (hall _ List.mem_cons_self) (hall _ (List.mem_cons_of_mem _ List.mem_cons_self)) hsa (fun w hw => hall w (List.mem_cons_of_mem _ (List.mem_cons_of_mem _ hw))) h4 hE.1 hE.2.1 hS hsize d0 d3 d4 d6 hRf hRl (by omega) (by omega) (fun q ce H1 g1 g2 g3 g4 g5 => ?_)
  refine vx_athrow hx hb d9 ?_
  exact vx_out (E := cls) (ce := ce) (fun x h => (hnt x h).elim) hlocks g1 g2 g3 (fun t ht hv => ⟨u, trivial, ⟨hpx, by rw [ht]; exact hP.kept (fun k y hy => g5 y.1 (hP k y hy).lt), hD⟩, by rw [ht]; exact Nat.le_trans hS.1 g4, fun z hz hn => by rw [ht]; exact (g5 z (Nat.lt_of_lt_of_le hz hS.1)).trans (hS.2.1 z hz hn)⟩) hS.2.2 (Nat.le_refl _) (Nat.le_refl _)
theorem su_throwW {cc : ByteArray} {pc : Nat} {cls text : String} {ik is ic ix : Nat} {rx : ByteArray} {A : Nat → Prop} {D : va_G} {S : Type} {px : String → S → Prop} {w1 : S → va_W} (hx : p.tables.exec = Jvm.exec) (hb : c.code = cc) (hfl : l.stackTraces = false) (hX : su_XF cls ik ic ix rx) (hown : s.vm.findClass RX10 = some m.cls)
    (hts : ∀ w ∈ lw_all, w.before args s = true) (hN : su_N s) (hE : su_E A s) (hst : (is, text) ∈ su_strs) (hS : va_S A s.heap H locs) (hsize : ls.size = c.maxLocals) (hnt : ∀ x ∈ c.exceptionTable.toList, False) (hlocks : meth.locks = false)
    (d0 : decode cc pc = .ok (.new ik, 3)) (d3 : decode cc (pc + 3) = .ok (.dup, 1)) (d4 : decode cc (pc + 4) = .ok (.ldc_w is, 3)) (d6 : decode cc (pc + 7) = .ok (.invokespecial ic, 3)) (d9 : decode cc (pc + 10) = .ok (.athrow, 1))
    (hRf : 6 ≤ R.frames) (hRl : (rest.map fun v => v.category).sum + 82 ≤ R.locals) (hRc : 1 ≤ R.cells) (hRs : 6 ≤ R.slots)
    (u : S) (hpx : px cls u) (hP : va_P D vwCl (w1 u) H) (hD : va_D A (w1 u)) :
    W p l e R s m args below meth c H locs 0 0 (vx_MQ below (fun _ _ _ _ => False) (su_xo D A px w1) args s 1 6 A) (F0 m pc ls rest) := by
  obtain ⟨⟨x0, x1, x2, x5⟩, hfit, h1, h2, h4⟩ := hX
  have hall : ∀ w ∈ Cond.classLink RX10 ik cls :: Cond.initialized cls :: vx_atX RX10 ic cls ix rx su_xnames, w.before args s = true :=
    vx_hat (fun w hw => hts w (List.mem_append_left _ (List.mem_filter.mpr ⟨h1 w hw, (List.mem_filter.mp hw).2⟩))) h2 (fun w hw => va_Nw.use (A := args) (lw_isN_on (List.mem_filter.mp hw).2) (hN w hw))
  obtain ⟨sa, hsa⟩ := hE.2.2.1 _ hst
  refine su_makeXW hx hb hfl x0 x1 x2 x5 hown hfit su_xn (hall _ List.mem_cons_self) (hall _ (List.mem_cons_of_mem _ List.mem_cons_self)) hsa (fun w hw => hall w (List.mem_cons_of_mem _ (List.mem_cons_of_mem _ hw))) h4 hE.1 hE.2.1 hS hsize d0 d3 d4 d6 hRf hRl (by omega) (by omega) (fun q ce H1 g1 g2 g3 g4 g5 => ?_)
  refine vx_athrow hx hb d9 ?_
  exact vx_out (E := cls) (ce := ce) (fun x h => (hnt x h).elim) hlocks g1 g2 g3 (fun t ht hv => ⟨u, trivial, ⟨hpx, by rw [ht]; exact hP.kept (fun k y hy => g5 y.1 (hP k y hy).lt), hD⟩, by rw [ht]; exact Nat.le_trans hS.1 g4, fun z hz hn => by rw [ht]; exact (g5 z (Nat.lt_of_lt_of_le hz hS.1)).trans (hS.2.1 z hz hn)⟩) hS.2.2 (Nat.le_refl _) (Nat.le_refl _)
end SUTHROW3
/-- a body that only throws -/
theorem su_metX {l : Launch} {y : MethodName} {rm : Room} {D : va_G} {T : List (ClassId × FieldType)} {sz : Nat} {wc : va_W} {av : List Value} {S : Type} {px : String → S → Prop} {w1 : S → va_W} {cc : ByteArray} {maxL : Nat} {ret : Option FieldType}
    (hy : plainName y.cls = true) (hlen : (lg_sl av).length ≤ maxL)
    (body : ∀ (p : Program) (e : Env) (s : State) (m : MethodId) (args : Array Value) (below : List Frame) (meth : Method) (c : Code) (R : Room) (Q : State → Prop) (A : Nat → Prop) (H : Heap) (locs : List Loc) (ls : Array Slot),
      p.tables.exec = Jvm.exec → c.code = cc → meth.sig.returnType = ret → meth.locks = false → meth.name = y.name → c.maxLocals = maxL → s.vm.findClass y.cls = some m.cls → (∀ w ∈ lw_all, w.before args s = true) → su_N s → su_E A s → (∀ x ∈ c.exceptionTable.toList, False) →
      va_P D vwCl wc H → va_K D vwCl T s → va_D A wc → (∀ q, s.heap.size ≤ q → A q) → va_S A s.heap H locs → R = rm → Q = vx_MQ below (fun _ _ _ _ => False) (su_xo D A px w1) args s 1 6 A → lv_has ls maxL (lv_args 0 av) →
      W p l e R s m args below meth c H locs 0 0 Q (F0 m 0 ls [])) :
    vx_Met l y (ws_ y cc maxL ret) rm (su_prx D T sz wc av) (fun _ _ _ _ => False) (su_xo D (va_A wc sz) px w1) 1 6 (va_A wc sz) := by
  refine vx_ofW (cc := cc) (maxL := maxL) (ret := ret) hy rfl ?_
  intro p e s m args below meth c s₁ B hml hnt hv
  obtain ⟨rfl, hsz, hP, hK, hD0, hN, hE⟩ := hv
  subst hsz
  have hl := lv_entry av (n := maxL) hlen
  rw [lg_entry_eq]
  exact body p e s m _ below meth c _ _ (va_A wc s.heap.size) s.heap [] _ B.exec B.bytes B.returns B.notSynchronized (name_of_methodNamed B.named B.method).1 hml (findClass_of_methodNamed B.named) (fun w h => atoms_spec (ws := ws_ y cc maxL ret) B.pre w (List.mem_cons_of_mem _ h)) hN hE hnt
    hP hK hD0.self (fun q h => Or.inr h) va_S.rf rfl rfl hl
/-! a receiver's part of a call that may throw -/
section SUCX
variable {p : Program} {l : Launch} {e : Env} {R : Room} {s : State} {m : MethodId} {args : Array Value} {below : List Frame} {meth : Method} {c : Code} {H : Heap} {locs : List Loc} {cells slots mc ms : Nat} {Q : State → Prop}
variable {cc : ByteArray} {pc : Nat} {ls : Array Slot} {rest st0 : List Value} {D : va_G} {A : Nat → Prop} {T T' : List (ClassId × FieldType)} {ws wc wr : va_W}
theorem su_pvx {C : String} {b ci q0 : Nat} {fs : List Value} {q : vw_C} {As : List Value} (hE : su_E A s) (hS : va_S A s.heap H locs) (hA : ∀ q, s.heap.size ≤ q → A q) (hN : su_N s) (hK : va_K D vwCl T s) (hP : va_P D vwCl ws H) (hD : va_D A ws) (isC : List Nat) (ist : List Nat) (hn : va_nd isC = true) (hC : isC.map (fun i => ws[i]?) = wc.map some) (hT : ist.filterMap (fun i => T[i]?) = T') (hci : vwCl[ci]? = some q) (hq : q.1 = C) (he : wc[q0]? = some (b, .inr (ci, fs))) : PreV s H C b (su_prx D T' H.size wc (.ref b :: As)) As := by
  subst hq
  have hPc : va_P D vwCl wc H := hP.sub isC (va_subM hC)
  have hDc := hD.sub isC hn hC
  have hKc := hK.sub ist hT
  have hF := va_free hD hS hA isC hC
  exact ⟨su_blindx, va_recv hKc hPc hci he, fun U hU hW => ⟨rfl, by rw [hU], by rw [hU]; exact hPc, va_K.moved hW.alike hKc, hDc.weaken (fun _ _ _ _ => trivial), hN.warm hW, hE.at hU hW hS.2.1 hF⟩⟩
theorem su_psx {As : List Value} (hE : su_E A s) (hS : va_S A s.heap H locs) (hA : ∀ q, s.heap.size ≤ q → A q) (hN : su_N s) (hK : va_K D vwCl T s) (hP : va_P D vwCl ws H) (hD : va_D A ws) (isC : List Nat) (ist : List Nat) (hn : va_nd isC = true) (hC : isC.map (fun i => ws[i]?) = wc.map some) (hT : ist.filterMap (fun i => T[i]?) = T') : PreS s H (su_prx D T' H.size wc As) As := by
  have hPc : va_P D vwCl wc H := hP.sub isC (va_subM hC)
  have hDc := hD.sub isC hn hC
  have hKc := hK.sub ist hT
  have hF := va_free hD hS hA isC hC
  exact ⟨su_blindx, fun U hU hW => ⟨rfl, by rw [hU], by rw [hU]; exact hPc, va_K.moved hW.alike hKc, hDc.weaken (fun _ _ _ _ => trivial), hN.warm hW, hE.at hU hW hS.2.1 hF⟩⟩
/-- a call that only throws, out of a body that only throws -/
theorem su_cx {S SX : Type} {px : String → SX → Prop} {wx : SX → va_W} {px2 : String → S → Prop} {w2 : S → va_W}
    (hr : vx_Run p l e R s m args below meth c H locs 0 0 1 6 (F0 m pc ls st0) rest (fun _ _ _ => False) (su_xo D (va_A wc H.size) px wx) (va_A wc H.size)) (hP : va_P D vwCl ws H) (hD : va_D A ws) (hS : va_S A s.heap H locs) (hA : ∀ q, s.heap.size ≤ q → A q) (hnt : ∀ x ∈ c.exceptionTable.toList, False) (hlocks : meth.locks = false) (isC isR : List Nat) (hC : isC.map (fun i => ws[i]?) = wc.map some) (hR : isR.map (fun i => ws[i]?) = wr.map some) (hn : va_nd isR = true) (hdis : ∀ i ∈ isR, i ∉ isC)
    (kk : ∀ (E : String) (u : SX) (H1 : Heap), px E u → va_P D vwCl (wr ++ wx u) H1 → va_D A (wr ++ wx u) → ∃ u2 : S, px2 E u2 ∧ va_P D vwCl (w2 u2) H1 ∧ va_D A (w2 u2)) :
    W p l e R s m args below meth c H locs 0 0 (vx_MQ below (fun _ _ _ _ => False) (su_xo D A px2 w2) args s 1 6 A) (F0 m pc ls st0) := by
  have hF := va_free hD hS hA isC hC
  intro T0 hT0 X
  rcases hr T0 hT0 X with ⟨v, st₀, t, T', L, h0, X', hL, e1, e2, hq, st⟩ | ⟨q, st₀, t, T', L, E, ce, h0, X', hL, e1, e2, ⟨u, hp, ⟨hb, hw⟩, hFr⟩, hce, hcv, hcl, st⟩
  · exact hq.elim
  · obtain ⟨k1, k2, k3⟩ := vx_keep h0 e1 hS (fun q _ h => hF q h) hF hL hFr
    obtain ⟨hP1, hD1⟩ := hw
    rw [← e1] at hP1
    obtain ⟨hP2, hD2⟩ := va_join hP hD isC isR hC hR hn hdis k2 hF hP1 hD1
    obtain ⟨u2, g1, g2, g3⟩ := kk E u T'.heap hb hP2 hD2
    have KK : vx_W p l e R s m args below meth c T'.heap (locs ++ L) (0 + 1) (0 + 6) (vx_MQ below (fun _ _ _ _ => False) (su_xo D A px2 w2) args s 1 6 A) (F0 m pc ls rest) q :=
      vx_out (E := E) (ce := ce) (fun x h => (hnt x h).elim) hlocks (by rw [e1]; exact hce) hcv hcl (fun t2 ht2 hv => ⟨u2, trivial, ⟨g1, by rw [su_wo, ht2]; exact ⟨g2, g3⟩⟩, k3.F ht2⟩) k3.2.2 (Nat.le_refl _) (Nat.le_refl _)
    obtain ⟨t2, a1, b1⟩ := KK T' rfl X'
    exact ⟨t2, st.trans a1, b1⟩
end SUCX
