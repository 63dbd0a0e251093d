def R_law : String := "SumhoardLaw"
def lw_P (b : Addr) (xs : List Int32) (args : Array Value) (s : State) : Prop := args = #[.ref b] ∧ s.IntsAt b xs ∧ xs.length ≤ 2048 ∧ (Jvm.Cond.and given_1 narrow_1).before args s = true
/-- what a walk over the start with the record d0 says of its end, said of the start itself -/
theorem lw_closed {s t : State} {o : Outcome} {d0 : Drawn} {L : List Loc} {k n : Nat} (hd0 : s.drawn.sameBut d0 lw_cs) (hv : ∃ v, o = .returned v) (hW : (s.setDrawn d0).WarmedH t.vm) (hs : (s.setDrawn d0).sameButNew ({ t with vm := s.vm } : State) L k n) : State.butDraws s t lw_cs (fun t1 => Framed s o t1 L k n) := by
  have h2 : t.drawn = d0 := congrArg State.drawn hs.1
  refine ⟨⟨hv, hW, State.sameButNew.setDrawn hs s.drawn⟩, ?_, by decide⟩
  rw [h2]
  exact hd0
def lw_Q (_ : Array Value) (s : State) (o : Outcome) (t : State) : Prop := o = .returned (some (.int 1)) ∧ State.butDraws s t lw_cs (fun t1 => Framed s o t1 [] 601024 7293034)
def lw_Z (below : List Frame) (a : Array Value) (s : State) : State → Prop := fun t => ∃ o, t.status = .running ∧ Ended t below o ∧ lw_Q a s o t
/-- the law's own end, with 1 on the stack, nothing written that was there before, its room as the claim has it; d0: the record of draws at this point (at the entry s.drawn: begin with 'refine W.base ?_' and 'have hd0 := Drawn.sameBut.refl s.drawn lw_cs') -/
theorem lw_ret {p : Program} {l : Launch} {e : Env} {s : State} {m : MethodId} {below : List Frame} {meth : Method} {c : Code} {b : Nat} {d0 : Drawn} (hd0 : s.drawn.sameBut d0 lw_cs) (hx : p.tables.exec = Jvm.exec) (hb : c.code = code) (hr : meth.sig.returnType = ret) (hlocks : meth.locks = false) {pc : Nat} {H : Heap} {ls : Array Slot} (hdg : decode code pc = .ok (.ireturn, 1)) : W p l e room_1 (s.setDrawn d0) m #[Value.ref b] below meth c H [] 601024 7293034 (lw_Z below #[Value.ref b] s) (F0 m pc ls [.int 1]) := by
  intro T hT X
  obtain ⟨fs, hret, hrun, hended, hW, hframe⟩ := X.leave (v := some (.int 1)) (hlocks := hlocks) (fun h => by rw [hr] at h; cases h)
  have hmeth' : T.vm.method? m = some meth := X.method'
  refine ⟨T.setFrames fs, ?_, .returned (some (.int 1)), hrun, hended, rfl, lw_closed hd0 ⟨_, rfl⟩ hW hframe⟩
  jvm_step X.here [X.here.top, hx, hb, hdg, hmeth', hr, ret, narrow_b1]
  (try refine ⟨rfl, ?_⟩); (try refine ⟨rfl, ?_⟩)
  first | (intro acts; rw [hret _ acts rfl rfl rfl]) | rw [hret _ _ rfl rfl rfl]
  exact Steps.refl _
/-- what holds at the law's entry: the machine, the code, the tables' words (any of lw_tbl by 'hts w (by decide +kernel)'), the script of L ints xs at the cell b, what the Statement gives of the start (any of its parts by flat_of_before) -/
def lw_At (p : Program) (s : State) (m : MethodId) (meth : Method) (c : Code) (b L : Nat) (xs : Nat → Int32) : Prop :=
  p.tables.exec = Jvm.exec ∧ c.code = code ∧ meth.sig.returnType = ret ∧ c.maxLocals = 9 ∧ s.vm.findClass R_law = some m.cls ∧ (∀ w ∈ lw_tbl, w.before #[Value.ref b] s = true) ∧ va_X b L xs s s.heap ∧ b < s.heap.size ∧ meth.locks = false ∧ (Jvm.Cond.and given_1 narrow_1).before #[Value.ref b] s = true
/-! ===== the law's start ===== -/
/-- 'selects' of a private method on a class below its own, out of the selection of a method of its own class -/
theorem su_selP {cls : String} {x y z : MethodName} {args : Array Value} {s : State} (hyz : y.cls = z.cls) (hz : z.cls ≠ "java/lang/invoke/MethodHandle" ∧ z.cls ≠ "java/lang/invoke/VarHandle") (h : (Cond.selects cls x y).before args s = true) (hpriv : (Cond.privateMethod z).before args s = true) (hinst : (Cond.instanceMethod z).before args s = true) : (Cond.selects cls z z).before args s = true := by
  obtain ⟨c, r, m, hc, -, hm, -, mk', hk, hni⟩ := Cond.selects_spec h
  obtain ⟨mk, methM, hnamed, hmethM, -, -⟩ := Cond.instanceMethod_spec hinst
  have hfound : s.methodFound? z.cls z.name z.desc = some mk := State.methodFound?_of_named hnamed hz
  have hcls : mk.cls = m.cls := Option.some.inj ((findClass_of_methodNamed hnamed).symm.trans (hyz ▸ findClass_of_methodNamed hm))
  have hsel : selectMethod {} s.vm c mk = .method mk := selectMethod_private hmethM (Cond.privateMethod_at hpriv mk methM hnamed hmethM)
  simp only [Cond.before, Cond.holds, Cond.value, hc, hfound, hnamed, hsel, hcls, hk]
  simp; exact hni
theorem su_arr1 {ty : FieldType} {args : Array Value} {s : State} (hty : ∀ C, ty ≠ .object C) (h : (Cond.arrayClass ty).before args s = true) : ∃ cA, ArrOfT s cA ty ∧ va_RA s cA ty := by
  obtain ⟨c, k, comp, h1, h2, h3⟩ := Cond.arrayClass_spec h
  exact ⟨c, fun n z => ⟨fun q h => (by cases h), k, h2, comp, h3⟩, by cases ty <;> first | exact absurd rfl (hty _) | exact h1⟩
theorem su_arr2 {t : FieldType} {args : Array Value} {s : State} (h : (Cond.arrayOver (.array t)).before args s = true) : ∃ cA, ArrOfT s cA (.array t) ∧ va_RA s cA (.array t) := by
  obtain ⟨comp, c, k, hc, hk, hkind, hname⟩ := Cond.arrayOver_specA h
  exact ⟨c, fun n z => ⟨fun q h => (by cases h), k, hk, comp, hkind⟩, hname⟩
theorem su_strIn : ∀ x ∈ su_strs, Cond.stringRef RX10 x.1 x.2 ∈ lw_tbl := by decide +kernel
theorem su_ncIn : ∀ x ∈ su_ncs, Cond.not (.castable x.1 x.2) ∈ flatC (Jvm.Cond.and given_1 narrow_1) := by decide +kernel
theorem su_hts {b : Nat} {s : State} (hts0 : ∀ w ∈ lw_tbl, w.before #[Value.ref b] s = true) : ∀ w ∈ lw_all, w.before #[Value.ref b] s = true := by
  intro w hw
  rcases List.mem_append.mp hw with h | h
  · exact hts0 w (List.mem_filter.mp h).1
  · have hp : (Cond.privateMethod yX7_take).before #[Value.ref b] s = true := hts0 _ (List.mem_of_getElem? (i := 287) (by decide +kernel))
    have hi : (Cond.instanceMethod yX7_take).before #[Value.ref b] s = true := hts0 _ (List.mem_of_getElem? (i := 288) (by decide +kernel))
    simp only [lw_sub4, List.mem_cons, List.not_mem_nil, or_false] at h
    rcases h with rfl | rfl | rfl | rfl
    · exact su_selP (x := ⟨RX2, "fill", "(LSumhoard$Hoard;Z)V"⟩) (y := yX7_fill) rfl (by decide) (hts0 _ (List.mem_of_getElem? (i := 781) (by decide +kernel))) hp hi
    · exact su_selP (x := ⟨RX4, "fill", "(LSumhoard$Hoard;Z)V"⟩) (y := yX7_fill) rfl (by decide) (hts0 _ (List.mem_of_getElem? (i := 802) (by decide +kernel))) hp hi
    · exact su_selP (x := ⟨RX5, "fill", "(LSumhoard$Hoard;Z)V"⟩) (y := yX7_fill) rfl (by decide) (hts0 _ (List.mem_of_getElem? (i := 362) (by decide +kernel))) hp hi
    · exact su_selP (x := ⟨RX9, "fill", "(LSumhoard$Hoard;Z)V"⟩) (y := yX7_fill) rfl (by decide) (hts0 _ (List.mem_of_getElem? (i := 260) (by decide +kernel))) hp hi
theorem su_E0 {b : Nat} {s : State} (hts0 : ∀ w ∈ lw_tbl, w.before #[Value.ref b] s = true) (hgv : (Jvm.Cond.and given_1 narrow_1).before #[Value.ref b] s = true) : su_E (fun q => s.heap.size ≤ q) s := by
  have hfl := flat_of_before _ hgv
  have hA : ∀ a : Nat, a < s.heap.size → ¬ (fun q : Nat => s.heap.size ≤ q) a := fun a h => Nat.not_le.mpr h
  refine ⟨vx_Zqof (args := #[Value.ref b]) (hts0 _ (List.mem_of_getElem? (i := 484) (by decide +kernel))) (hts0 _ (List.mem_of_getElem? (i := 43) (by decide +kernel))) (hfl _ (by decide +kernel)) hA, vx_Zqof (args := #[Value.ref b]) (hts0 _ (List.mem_of_getElem? (i := 486) (by decide +kernel))) (hts0 _ (List.mem_of_getElem? (i := 43) (by decide +kernel))) (hfl _ (by decide +kernel)) hA, fun x hx => ?_, fun x hx => va_Nc.of (hfl _ (su_ncIn x hx))⟩
  have h := hts0 _ (su_strIn x hx)
  have hcur : ∃ cur, s.vm.findClass RX10 = some cur := by
    have h1 := h
    simp only [Cond.before, Cond.holds, Cond.value] at h1
    cases hc : s.vm.findClass RX10 with
    | none => simp [hc] at h1
    | some cur => exact ⟨cur, rfl⟩
  obtain ⟨cur, hcur⟩ := hcur
  obtain ⟨k, cf, i, a, -, -, -, -, -, hev⟩ := Cond.stringRef_spec hcur h
  exact ⟨a, vk_R.of h hev⟩
theorem su_O0 {b : Nat} {s : State} (hts0 : ∀ w ∈ lw_tbl, w.before #[Value.ref b] s = true) : su_O s := fun a => ⟨su_ao (Vm.Alike.refl _) (hts0 _ (List.mem_of_getElem? (i := 996) (by decide +kernel))), su_ao (Vm.Alike.refl _) (hts0 _ (List.mem_of_getElem? (i := 998) (by decide +kernel)))⟩
theorem su_N0 {b : Nat} {s : State} (hts0 : ∀ w ∈ lw_tbl, w.before #[Value.ref b] s = true) : su_N s := fun w hw => va_Nw.of (A := #[Value.ref b]) (lw_isN_on (List.mem_filter.mp hw).2) (hts0 w (List.mem_filter.mp hw).1)
theorem su_K0 {b : Nat} {s : State} (hts0 : ∀ w ∈ lw_tbl, w.before #[Value.ref b] s = true) : ∃ (D : va_G) (cI cL cZ cA cB cD : ClassId), va_K D vwCl (lawT cI cL cZ cA cB cD) s := by
  have hts := su_hts hts0
  obtain ⟨c0, i0, h0⟩ := u_known (n := 2) hts in_X0 (hts0 _ (List.mem_of_getElem? (i := 87) (by decide +kernel)))
  obtain ⟨c1, i1, h1⟩ := u_known (n := 2) hts in_X1 (hts0 _ (List.mem_of_getElem? (i := 171) (by decide +kernel)))
  obtain ⟨c2, i2, h2⟩ := u_known (n := 1) hts in_X2 (hts0 _ (List.mem_of_getElem? (i := 128) (by decide +kernel)))
  obtain ⟨c3, i3, h3⟩ := u_known (n := 2) hts in_X3 (hts0 _ (List.mem_of_getElem? (i := 62) (by decide +kernel)))
  obtain ⟨c4, i4, h4⟩ := u_known (n := 1) hts in_X4 (hts0 _ (List.mem_of_getElem? (i := 138) (by decide +kernel)))
  obtain ⟨c5, i5, h5⟩ := u_known (n := 1) hts in_X5 (hts0 _ (List.mem_of_getElem? (i := 158) (by decide +kernel)))
  obtain ⟨c6, i6, h6⟩ := u_known (n := 2) hts in_X6 (hts0 _ (List.mem_of_getElem? (i := 81) (by decide +kernel)))
  obtain ⟨c7, i7, h7⟩ := u_known (n := 11) hts in_X8 (hts0 _ (List.mem_of_getElem? (i := 148) (by decide +kernel)))
  obtain ⟨c8, i8, h8⟩ := u_known (n := 1) hts in_X9 (hts0 _ (List.mem_of_getElem? (i := 115) (by decide +kernel)))
  obtain ⟨c9, i9, h9⟩ := u_known (n := 9) hts in_X10 (hts0 _ (List.mem_of_getElem? (i := 54) (by decide +kernel)))
  obtain ⟨c10, i10, h10⟩ := u_known (n := 6) hts in_X11 (hts0 _ (List.mem_of_getElem? (i := 990) (by decide +kernel)))
  obtain ⟨cI, kcI⟩ := su_arr1 (ty := .int) (fun C h => by cases h) (hts0 _ (List.mem_of_getElem? (i := 79) (by decide +kernel)))
  obtain ⟨cL, kcL⟩ := su_arr1 (ty := .long) (fun C h => by cases h) (hts0 _ (List.mem_of_getElem? (i := 99) (by decide +kernel)))
  obtain ⟨cZ, kcZ⟩ := su_arr1 (ty := .boolean) (fun C h => by cases h) (hts0 _ (List.mem_of_getElem? (i := 167) (by decide +kernel)))
  obtain ⟨cD, kcD⟩ := su_arr1 (ty := .double) (fun C h => by cases h) (hts0 _ (List.mem_of_getElem? (i := 1237) (by decide +kernel)))
  obtain ⟨cA, kcA⟩ := su_arr2 (t := .int) (hts0 _ (List.mem_of_getElem? (i := 996) (by decide +kernel)))
  obtain ⟨cB, kcB⟩ := su_arr2 (t := .long) (hts0 _ (List.mem_of_getElem? (i := 998) (by decide +kernel)))
  refine ⟨(fun k => match k with | 0 => c0 | 1 => c1 | 2 => c2 | 3 => c3 | 4 => c4 | 5 => c5 | 6 => c6 | 7 => c7 | 8 => c8 | 9 => c9 | 10 => c10 | _ => c0, fun k => match k with | 0 => i0 | 1 => i1 | 2 => i2 | 3 => i3 | 4 => i4 | 5 => i5 | 6 => i6 | 7 => i7 | 8 => i8 | 9 => i9 | 10 => i10 | _ => i0), cI, cL, cZ, cA, cB, cD, ?_, ?_⟩
  · intro c q hq
    match c, hq with
    | 0, hq => cases hq; exact h0
    | 1, hq => cases hq; exact h1
    | 2, hq => cases hq; exact h2
    | 3, hq => cases hq; exact h3
    | 4, hq => cases hq; exact h4
    | 5, hq => cases hq; exact h5
    | 6, hq => cases hq; exact h6
    | 7, hq => cases hq; exact h7
    | 8, hq => cases hq; exact h8
    | 9, hq => cases hq; exact h9
    | 10, hq => cases hq; exact h10
    | (n + 11), hq => cases hq
  · intro k q hq
    match k, hq with
    | 0, hq => cases hq; exact kcI
    | 1, hq => cases hq; exact kcL
    | 2, hq => cases hq; exact kcZ
    | 3, hq => cases hq; exact kcA
    | 4, hq => cases hq; exact kcB
    | 5, hq => cases hq; exact kcD
    | (n + 6), hq => cases hq
