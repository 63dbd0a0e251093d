/-! ===== contracts that return or throw; a contract over a part of a world as one over the world ===== -/
/-- the texts of the class' exceptions: entry of the constant pool, text -/
def su_strs : List (Nat × String) := [(74, "no such place to insert at"), (147, "all sums are made"), (162, "the sum is not made"), (169, "so many places are not from 0 to 20"), (186, "no such choice of the sum"), (222, "none of the four signs"), (239, "more than 8 places"), (261, "no such hoard"), (266, "no such place"), (268, "the number is not from 1 to 120"), (270, "the sum is not from 0 to 300"), (272, "no such choice"), (274, "more than 20 numbers, or more than 300 together"), (282, "no such sum up to 300")]
/-- names of exceptions, no two of them castable -/
def su_ncs : List (String × String) := [("java/lang/IllegalArgumentException", "java/lang/IndexOutOfBoundsException"), ("java/lang/IllegalStateException", "java/lang/IndexOutOfBoundsException"), ("java/util/NoSuchElementException", "java/lang/IndexOutOfBoundsException"), ("java/lang/IndexOutOfBoundsException", "java/lang/IllegalArgumentException"), ("java/lang/IllegalStateException", "java/lang/IllegalArgumentException"), ("java/util/NoSuchElementException", "java/lang/IllegalArgumentException"), ("java/lang/IndexOutOfBoundsException", "java/lang/IllegalStateException"), ("java/lang/IllegalArgumentException", "java/lang/IllegalStateException"), ("java/util/NoSuchElementException", "java/lang/IllegalStateException"), ("java/lang/IndexOutOfBoundsException", "java/util/NoSuchElementException"), ("java/lang/IllegalArgumentException", "java/util/NoSuchElementException"), ("java/lang/IllegalStateException", "java/util/NoSuchElementException")]
/-- what a throw and a catch need of the tables and the heap -/
def su_E (A : Nat → Prop) (U : State) : Prop := vx_Zq Bundle.tN "UNASSIGNED_STACK" Bundle.steD A U U.heap ∧ vx_Zq Bundle.tN "SUPPRESSED_SENTINEL" Bundle.listD A U U.heap ∧ (∀ x ∈ su_strs, ∃ sa, vk_R RX10 x.1 x.2 sa U) ∧ ∀ x ∈ su_ncs, va_Nc x.1 x.2 U
theorem su_E.at {A B : Nat → Prop} {s U : State} {H : Heap} (hh : U.heap = H) (hW : s.WarmedH U.vm) (hk : ∀ q : Nat, q < s.heap.size → ¬ A q → H[q]? = s.heap[q]?) (hBA : ∀ q, B q → A q) (h : su_E A s) : su_E B U := by
  obtain ⟨h1, h2, h3, h4⟩ := h
  refine ⟨?_, ?_, fun x hx => ?_, fun x hx => va_Nc.moved hW.alike (h4 x hx)⟩
  · rw [hh]; exact vx_Zq.moved hW.alike ((h1.kept hk).narrow hBA)
  · rw [hh]; exact vx_Zq.moved hW.alike ((h2.kept hk).narrow hBA)
  · obtain ⟨sa, h⟩ := h3 x hx; exact ⟨sa, vk_R.warm hW h⟩
theorem su_E.sub {A B : Nat → Prop} {U : State} (hBA : ∀ q, B q → A q) (h : su_E A U) : su_E B U := ⟨h.1.narrow hBA, h.2.1.narrow hBA, h.2.2⟩
theorem su_E.same {A : Nat → Prop} {u U : State} (hh : U.heap = u.heap) (hv : U.vm = u.vm) (h : su_E A u) : su_E A U := by
  obtain ⟨h1, h2, h3, h4⟩ := h
  have ha : u.vm.Alike U.vm := by rw [hv]; exact Vm.Alike.refl _
  refine ⟨?_, ?_, fun x hx => ?_, fun x hx => va_Nc.moved ha (h4 x hx)⟩
  · rw [hh]; exact vx_Zq.moved ha h1
  · rw [hh]; exact vx_Zq.moved ha h2
  · obtain ⟨sa, h⟩ := h3 x hx; exact ⟨sa, vk_R.same hv h⟩
def su_prx (D : va_G) (T : List (ClassId × FieldType)) (sz : Nat) (ws : va_W) (av : List Value) : Array Value → State → Prop :=
  va_Pc av (fun U => U.heap.size = sz ∧ va_P D vwCl ws U.heap ∧ va_K D vwCl T U ∧ va_D (fun _ => True) ws ∧ su_N U ∧ su_E (va_A ws sz) U)
theorem su_prx_pre {D : va_G} {T : List (ClassId × FieldType)} {sz : Nat} {ws : va_W} {av : List Value} {a : Array Value} {U : State} (h : su_prx D T sz ws av a U) : su_pre D T sz ws av a U := ⟨h.1, h.2.1, h.2.2.1, h.2.2.2.1, h.2.2.2.2.1, h.2.2.2.2.2.1⟩
theorem su_blindx {D : va_G} {T : List (ClassId × FieldType)} {sz : Nat} {ws : va_W} {av : List Value} : FrameBlind (su_prx D T sz ws av) := fun a U g mk q => by
  obtain ⟨q0, q1, qP, qK, qD, qN, qE⟩ := q
  exact ⟨q0, q1, qP, va_K.moved (u := U) (U := U.calling g mk a) (Vm.Alike.refl U.vm) qK, qD, su_N.same (u := U) (U := U.calling g mk a) rfl qN, su_E.same (u := U) (U := U.calling g mk a) rfl rfl qE⟩
/-- a consequence, in a larger room -/
theorem su_wk {l : Launch} {y : MethodName} {ws : List Cond} {rm rm' : Room} {Pc Pc' : Array Value → State → Prop} {Qc Qc' : Array Value → State → Outcome → State → Prop} {XC XC' : String → State → State → Prop} {mc ms mc' ms' : Nat} {free free' : Addr → Prop}
    (h : vx_Met l y ws rm Pc Qc XC mc ms free) (hfr : rm.frames ≤ rm'.frames) (hlo : rm.locals ≤ rm'.locals) (hce : rm.cells ≤ rm'.cells) (hsl : rm.slots ≤ rm'.slots) (hmc : mc ≤ mc') (hms : ms ≤ ms') (hf : ∀ q, free q → free' q)
    (hP : ∀ a U, Pc' a U → Pc a U) (hQ : ∀ a s o t, Pc' a s → Qc a s o t → Qc' a s o t) (hX : ∀ a E s t, Pc' a s → XC E s t → XC' E s t) : vx_Met l y ws rm' Pc' Qc' XC' mc' ms' free' := by
  intro p e ha hcs hk s m args below hfm happ hp htr
  obtain ⟨a1, a2, a3, a4, a5, a6, a7, a8⟩ := (Spec.appliesLoose_iff hfm).mp happ
  have hroom : s.hasRoom e.platform rm = true := by
    have a7' : s.hasRoom e.platform rm' = true := a7
    simp only [State.hasRoom, Bool.and_eq_true, decide_eq_true_eq] at a7' ⊢
    obtain ⟨⟨⟨⟨y1, y2, y3, y4, y5, y6⟩, y7⟩, y8⟩, y9⟩ := a7'
    exact ⟨⟨⟨⟨by omega, by omega, by omega, by omega, by omega, y6⟩, by omega⟩, by omega⟩, y9⟩
  obtain ⟨n, o, h1, h2, h3, h4⟩ := h p e ha hcs hk s m args below hfm ((Spec.appliesLoose_iff hfm).mpr ⟨a1, a2, a3, a4, a5, a6, hroom, a8⟩) (hP _ _ hp) htr
  refine ⟨n, o, h1, h2, h3, ?_⟩
  rcases h4 with ⟨hq, L, ⟨hv, hW, hs⟩, hL⟩ | ⟨q, ho, E, ce, L, hx, h5, h6, h7, h8, h9, h10⟩
  · exact Or.inl ⟨hQ _ _ _ _ hp hq, L, ⟨hv, hW, hs.mono hmc hms⟩, fun z hz => hf _ (hL z hz)⟩
  · exact Or.inr ⟨q, ho, E, ce, L, hX _ _ _ _ hp hx, h5, h6, h7, h8, h9.mono hmc hms, fun z hz => hf _ (h10 z hz)⟩
theorem su_ofMet {l : Launch} {y : MethodName} {ws : List Cond} {rm : Room} {Pc : Array Value → State → Prop} {Qc : Array Value → State → Outcome → State → Prop} (XC : String → State → State → Prop) {mc ms : Nat} {free : Addr → Prop} (h : Met l y ws rm Pc Qc mc ms free) : vx_Met l y ws rm Pc Qc XC mc ms free := by
  intro p e ha hcs hk s m args below hfm happ hp htr
  obtain ⟨n, o, h1, h2, h3, h4⟩ := h p e ha hcs hk s m args below hfm happ hp htr
  exact ⟨n, o, h1, h2, h3, Or.inl h4⟩
theorem su_toMet {l : Launch} {y : MethodName} {ws : List Cond} {rm : Room} {Pc : Array Value → State → Prop} {Qc : Array Value → State → Outcome → State → Prop} {XC : String → State → State → Prop} {mc ms : Nat} {free : Addr → Prop} (hx : ∀ E s t, ¬ XC E s t) (h : vx_Met l y ws rm Pc Qc XC mc ms free) : Met l y ws rm Pc Qc mc ms free := by
  intro p e ha hcs hk s m args below hfm happ hp htr
  obtain ⟨n, o, h1, h2, h3, h4⟩ := h p e ha hcs hk s m args below hfm happ hp htr
  refine ⟨n, o, h1, h2, h3, ?_⟩
  rcases h4 with h4 | ⟨q, ho, E, ce, L, hX, -⟩
  · exact h4
  · exact absurd hX (hx _ _ _)
/-- where a method throws: which class, and the world behind it -/
def su_xo {S : Type} (D : va_G) (A : Nat → Prop) (px : String → S → Prop) (w1 : S → va_W) : String → State → State → Prop := vx_X (fun _ : S => True) (fun E u t => px E u ∧ su_wo D A w1 u t) A
theorem va_A.mono {wc W : va_W} {sz : Nat} (isC : List Nat) (hC : isC.map (fun i => W[i]?) = wc.map some) : ∀ q, va_A wc sz q → va_A W sz q := by
  intro q h
  rcases h with ⟨k, e, h⟩ | h
  · have h1 : (isC.map (fun i => W[i]?))[k]? = some (some (q, e)) := by rw [hC, List.getElem?_map, h]; rfl
    rw [List.getElem?_map] at h1
    cases hi : isC[k]? with
    | none => rw [hi] at h1; cases h1
    | some i => rw [hi] at h1; exact Or.inl ⟨i, e, Option.some.inj h1⟩
  · exact Or.inr h
theorem va_subM {w w' : va_W} {is : List Nat} (h : is.map (fun i => w[i]?) = w'.map some) : is.filterMap (fun i => w[i]?) = w' := by
  have h1 := congrArg (List.filterMap id) h
  simpa [List.filterMap_map, Function.comp_def] using h1
/-- the world behind: what was framed out beside what came back, laid anew -/
theorem su_frW {S S' : Type} {D : va_G} {sz : Nat} {wc W wr : va_W} {w1 : S → va_W} {W1 : S' → va_W} {s t : State} (isC isR perm : List Nat) (hC : isC.map (fun i => W[i]?) = wc.map some) (hR : isR.map (fun i => W[i]?) = wr.map some) (hn2 : va_nd isR = true) (hdis : ∀ i ∈ isR, i ∉ isC)
    {u : S} {u' : S'} (hperm : perm.map (fun i => (wr ++ w1 u)[i]?) = (W1 u').map some) (hnd : va_nd perm = true) (hsz : s.heap.size = sz) (hP : va_P D vwCl W s.heap) (hD : va_D (fun _ => True) W) (hF : va_F (va_A wc sz) s t) (h1 : su_wo D (va_A wc sz) w1 u t) : su_wo D (va_A W sz) W1 u' t ∧ va_F (va_A W sz) s t := by
  subst hsz
  have hA := va_A.mono (sz := s.heap.size) isC hC
  obtain ⟨hP1, hD1⟩ := va_join hP (hD.self (sz := s.heap.size)) isC isR hC hR hn2 hdis hF.2 hA h1.1 h1.2
  exact ⟨⟨hP1.sub perm (va_subM hperm), hD1.sub perm hnd hperm⟩, hF.1, fun q hq hn => hF.2 q hq (fun h => hn (hA q h))⟩
section SULIFT
variable {l : Launch} {y : MethodName} {cw : List Cond} {rm rm' : Room} {D : va_G} {T T' : List (ClassId × FieldType)} {sz mc ms mc' ms' : Nat} {wc W wr wq : va_W} {av : List Value} {S S' SX : Type} {w1 : S → va_W} {W1 : S' → va_W} {wx : SX → va_W} {px : String → SX → Prop} {px' : String → S' → Prop}
theorem su_prx_sub (isC ist : List Nat) (hC : isC.map (fun i => W[i]?) = wc.map some) (hnC : va_nd isC = true) (hT : ist.filterMap (fun i => T'[i]?) = T) {a : Array Value} {U : State} (h : su_prx D T' sz W av a U) : su_prx D T sz wc av a U := by
  obtain ⟨q0, q1, qP, qK, qD, qN, qE⟩ := h
  exact ⟨q0, q1, qP.sub isC (va_subM hC), qK.sub ist hT, qD.sub isC hnC hC, qN, qE.sub (va_A.mono isC hC)⟩
/-- a contract that returns, over a part of the world, as one over the world -/
theorem su_lift_i {post : Int32 → S → Prop} {post' : Int32 → S' → Prop} (isC isR ist perm : List Nat) (F : S → S')
    (h : Met l y cw rm (su_pre D T sz wc av) (su_qi D (va_A wc sz) post w1) mc ms (va_A wc sz))
    (hC : isC.map (fun i => W[i]?) = wc.map some) (hnC : va_nd isC = true) (hR : isR.map (fun i => W[i]?) = wr.map some) (hn2 : va_nd isR = true) (hdis : ∀ i ∈ isR, i ∉ isC) (hT : ist.filterMap (fun i => T'[i]?) = T)
    (hperm : ∀ u, perm.map (fun i => (wr ++ w1 u)[i]?) = (W1 (F u)).map some) (hnd : va_nd perm = true) (hpost : ∀ r u, post r u → post' r (F u))
    (hfr : rm.frames ≤ rm'.frames) (hlo : rm.locals ≤ rm'.locals) (hce : rm.cells ≤ rm'.cells) (hsl : rm.slots ≤ rm'.slots) (hmc : mc ≤ mc') (hms : ms ≤ ms') :
    vx_Met l y cw rm' (su_prx D T' sz W av) (su_qi D (va_A W sz) post' W1) (su_xo D (va_A W sz) px' W1) mc' ms' (va_A W sz) := by
  refine su_wk (su_ofMet (su_xo D (va_A W sz) px' W1) h) hfr hlo hce hsl hmc hms (va_A.mono isC hC) (fun a U q => su_prx_pre (su_prx_sub isC ist hC hnC hT q)) (fun a s oc t hp hq => ?_) (fun _ _ _ _ _ q => q)
  obtain ⟨⟨r, u, ho, hpo, hw⟩, hF⟩ := hq
  obtain ⟨q1, q2⟩ := su_frW (W1 := W1) isC isR perm hC hR hn2 hdis (hperm u) hnd hp.2.1 hp.2.2.1 hp.2.2.2.2.1 hF hw
  exact ⟨⟨r, F u, ho, hpost r u hpo, q1⟩, q2⟩
/-- a contract that only throws, over a part of the world, as one over the world -/
theorem su_liftX_i {post : Int32 → S' → Prop} (isC isR ist perm : List Nat) (F : SX → S')
    (h : vx_Met l y cw rm (su_prx D T sz wc av) (fun _ _ _ _ => False) (su_xo D (va_A wc sz) px wx) mc ms (va_A wc sz))
    (hC : isC.map (fun i => W[i]?) = wc.map some) (hnC : va_nd isC = true) (hR : isR.map (fun i => W[i]?) = wr.map some) (hn2 : va_nd isR = true) (hdis : ∀ i ∈ isR, i ∉ isC) (hT : ist.filterMap (fun i => T'[i]?) = T)
    (hperm : ∀ u, perm.map (fun i => (wr ++ wx u)[i]?) = (W1 (F u)).map some) (hnd : va_nd perm = true) (hpost : ∀ E u, px E u → px' E (F u))
    (hfr : rm.frames ≤ rm'.frames) (hlo : rm.locals ≤ rm'.locals) (hce : rm.cells ≤ rm'.cells) (hsl : rm.slots ≤ rm'.slots) (hmc : mc ≤ mc') (hms : ms ≤ ms') :
    vx_Met l y cw rm' (su_prx D T' sz W av) (su_qi D (va_A W sz) post W1) (su_xo D (va_A W sz) px' W1) mc' ms' (va_A W sz) := by
  refine su_wk h hfr hlo hce hsl hmc hms (va_A.mono isC hC) (fun a U q => su_prx_sub isC ist hC hnC hT q) (fun _ _ _ _ _ q => q.elim) (fun a E s t hp hq => ?_)
  obtain ⟨u, -, ⟨hpo, hw⟩, hF⟩ := hq
  obtain ⟨q1, q2⟩ := su_frW (W1 := W1) isC isR perm hC hR hn2 hdis (hperm u) hnd hp.2.1 hp.2.2.1 hp.2.2.2.2.1 hF hw
  exact ⟨F u, trivial, ⟨hpost E u hpo, q1⟩, q2⟩
/-- the reference's: returns, over its world, said otherwise -/
theorem su_liftM_i {post : Int32 → S → Prop} {post' : Int32 → S' → Prop} (isC isR ist perm : List Nat) (F : S → S')
    (h : Met l y cw rm (su_pre D T sz wc av) (su_qi D (va_A wc sz) post w1) mc ms (va_A wc sz))
    (hC : isC.map (fun i => W[i]?) = wc.map some) (hnC : va_nd isC = true) (hR : isR.map (fun i => W[i]?) = wr.map some) (hn2 : va_nd isR = true) (hdis : ∀ i ∈ isR, i ∉ isC) (hT : ist.filterMap (fun i => T'[i]?) = T)
    (hperm : ∀ u, perm.map (fun i => (wr ++ w1 u)[i]?) = (W1 (F u)).map some) (hnd : va_nd perm = true) (hpost : ∀ r u, post r u → post' r (F u))
    (hfr : rm.frames ≤ rm'.frames) (hlo : rm.locals ≤ rm'.locals) (hce : rm.cells ≤ rm'.cells) (hsl : rm.slots ≤ rm'.slots) (hmc : mc ≤ mc') (hms : ms ≤ ms') :
    Met l y cw rm' (su_pre D T' sz W av) (su_qi D (va_A W sz) post' W1) mc' ms' (va_A W sz) := by
  refine su_toMet (XC := fun _ _ _ => False) (fun _ _ _ q => q) (su_wk (su_ofMet (fun _ _ _ => False) h) hfr hlo hce hsl hmc hms (va_A.mono isC hC) (fun a U q => ⟨q.1, q.2.1, q.2.2.1.sub isC (va_subM hC), q.2.2.2.1.sub ist hT, q.2.2.2.2.1.sub isC hnC hC, q.2.2.2.2.2⟩) (fun a s oc t hp hq => ?_) (fun _ _ _ _ _ q => q))
  obtain ⟨⟨r, u, ho, hpo, hw⟩, hF⟩ := hq
  obtain ⟨q1, q2⟩ := su_frW (W1 := W1) isC isR perm hC hR hn2 hdis (hperm u) hnd hp.2.1 hp.2.2.1 hp.2.2.2.2.1 hF hw
  exact ⟨⟨r, F u, ho, hpost r u hpo, q1⟩, q2⟩
/-- a contract that returns, over a part of the world, as one over the world -/
theorem su_lift_l {post : Int64 → S → Prop} {post' : Int64 → S' → Prop} (isC isR ist perm : List Nat) (F : S → S')
    (h : Met l y cw rm (su_pre D T sz wc av) (su_ql D (va_A wc sz) post w1) mc ms (va_A wc sz))
    (hC : isC.map (fun i => W[i]?) = wc.map some) (hnC : va_nd isC = true) (hR : isR.map (fun i => W[i]?) = wr.map some) (hn2 : va_nd isR = true) (hdis : ∀ i ∈ isR, i ∉ isC) (hT : ist.filterMap (fun i => T'[i]?) = T)
    (hperm : ∀ u, perm.map (fun i => (wr ++ w1 u)[i]?) = (W1 (F u)).map some) (hnd : va_nd perm = true) (hpost : ∀ r u, post r u → post' r (F u))
    (hfr : rm.frames ≤ rm'.frames) (hlo : rm.locals ≤ rm'.locals) (hce : rm.cells ≤ rm'.cells) (hsl : rm.slots ≤ rm'.slots) (hmc : mc ≤ mc') (hms : ms ≤ ms') :
    vx_Met l y cw rm' (su_prx D T' sz W av) (su_ql D (va_A W sz) post' W1) (su_xo D (va_A W sz) px' W1) mc' ms' (va_A W sz) := by
  refine su_wk (su_ofMet (su_xo D (va_A W sz) px' W1) h) hfr hlo hce hsl hmc hms (va_A.mono isC hC) (fun a U q => su_prx_pre (su_prx_sub isC ist hC hnC hT q)) (fun a s oc t hp hq => ?_) (fun _ _ _ _ _ q => q)
  obtain ⟨⟨r, u, ho, hpo, hw⟩, hF⟩ := hq
  obtain ⟨q1, q2⟩ := su_frW (W1 := W1) isC isR perm hC hR hn2 hdis (hperm u) hnd hp.2.1 hp.2.2.1 hp.2.2.2.2.1 hF hw
  exact ⟨⟨r, F u, ho, hpost r u hpo, q1⟩, q2⟩
/-- a contract that only throws, over a part of the world, as one over the world -/
theorem su_liftX_l {post : Int64 → S' → Prop} (isC isR ist perm : List Nat) (F : SX → S')
    (h : vx_Met l y cw rm (su_prx D T sz wc av) (fun _ _ _ _ => False) (su_xo D (va_A wc sz) px wx) mc ms (va_A wc sz))
    (hC : isC.map (fun i => W[i]?) = wc.map some) (hnC : va_nd isC = true) (hR : isR.map (fun i => W[i]?) = wr.map some) (hn2 : va_nd isR = true) (hdis : ∀ i ∈ isR, i ∉ isC) (hT : ist.filterMap (fun i => T'[i]?) = T)
    (hperm : ∀ u, perm.map (fun i => (wr ++ wx u)[i]?) = (W1 (F u)).map some) (hnd : va_nd perm = true) (hpost : ∀ E u, px E u → px' E (F u))
    (hfr : rm.frames ≤ rm'.frames) (hlo : rm.locals ≤ rm'.locals) (hce : rm.cells ≤ rm'.cells) (hsl : rm.slots ≤ rm'.slots) (hmc : mc ≤ mc') (hms : ms ≤ ms') :
    vx_Met l y cw rm' (su_prx D T' sz W av) (su_ql D (va_A W sz) post W1) (su_xo D (va_A W sz) px' W1) mc' ms' (va_A W sz) := by
  refine su_wk h hfr hlo hce hsl hmc hms (va_A.mono isC hC) (fun a U q => su_prx_sub isC ist hC hnC hT q) (fun _ _ _ _ _ q => q.elim) (fun a E s t hp hq => ?_)
  obtain ⟨u, -, ⟨hpo, hw⟩, hF⟩ := hq
  obtain ⟨q1, q2⟩ := su_frW (W1 := W1) isC isR perm hC hR hn2 hdis (hperm u) hnd hp.2.1 hp.2.2.1 hp.2.2.2.2.1 hF hw
  exact ⟨F u, trivial, ⟨hpost E u hpo, q1⟩, q2⟩
/-- the reference's: returns, over its world, said otherwise -/
theorem su_liftM_l {post : Int64 → S → Prop} {post' : Int64 → S' → Prop} (isC isR ist perm : List Nat) (F : S → S')
    (h : Met l y cw rm (su_pre D T sz wc av) (su_ql D (va_A wc sz) post w1) mc ms (va_A wc sz))
    (hC : isC.map (fun i => W[i]?) = wc.map some) (hnC : va_nd isC = true) (hR : isR.map (fun i => W[i]?) = wr.map some) (hn2 : va_nd isR = true) (hdis : ∀ i ∈ isR, i ∉ isC) (hT : ist.filterMap (fun i => T'[i]?) = T)
    (hperm : ∀ u, perm.map (fun i => (wr ++ w1 u)[i]?) = (W1 (F u)).map some) (hnd : va_nd perm = true) (hpost : ∀ r u, post r u → post' r (F u))
    (hfr : rm.frames ≤ rm'.frames) (hlo : rm.locals ≤ rm'.locals) (hce : rm.cells ≤ rm'.cells) (hsl : rm.slots ≤ rm'.slots) (hmc : mc ≤ mc') (hms : ms ≤ ms') :
    Met l y cw rm' (su_pre D T' sz W av) (su_ql D (va_A W sz) post' W1) mc' ms' (va_A W sz) := by
  refine su_toMet (XC := fun _ _ _ => False) (fun _ _ _ q => q) (su_wk (su_ofMet (fun _ _ _ => False) h) hfr hlo hce hsl hmc hms (va_A.mono isC hC) (fun a U q => ⟨q.1, q.2.1, q.2.2.1.sub isC (va_subM hC), q.2.2.2.1.sub ist hT, q.2.2.2.2.1.sub isC hnC hC, q.2.2.2.2.2⟩) (fun a s oc t hp hq => ?_) (fun _ _ _ _ _ q => q))
  obtain ⟨⟨r, u, ho, hpo, hw⟩, hF⟩ := hq
  obtain ⟨q1, q2⟩ := su_frW (W1 := W1) isC isR perm hC hR hn2 hdis (hperm u) hnd hp.2.1 hp.2.2.1 hp.2.2.2.2.1 hF hw
  exact ⟨⟨r, F u, ho, hpost r u hpo, q1⟩, q2⟩
/-- a contract that returns, over a part of the world, as one over the world -/
theorem su_lift_f {post : UInt32 → S → Prop} {post' : UInt32 → S' → Prop} (isC isR ist perm : List Nat) (F : S → S')
    (h : Met l y cw rm (su_pre D T sz wc av) (su_qf D (va_A wc sz) post w1) mc ms (va_A wc sz))
    (hC : isC.map (fun i => W[i]?) = wc.map some) (hnC : va_nd isC = true) (hR : isR.map (fun i => W[i]?) = wr.map some) (hn2 : va_nd isR = true) (hdis : ∀ i ∈ isR, i ∉ isC) (hT : ist.filterMap (fun i => T'[i]?) = T)
    (hperm : ∀ u, perm.map (fun i => (wr ++ w1 u)[i]?) = (W1 (F u)).map some) (hnd : va_nd perm = true) (hpost : ∀ r u, post r u → post' r (F u))
    (hfr : rm.frames ≤ rm'.frames) (hlo : rm.locals ≤ rm'.locals) (hce : rm.cells ≤ rm'.cells) (hsl : rm.slots ≤ rm'.slots) (hmc : mc ≤ mc') (hms : ms ≤ ms') :
    vx_Met l y cw rm' (su_prx D T' sz W av) (su_qf D (va_A W sz) post' W1) (su_xo D (va_A W sz) px' W1) mc' ms' (va_A W sz) := by
  refine su_wk (su_ofMet (su_xo D (va_A W sz) px' W1) h) hfr hlo hce hsl hmc hms (va_A.mono isC hC) (fun a U q => su_prx_pre (su_prx_sub isC ist hC hnC hT q)) (fun a s oc t hp hq => ?_) (fun _ _ _ _ _ q => q)
  obtain ⟨⟨r, u, ho, hpo, hw⟩, hF⟩ := hq
  obtain ⟨q1, q2⟩ := su_frW (W1 := W1) isC isR perm hC hR hn2 hdis (hperm u) hnd hp.2.1 hp.2.2.1 hp.2.2.2.2.1 hF hw
  exact ⟨⟨r, F u, ho, hpost r u hpo, q1⟩, q2⟩
/-- a contract that only throws, over a part of the world, as one over the world -/
theorem su_liftX_f {post : UInt32 → S' → Prop} (isC isR ist perm : List Nat) (F : SX → S')
    (h : vx_Met l y cw rm (su_prx D T sz wc av) (fun _ _ _ _ => False) (su_xo D (va_A wc sz) px wx) mc ms (va_A wc sz))
    (hC : isC.map (fun i => W[i]?) = wc.map some) (hnC : va_nd isC = true) (hR : isR.map (fun i => W[i]?) = wr.map some) (hn2 : va_nd isR = true) (hdis : ∀ i ∈ isR, i ∉ isC) (hT : ist.filterMap (fun i => T'[i]?) = T)
    (hperm : ∀ u, perm.map (fun i => (wr ++ wx u)[i]?) = (W1 (F u)).map some) (hnd : va_nd perm = true) (hpost : ∀ E u, px E u → px' E (F u))
    (hfr : rm.frames ≤ rm'.frames) (hlo : rm.locals ≤ rm'.locals) (hce : rm.cells ≤ rm'.cells) (hsl : rm.slots ≤ rm'.slots) (hmc : mc ≤ mc') (hms : ms ≤ ms') :
    vx_Met l y cw rm' (su_prx D T' sz W av) (su_qf D (va_A W sz) post W1) (su_xo D (va_A W sz) px' W1) mc' ms' (va_A W sz) := by
  refine su_wk h hfr hlo hce hsl hmc hms (va_A.mono isC hC) (fun a U q => su_prx_sub isC ist hC hnC hT q) (fun _ _ _ _ _ q => q.elim) (fun a E s t hp hq => ?_)
  obtain ⟨u, -, ⟨hpo, hw⟩, hF⟩ := hq
  obtain ⟨q1, q2⟩ := su_frW (W1 := W1) isC isR perm hC hR hn2 hdis (hperm u) hnd hp.2.1 hp.2.2.1 hp.2.2.2.2.1 hF hw
  exact ⟨F u, trivial, ⟨hpost E u hpo, q1⟩, q2⟩
/-- the reference's: returns, over its world, said otherwise -/
theorem su_liftM_f {post : UInt32 → S → Prop} {post' : UInt32 → S' → Prop} (isC isR ist perm : List Nat) (F : S → S')
    (h : Met l y cw rm (su_pre D T sz wc av) (su_qf D (va_A wc sz) post w1) mc ms (va_A wc sz))
    (hC : isC.map (fun i => W[i]?) = wc.map some) (hnC : va_nd isC = true) (hR : isR.map (fun i => W[i]?) = wr.map some) (hn2 : va_nd isR = true) (hdis : ∀ i ∈ isR, i ∉ isC) (hT : ist.filterMap (fun i => T'[i]?) = T)
    (hperm : ∀ u, perm.map (fun i => (wr ++ w1 u)[i]?) = (W1 (F u)).map some) (hnd : va_nd perm = true) (hpost : ∀ r u, post r u → post' r (F u))
    (hfr : rm.frames ≤ rm'.frames) (hlo : rm.locals ≤ rm'.locals) (hce : rm.cells ≤ rm'.cells) (hsl : rm.slots ≤ rm'.slots) (hmc : mc ≤ mc') (hms : ms ≤ ms') :
    Met l y cw rm' (su_pre D T' sz W av) (su_qf D (va_A W sz) post' W1) mc' ms' (va_A W sz) := by
  refine su_toMet (XC := fun _ _ _ => False) (fun _ _ _ q => q) (su_wk (su_ofMet (fun _ _ _ => False) h) hfr hlo hce hsl hmc hms (va_A.mono isC hC) (fun a U q => ⟨q.1, q.2.1, q.2.2.1.sub isC (va_subM hC), q.2.2.2.1.sub ist hT, q.2.2.2.2.1.sub isC hnC hC, q.2.2.2.2.2⟩) (fun a s oc t hp hq => ?_) (fun _ _ _ _ _ q => q))
  obtain ⟨⟨r, u, ho, hpo, hw⟩, hF⟩ := hq
  obtain ⟨q1, q2⟩ := su_frW (W1 := W1) isC isR perm hC hR hn2 hdis (hperm u) hnd hp.2.1 hp.2.2.1 hp.2.2.2.2.1 hF hw
  exact ⟨⟨r, F u, ho, hpost r u hpo, q1⟩, q2⟩
/-- a contract that returns, over a part of the world, as one over the world -/
theorem su_lift_d {post : UInt64 → S → Prop} {post' : UInt64 → S' → Prop} (isC isR ist perm : List Nat) (F : S → S')
    (h : Met l y cw rm (su_pre D T sz wc av) (su_qd D (va_A wc sz) post w1) mc ms (va_A wc sz))
    (hC : isC.map (fun i => W[i]?) = wc.map some) (hnC : va_nd isC = true) (hR : isR.map (fun i => W[i]?) = wr.map some) (hn2 : va_nd isR = true) (hdis : ∀ i ∈ isR, i ∉ isC) (hT : ist.filterMap (fun i => T'[i]?) = T)
    (hperm : ∀ u, perm.map (fun i => (wr ++ w1 u)[i]?) = (W1 (F u)).map some) (hnd : va_nd perm = true) (hpost : ∀ r u, post r u → post' r (F u))
    (hfr : rm.frames ≤ rm'.frames) (hlo : rm.locals ≤ rm'.locals) (hce : rm.cells ≤ rm'.cells) (hsl : rm.slots ≤ rm'.slots) (hmc : mc ≤ mc') (hms : ms ≤ ms') :
    vx_Met l y cw rm' (su_prx D T' sz W av) (su_qd D (va_A W sz) post' W1) (su_xo D (va_A W sz) px' W1) mc' ms' (va_A W sz) := by
  refine su_wk (su_ofMet (su_xo D (va_A W sz) px' W1) h) hfr hlo hce hsl hmc hms (va_A.mono isC hC) (fun a U q => su_prx_pre (su_prx_sub isC ist hC hnC hT q)) (fun a s oc t hp hq => ?_) (fun _ _ _ _ _ q => q)
  obtain ⟨⟨r, u, ho, hpo, hw⟩, hF⟩ := hq
  obtain ⟨q1, q2⟩ := su_frW (W1 := W1) isC isR perm hC hR hn2 hdis (hperm u) hnd hp.2.1 hp.2.2.1 hp.2.2.2.2.1 hF hw
  exact ⟨⟨r, F u, ho, hpost r u hpo, q1⟩, q2⟩
/-- a contract that only throws, over a part of the world, as one over the world -/
theorem su_liftX_d {post : UInt64 → S' → Prop} (isC isR ist perm : List Nat) (F : SX → S')
    (h : vx_Met l y cw rm (su_prx D T sz wc av) (fun _ _ _ _ => False) (su_xo D (va_A wc sz) px wx) mc ms (va_A wc sz))
    (hC : isC.map (fun i => W[i]?) = wc.map some) (hnC : va_nd isC = true) (hR : isR.map (fun i => W[i]?) = wr.map some) (hn2 : va_nd isR = true) (hdis : ∀ i ∈ isR, i ∉ isC) (hT : ist.filterMap (fun i => T'[i]?) = T)
    (hperm : ∀ u, perm.map (fun i => (wr ++ wx u)[i]?) = (W1 (F u)).map some) (hnd : va_nd perm = true) (hpost : ∀ E u, px E u → px' E (F u))
    (hfr : rm.frames ≤ rm'.frames) (hlo : rm.locals ≤ rm'.locals) (hce : rm.cells ≤ rm'.cells) (hsl : rm.slots ≤ rm'.slots) (hmc : mc ≤ mc') (hms : ms ≤ ms') :
    vx_Met l y cw rm' (su_prx D T' sz W av) (su_qd D (va_A W sz) post W1) (su_xo D (va_A W sz) px' W1) mc' ms' (va_A W sz) := by
  refine su_wk h hfr hlo hce hsl hmc hms (va_A.mono isC hC) (fun a U q => su_prx_sub isC ist hC hnC hT q) (fun _ _ _ _ _ q => q.elim) (fun a E s t hp hq => ?_)
  obtain ⟨u, -, ⟨hpo, hw⟩, hF⟩ := hq
  obtain ⟨q1, q2⟩ := su_frW (W1 := W1) isC isR perm hC hR hn2 hdis (hperm u) hnd hp.2.1 hp.2.2.1 hp.2.2.2.2.1 hF hw
  exact ⟨F u, trivial, ⟨hpost E u hpo, q1⟩, q2⟩
/-- the reference's: returns, over its world, said otherwise -/
theorem su_liftM_d {post : UInt64 → S → Prop} {post' : UInt64 → S' → Prop} (isC isR ist perm : List Nat) (F : S → S')
    (h : Met l y cw rm (su_pre D T sz wc av) (su_qd D (va_A wc sz) post w1) mc ms (va_A wc sz))
    (hC : isC.map (fun i => W[i]?) = wc.map some) (hnC : va_nd isC = true) (hR : isR.map (fun i => W[i]?) = wr.map some) (hn2 : va_nd isR = true) (hdis : ∀ i ∈ isR, i ∉ isC) (hT : ist.filterMap (fun i => T'[i]?) = T)
    (hperm : ∀ u, perm.map (fun i => (wr ++ w1 u)[i]?) = (W1 (F u)).map some) (hnd : va_nd perm = true) (hpost : ∀ r u, post r u → post' r (F u))
    (hfr : rm.frames ≤ rm'.frames) (hlo : rm.locals ≤ rm'.locals) (hce : rm.cells ≤ rm'.cells) (hsl : rm.slots ≤ rm'.slots) (hmc : mc ≤ mc') (hms : ms ≤ ms') :
    Met l y cw rm' (su_pre D T' sz W av) (su_qd D (va_A W sz) post' W1) mc' ms' (va_A W sz) := by
  refine su_toMet (XC := fun _ _ _ => False) (fun _ _ _ q => q) (su_wk (su_ofMet (fun _ _ _ => False) h) hfr hlo hce hsl hmc hms (va_A.mono isC hC) (fun a U q => ⟨q.1, q.2.1, q.2.2.1.sub isC (va_subM hC), q.2.2.2.1.sub ist hT, q.2.2.2.2.1.sub isC hnC hC, q.2.2.2.2.2⟩) (fun a s oc t hp hq => ?_) (fun _ _ _ _ _ q => q))
  obtain ⟨⟨r, u, ho, hpo, hw⟩, hF⟩ := hq
  obtain ⟨q1, q2⟩ := su_frW (W1 := W1) isC isR perm hC hR hn2 hdis (hperm u) hnd hp.2.1 hp.2.2.1 hp.2.2.2.2.1 hF hw
  exact ⟨⟨r, F u, ho, hpost r u hpo, q1⟩, q2⟩
end SULIFT
