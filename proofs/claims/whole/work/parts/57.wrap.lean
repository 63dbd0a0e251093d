/-! ===== wrappers: bodies with handlers that return ===== -/
abbrev wsH (y : MethodName) (c : ByteArray) (n : Nat) (ret : Option FieldType) (hh : List (Nat × Nat × Nat × Nat)) : List Cond := Cond.codeWith y c n ret hh :: lw_all
theorem lw_gH {y : MethodName} {c : ByteArray} {n : Nat} {ret : Option FieldType} {hh : List (Nat × Nat × Nat × Nat)} {own : String} {idx : Nat} (h1 : Cond.methodLink own idx y ∈ lw_all) (h2 : Cond.static y ∈ lw_all) (h4 : Cond.initialized y.cls ∈ lw_all) (h : Cond.codeWith y c n ret hh ∈ lw_all) : GoodIn lw_all (va_wsS own idx y (wsH y c n ret hh)) :=
  lw_gi (by
    intro w hw
    simp only [va_wsS, wsH, List.mem_append, List.mem_cons, List.not_mem_nil, or_false] at hw
    rcases hw with hw | hw
    · rcases hw with rfl | rfl | rfl | rfl <;> assumption
    · rcases hw with rfl | hw
      · exact h
      · exact hw)
theorem su_metH {l : Launch} {y : MethodName} {rm : Room} {D : va_G} {T : List (ClassId × FieldType)} {sz : Nat} {wc : va_W} {av : List Value} {Qf : (Nat → Prop) → Array Value → State → Outcome → State → Prop} {mc ms : Nat} {cc : ByteArray} {maxL : Nat} {ret : Option FieldType} {hh : List (Nat × Nat × Nat × Nat)}
    (hy : plainName y.cls = true) (hlen : (lg_sl av).length ≤ maxL)
    (body : ∀ (p : Program) (e : Env) (s : State) (m : MethodId) (args : Array Value) (below : List Frame) (meth : Method) (c : Code) (R : Room) (Q : State → Prop) (A : Nat → Prop) (H : Heap) (locs : List Loc) (ls : Array Slot),
      p.tables.exec = Jvm.exec → c.code = cc → meth.sig.returnType = ret → meth.locks = false → meth.name = y.name → c.maxLocals = maxL → s.vm.findClass y.cls = some m.cls → (∀ w ∈ lw_all, w.before args s = true) → su_N s → su_E A s → c.exceptionTable.toList = tableOf hh →
      va_P D vwCl wc H → va_K D vwCl T s → va_D A wc → (∀ q, s.heap.size ≤ q → A q) → va_S A s.heap H locs → R = rm → Q = vx_MQ below (Qf A) (fun _ _ _ => False) args s mc ms A → lv_has ls maxL (lv_args 0 av) →
      W p l e R s m args below meth c H locs 0 0 Q (F0 m 0 ls [])) :
    Met l y (wsH y cc maxL ret hh) rm (su_prx D T sz wc av) (Qf (va_A wc sz)) mc ms (va_A wc sz) := by
  refine su_toMet (XC := fun _ _ _ => False) (fun _ _ _ q => q) ?_
  refine vx_ofWH (cc := cc) (maxL := maxL) (ret := ret) (hh := hh) hy rfl ?_
  intro p e s m args below meth c s₁ B hml hv
  obtain ⟨rfl, hsz, hP, hK, hD0, hN, hE⟩ := hv
  subst hsz
  have hl := lv_entry av (n := maxL) hlen
  rw [lg_entry_eq]
  exact body p e s m _ below meth c _ _ (va_A wc s.heap.size) s.heap [] _ B.exec B.bytes B.returns B.notSynchronized (name_of_methodNamed B.named B.method).1 hml (findClass_of_methodNamed B.named) (fun w h => atoms_spec (ws := wsH y cc maxL ret hh) B.pre w (List.mem_cons_of_mem _ h)) hN hE
    (vx_table (x := y) B (atoms_spec (ws := wsH y cc maxL ret hh) B.pre _ List.mem_cons_self)) hP hK hD0.self (fun q h => Or.inr h) va_S.rf rfl rfl hl
section SUCH
variable {p : Program} {l : Launch} {e : Env} {R : Room} {s : State} {m : MethodId} {args : Array Value} {below : List Frame} {meth : Method} {c : Code} {H : Heap} {locs : List Loc} {cells slots mc ms : Nat} {Q : State → Prop}
variable {cc : ByteArray} {pc : Nat} {ls : Array Slot} {rest st0 : List Value} {D : va_G} {A : Nat → Prop} {T T' : List (ClassId × FieldType)} {ws wc wr : va_W}
theorem su_cHi {S SX : Type} {post : Int32 → S → Prop} {w1 : S → va_W} {px : String → SX → Prop} {wx : SX → va_W} {a : Array Value}
    (hr : vx_Run p l e R s m args below meth c H locs cells slots mc ms (F0 m pc ls st0) rest (su_qi D (va_A wc H.size) post w1 a) (su_xo D (va_A wc H.size) px wx) (va_A wc H.size)) (hP : va_P D vwCl ws H) (hD : va_D A ws) (hS : va_S A s.heap H locs) (hA : ∀ q, s.heap.size ≤ q → A q) (isC isR : List Nat) (hC : isC.map (fun i => ws[i]?) = wc.map some) (hR : isR.map (fun i => ws[i]?) = wr.map some) (hn : va_nd isR = true) (hdis : ∀ i ∈ isR, i ∉ isC)
    (kx : ∀ (E : String) (ce : Cell) (q9 : Addr) (u : SX) (H1 : Heap) (locs1 : List Loc), px E u → va_P D vwCl (wr ++ wx u) H1 → va_D A (wr ++ wx u) → va_S A s.heap H1 locs1 → H1[q9]? = some ce → ce.vm = .none → s.vm.findClass E = some ce.cls → vx_W p l e R s m args below meth c H1 locs1 (cells + mc) (slots + ms) Q (F0 m pc ls rest) q9)
    (kk : ∀ (r : Int32) (u : S) (H1 : Heap) (locs1 : List Loc), post r u → va_P D vwCl (wr ++ w1 u) H1 → va_D A (wr ++ w1 u) → va_S A s.heap H1 locs1 → W p l e R s m args below meth c H1 locs1 (cells + mc) (slots + ms) Q (F0 m (pc + 3) ls (.int r :: rest))) :
    W p l e R s m args below meth c H locs cells slots Q (F0 m pc ls st0) := by
  have hF := va_free hD hS hA isC hC
  refine vx_calli hr hS (fun q _ h => hF q h) hF (fun q _ h => hF q h) (fun E ce q9 u t H1 locs1 ht hal hp hb k1 k2 k3 hce hcv hcl => ?_) (fun r u t H1 locs1 ht hal hp hb k1 k2 k3 => ?_)
  · obtain ⟨hpo, hP1, hD1⟩ := hb
    rw [ht] at hP1
    obtain ⟨hP2, hD2⟩ := va_join hP hD isC isR hC hR hn hdis k2 hF hP1 hD1
    exact kx E ce q9 u H1 locs1 hpo hP2 hD2 k3 hce hcv hcl
  · obtain ⟨hP1, hD1⟩ := hb
    rw [ht] at hP1
    obtain ⟨hP2, hD2⟩ := va_join hP hD isC isR hC hR hn hdis k2 hF hP1 hD1
    exact kk r u H1 locs1 hp hP2 hD2 k3
theorem su_cHl {S SX : Type} {post : Int64 → S → Prop} {w1 : S → va_W} {px : String → SX → Prop} {wx : SX → va_W} {a : Array Value}
    (hr : vx_Run p l e R s m args below meth c H locs cells slots mc ms (F0 m pc ls st0) rest (su_ql D (va_A wc H.size) post w1 a) (su_xo D (va_A wc H.size) px wx) (va_A wc H.size)) (hP : va_P D vwCl ws H) (hD : va_D A ws) (hS : va_S A s.heap H locs) (hA : ∀ q, s.heap.size ≤ q → A q) (isC isR : List Nat) (hC : isC.map (fun i => ws[i]?) = wc.map some) (hR : isR.map (fun i => ws[i]?) = wr.map some) (hn : va_nd isR = true) (hdis : ∀ i ∈ isR, i ∉ isC)
    (kx : ∀ (E : String) (ce : Cell) (q9 : Addr) (u : SX) (H1 : Heap) (locs1 : List Loc), px E u → va_P D vwCl (wr ++ wx u) H1 → va_D A (wr ++ wx u) → va_S A s.heap H1 locs1 → H1[q9]? = some ce → ce.vm = .none → s.vm.findClass E = some ce.cls → vx_W p l e R s m args below meth c H1 locs1 (cells + mc) (slots + ms) Q (F0 m pc ls rest) q9)
    (kk : ∀ (r : Int64) (u : S) (H1 : Heap) (locs1 : List Loc), post r u → va_P D vwCl (wr ++ w1 u) H1 → va_D A (wr ++ w1 u) → va_S A s.heap H1 locs1 → W p l e R s m args below meth c H1 locs1 (cells + mc) (slots + ms) Q (F0 m (pc + 3) ls (.long r :: rest))) :
    W p l e R s m args below meth c H locs cells slots Q (F0 m pc ls st0) := by
  have hF := va_free hD hS hA isC hC
  refine vx_calll hr hS (fun q _ h => hF q h) hF (fun q _ h => hF q h) (fun E ce q9 u t H1 locs1 ht hal hp hb k1 k2 k3 hce hcv hcl => ?_) (fun r u t H1 locs1 ht hal hp hb k1 k2 k3 => ?_)
  · obtain ⟨hpo, hP1, hD1⟩ := hb
    rw [ht] at hP1
    obtain ⟨hP2, hD2⟩ := va_join hP hD isC isR hC hR hn hdis k2 hF hP1 hD1
    exact kx E ce q9 u H1 locs1 hpo hP2 hD2 k3 hce hcv hcl
  · obtain ⟨hP1, hD1⟩ := hb
    rw [ht] at hP1
    obtain ⟨hP2, hD2⟩ := va_join hP hD isC isR hC hR hn hdis k2 hF hP1 hD1
    exact kk r u H1 locs1 hp hP2 hD2 k3
theorem su_cHf {S SX : Type} {post : UInt32 → S → Prop} {w1 : S → va_W} {px : String → SX → Prop} {wx : SX → va_W} {a : Array Value}
    (hr : vx_Run p l e R s m args below meth c H locs cells slots mc ms (F0 m pc ls st0) rest (su_qf D (va_A wc H.size) post w1 a) (su_xo D (va_A wc H.size) px wx) (va_A wc H.size)) (hP : va_P D vwCl ws H) (hD : va_D A ws) (hS : va_S A s.heap H locs) (hA : ∀ q, s.heap.size ≤ q → A q) (isC isR : List Nat) (hC : isC.map (fun i => ws[i]?) = wc.map some) (hR : isR.map (fun i => ws[i]?) = wr.map some) (hn : va_nd isR = true) (hdis : ∀ i ∈ isR, i ∉ isC)
    (kx : ∀ (E : String) (ce : Cell) (q9 : Addr) (u : SX) (H1 : Heap) (locs1 : List Loc), px E u → va_P D vwCl (wr ++ wx u) H1 → va_D A (wr ++ wx u) → va_S A s.heap H1 locs1 → H1[q9]? = some ce → ce.vm = .none → s.vm.findClass E = some ce.cls → vx_W p l e R s m args below meth c H1 locs1 (cells + mc) (slots + ms) Q (F0 m pc ls rest) q9)
    (kk : ∀ (r : UInt32) (u : S) (H1 : Heap) (locs1 : List Loc), post r u → va_P D vwCl (wr ++ w1 u) H1 → va_D A (wr ++ w1 u) → va_S A s.heap H1 locs1 → W p l e R s m args below meth c H1 locs1 (cells + mc) (slots + ms) Q (F0 m (pc + 3) ls (.float r :: rest))) :
    W p l e R s m args below meth c H locs cells slots Q (F0 m pc ls st0) := by
  have hF := va_free hD hS hA isC hC
  refine vx_callf hr hS (fun q _ h => hF q h) hF (fun q _ h => hF q h) (fun E ce q9 u t H1 locs1 ht hal hp hb k1 k2 k3 hce hcv hcl => ?_) (fun r u t H1 locs1 ht hal hp hb k1 k2 k3 => ?_)
  · obtain ⟨hpo, hP1, hD1⟩ := hb
    rw [ht] at hP1
    obtain ⟨hP2, hD2⟩ := va_join hP hD isC isR hC hR hn hdis k2 hF hP1 hD1
    exact kx E ce q9 u H1 locs1 hpo hP2 hD2 k3 hce hcv hcl
  · obtain ⟨hP1, hD1⟩ := hb
    rw [ht] at hP1
    obtain ⟨hP2, hD2⟩ := va_join hP hD isC isR hC hR hn hdis k2 hF hP1 hD1
    exact kk r u H1 locs1 hp hP2 hD2 k3
theorem su_cHd {S SX : Type} {post : UInt64 → S → Prop} {w1 : S → va_W} {px : String → SX → Prop} {wx : SX → va_W} {a : Array Value}
    (hr : vx_Run p l e R s m args below meth c H locs cells slots mc ms (F0 m pc ls st0) rest (su_qd D (va_A wc H.size) post w1 a) (su_xo D (va_A wc H.size) px wx) (va_A wc H.size)) (hP : va_P D vwCl ws H) (hD : va_D A ws) (hS : va_S A s.heap H locs) (hA : ∀ q, s.heap.size ≤ q → A q) (isC isR : List Nat) (hC : isC.map (fun i => ws[i]?) = wc.map some) (hR : isR.map (fun i => ws[i]?) = wr.map some) (hn : va_nd isR = true) (hdis : ∀ i ∈ isR, i ∉ isC)
    (kx : ∀ (E : String) (ce : Cell) (q9 : Addr) (u : SX) (H1 : Heap) (locs1 : List Loc), px E u → va_P D vwCl (wr ++ wx u) H1 → va_D A (wr ++ wx u) → va_S A s.heap H1 locs1 → H1[q9]? = some ce → ce.vm = .none → s.vm.findClass E = some ce.cls → vx_W p l e R s m args below meth c H1 locs1 (cells + mc) (slots + ms) Q (F0 m pc ls rest) q9)
    (kk : ∀ (r : UInt64) (u : S) (H1 : Heap) (locs1 : List Loc), post r u → va_P D vwCl (wr ++ w1 u) H1 → va_D A (wr ++ w1 u) → va_S A s.heap H1 locs1 → W p l e R s m args below meth c H1 locs1 (cells + mc) (slots + ms) Q (F0 m (pc + 3) ls (.double r :: rest))) :
    W p l e R s m args below meth c H locs cells slots Q (F0 m pc ls st0) := by
  have hF := va_free hD hS hA isC hC
  refine vx_calld hr hS (fun q _ h => hF q h) hF (fun q _ h => hF q h) (fun E ce q9 u t H1 locs1 ht hal hp hb k1 k2 k3 hce hcv hcl => ?_) (fun r u t H1 locs1 ht hal hp hb k1 k2 k3 => ?_)
  · obtain ⟨hpo, hP1, hD1⟩ := hb
    rw [ht] at hP1
    obtain ⟨hP2, hD2⟩ := va_join hP hD isC isR hC hR hn hdis k2 hF hP1 hD1
    exact kx E ce q9 u H1 locs1 hpo hP2 hD2 k3 hce hcv hcl
  · obtain ⟨hP1, hD1⟩ := hb
    rw [ht] at hP1
    obtain ⟨hP2, hD2⟩ := va_join hP hD isC isR hC hR hn hdis k2 hF hP1 hD1
    exact kk r u H1 locs1 hp hP2 hD2 k3
end SUCH
theorem su_m1 {α : Type} {E a : α} {k : Nat} (h : (E, k) ∈ [(a, 1)]) : E = a ∧ k = 1 := by
  rcases List.mem_cons.mp h with h | h
  · cases h; exact ⟨rfl, rfl⟩
  · cases h
theorem su_m2 {α : Type} {E a b : α} {k : Nat} (h : (E, k) ∈ [(a, 1), (b, 2)]) : (E = a ∧ k = 1) ∨ (E = b ∧ k = 2) := by
  rcases List.mem_cons.mp h with h | h
  · cases h; exact Or.inl ⟨rfl, rfl⟩
  · rcases List.mem_cons.mp h with h | h
    · cases h; exact Or.inr ⟨rfl, rfl⟩
    · cases h
theorem su_m3 {α : Type} {E a b d : α} {k : Nat} (h : (E, k) ∈ [(a, 1), (b, 2), (d, 3)]) : (E = a ∧ k = 1) ∨ (E = b ∧ k = 2) ∨ (E = d ∧ k = 3) := by
  rcases List.mem_cons.mp h with h | h
  · cases h; exact Or.inl ⟨rfl, rfl⟩
  · rcases List.mem_cons.mp h with h | h
    · cases h; exact Or.inr (Or.inl ⟨rfl, rfl⟩)
    · rcases List.mem_cons.mp h with h | h
      · cases h; exact Or.inr (Or.inr ⟨rfl, rfl⟩)
      · cases h
def su_z01 (r : Int32) : Int64 := if r = 0 then 0 else 1
abbrev suRmW : Room := { frames := 9, cells := 1, slots := 6, locals := 320 }
theorem share_nn {g gb : Nat → Nat} {n nb : Nat} {x : Int32} {kk : Nat} {v : UInt32} {L0 L1 : List Nat} (ok0 : okL (su_lst g n)) (ok1 : okL (su_lst gb nb)) (hr : su_h1 (fun g n => R_share g n) g n gb nb x kk v L0 L1) (h : kk = 0) : Jvm.FP.Core.val32 v ≠ .nan := by
  have hT0 := ok_T ok0
  have hT1 := ok_T ok1
  rcases hr with ⟨-, hr, -⟩ | ⟨-, hr, -⟩ | ⟨-, -, -, hk, -⟩
  · obtain ⟨-, rfl, -⟩ := hr; exact su_fd0 (nS_le _ _) (by omega) (by omega)
  · obtain ⟨-, rfl, -⟩ := hr; exact su_fd0 (nS_le _ _) (by omega) (by omega)
  · rw [h] at hk; exact absurd hk (by decide)
