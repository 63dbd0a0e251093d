/-! arrays of arrays -/
def su_T5 (cI cL cZ cA cB : ClassId) : List (ClassId × FieldType) := [(cI, .int), (cL, .long), (cZ, .boolean), (cA, .array .int), (cB, .array .long)]
def rf2 (a b : Nat) : Nat → Option Nat := fun i => if i = 0 then some a else some b
def sz2 (a b : Nat) : Nat → Nat := fun i => if i = 0 then a else b
theorem su_sz0 {a b v : Nat} (j : Nat) : upd (fN (sz2 a b)) 0 (nI v) j = fN (sz2 v b) j := by
  unfold upd fN sz2
  by_cases h : j = 0
  · subst h; simp
  · simp [h]
theorem su_sz1 {a b v : Nat} (j : Nat) (hj : j < 2) : upd (fN (sz2 a b)) 1 (nI v) j = fN (sz2 a v) j := by
  unfold upd fN sz2
  have h : j = 0 ∨ j = 1 := by omega
  rcases h with h | h <;> subst h <;> simp
theorem su_irem2 {v : Nat} (h : v < 2 ^ 31) : nI v - nI v / nI 2 * nI 2 = nI (v % 2) := by
  apply Int32.toInt_inj.mp
  have e1 := nI_toInt h
  have e2 : (nI 2).toInt = 2 := by decide
  have e3 : (nI v / nI 2).toInt = (v / 2 : Nat) := by
    have e4 : ((v : Nat) : Int).tdiv 2 = ((v / 2 : Nat) : Int) := rfl
    rw [Int32.toInt_div, e1, e2, e4, Int.bmod_eq_of_le (by omega) (by omega)]
  rw [Int32.toInt_sub, Int32.toInt_mul, e3, e1, e2, nI_toInt (show v % 2 < 2 ^ 31 by omega)]
  rw [Int.bmod_eq_of_le (n := ((v / 2 : Nat) : Int) * 2) (by omega) (by omega), Int.bmod_eq_of_le (by omega) (by omega)]
  omega
def inI (x lo hi : Int32) : Bool := decide (lo ≤ x ∧ x ≤ hi)
theorem inI_n {a lo hi : Nat} (ha : a < 2 ^ 31) (hl : lo < 2 ^ 31) (hh : hi < 2 ^ 31) : inI (nI a) (nI lo) (nI hi) = decide (lo ≤ a ∧ a ≤ hi) := by
  unfold inI
  apply decide_eq_decide.mpr
  rw [Int32.le_iff_toInt_le, Int32.le_iff_toInt_le, nI_toInt ha, nI_toInt hl, nI_toInt hh]
  omega
/-- a choice's numbers only -/
def ctP (g : Nat → Nat) (x : Nat) : Nat → Nat → Nat
  | 0 => f0W
  | k + 1 => if x.testBit k = true then dnT opW (g k) (ctP g x k) else ctP g x k
theorem ctP_1 {g : Nat → Nat} {x k : Nat} (h : x.testBit k = true) : ctP g x (k + 1) = dnT opW (g k) (ctP g x k) := by rw [ctP, if_pos h]
theorem ctP_0 {g : Nat → Nat} {x k : Nat} (h : x.testBit k = false) : ctP g x (k + 1) = ctP g x k := by rw [ctP, h, if_neg (by decide)]
def zf (f : Nat → Int64) (i : Nat) : Nat → Int64 := fun j => if 1 ≤ j ∧ j < i then lN 0 else f j
theorem zf0 {f : Nat → Int64} (j : Nat) : f j = zf f 1 j := by unfold zf; rw [if_neg (by omega)]
theorem zfS {f : Nat → Int64} {i : Nat} (h : 1 ≤ i) (j : Nat) : va_up (zf f i) i (lN 0) j = zf f (i + 1) j := by
  unfold va_up zf
  by_cases e : j = i
  · subst e; rw [if_pos rfl, if_pos (by omega)]
  · rw [if_neg e]
    by_cases e2 : 1 ≤ j ∧ j < i
    · rw [if_pos e2, if_pos (by omega)]
    · rw [if_neg e2, if_neg (by omega)]
theorem zfN {f : Nat → Int64} {i j : Nat} (hi : 301 ≤ i) (hj : j < 301) : va_up (zf f i) 0 (lN 1) j = fL f0W j := by
  unfold va_up zf fL f0W
  by_cases e : j = 0
  · subst e; simp
  · simp only [e, if_false]; rw [if_pos (by omega)]
theorem su_divB {v k : Nat} : v / 2 ^ k % 2 = if v.testBit k = true then 1 else 0 := by
  rw [Nat.testBit_eq_decide_div_mod_eq]
  have : v / 2 ^ k % 2 < 2 := Nat.mod_lt _ (by decide)
  by_cases h : v / 2 ^ k % 2 = 1
  · rw [decide_eq_true h, if_pos rfl, h]
  · rw [decide_eq_false h, if_neg (by decide)]; omega
theorem su_shB {v k : Nat} (hv : v < 2 ^ 31) (hk : k < 31) : nI v >>> (nI k &&& 31) = nI (v / 2 ^ k) := pk_shrN hv (nI k &&& 31) k (by
  have : ∀ j, j < 31 → ((nI j &&& 31 : Int32).toBitVec.smod 32).toNat = j := by decide +kernel
  exact this k hk)
theorem su_remB {v k : Nat} (hv : v < 2 ^ 31) : nI (v / 2 ^ k) - nI (v / 2 ^ k) / nI 2 * nI 2 = bI (v.testBit k) := by
  rw [su_irem2 (Nat.lt_of_le_of_lt (Nat.div_le_self _ _) hv), su_divB]
  cases v.testBit k <;> rfl
theorem bI_eq1 {b : Bool} (h : bI b = nI 1) : b = true := by cases b; exact absurd h (by decide); rfl
theorem bI_ne1 {b : Bool} (h : ¬ bI b = nI 1) : b = false := by cases b; rfl; exact absurd (show bI true = nI 1 by decide) h
def sAt (g : Nat → Nat) (x : Nat) : Nat → Nat
  | 0 => 0
  | k + 1 => sAt g x k + (if x.testBit k = true then g k else 0)
section SUAA
variable {p : Program} {l : Launch} {e : Env} {R : Room} {s : State} {m : MethodId} {args : Array Value} {below : List Frame} {meth : Method} {c : Code} {H : Heap} {locs : List Loc} {cells slots : Nat} {Q : State → Prop}
variable {cc : ByteArray} {pc : Nat} {ls : Array Slot} {rest : List Value} {D : va_G} {cl : List vw_C} {A : Nat → Prop} {a : Nat} {tys : List (ClassId × FieldType)} {ws : va_W} {H0 : Heap}
theorem su_aald (hexec : p.tables.exec = Jvm.exec) (hb : c.code = cc) (hK : va_K D cl tys s) (hP : va_P D cl ws H) (q0 t0 : Nat) {cA : ClassId} {C : FieldType} {n : Nat} {f : Nat → Option Nat} (ha : ws[q0]? = some (a, .inl (cA, n, .inr (.inr (.inr (.inr f)))))) (ht : tys[t0]? = some (cA, .array C)) {i : Nat} (hi : i < n) (hn : n < 2 ^ 31) (v : Nat) (hv : f i = some v) (hdg : decode cc pc = .ok (.aaload, 1))
    (kk : W p l e R s m args below meth c H locs cells slots Q (F0 m (pc + 1) ls (.ref v :: rest))) : W p l e R s m args below meth c H locs cells slots Q (F0 m pc ls (.int (nI i) :: .ref a :: rest)) := by
  have hin := vp_in_nI hi hn
  have hcl : (nI i).toNatClampNeg = i := nI_clamp (by omega)
  have hlt : (nI i).toNatClampNeg < n := by rw [hcl]; exact hi
  refine W.aald (v := va_rf (f (nI i).toNatClampNeg)) (ty := .array C) hexec hb (hP q0 _ ha) ((hK.2 t0 _ ht).1 n (fun j => va_rf (f j))) rfl (fun q => by cases q) (by show ¬ (nI i < 0 ∨ (arrV _ _ _).slots.size ≤ _); rw [arrV_size]; exact hin) (by show (arrV _ _ _).slots[_]? = _; rw [arrV_read _ _ hlt]) rfl rfl hdg ?_
  rw [hcl, hv]; exact kk
end SUAA
theorem inI_1 {x y z : Int32} (h1 : ¬ x < y) (h2 : ¬ z < x) : nI 1 = bI (inI x y z) := by
  unfold inI
  rw [decide_eq_true ⟨Int32.not_lt.mp h1, Int32.not_lt.mp h2⟩]; rfl
theorem inI_0a {x y z : Int32} (h1 : x < y) : nI 0 = bI (inI x y z) := by
  unfold inI
  rw [decide_eq_false (fun q => Int32.not_le.mpr h1 q.1)]; rfl
theorem inI_0b {x y z : Int32} (h1 : z < x) : nI 0 = bI (inI x y z) := by
  unfold inI
  rw [decide_eq_false (fun q => Int32.not_le.mpr h1 q.2)]; rfl
theorem ctP_all {g : Nat → Nat} {x : Nat} : ∀ {n : Nat}, (∀ k, k < n → x.testBit k = true) → ctP g x n = fiD opW f0W g n
  | 0, _ => rfl
  | n + 1, h => by rw [ctP_1 (h n (by omega)), ctP_all (fun k hk => h k (by omega))]; rfl
theorem ctP_top (g : Nat → Nat) (n : Nat) : ctP g (2 ^ n - 1) n = fiD opW f0W g n :=
  ctP_all (fun k hk => by rw [Nat.testBit_two_pow_sub_one]; exact decide_eq_true hk)
/-- how few numbers, out of the bits of how many -/
def lowP (p f : Nat) : Prop := (∀ k, p.testBit k = true → f ≤ k) ∧ (f < 301 → p.testBit f = true)
theorem lowP_op {a b x y : Nat} (h1 : lowP a x) (h2 : lowP b y) : lowP (opP a b) (opF x y) := by
  have hb : ∀ k, (opP a b).testBit k = (a.testBit k || (decide (1 ≤ k) && b.testBit (k - 1))) := fun k => by
    unfold opP
    rw [Nat.testBit_or, show b * 2 = b <<< 1 by rw [Nat.shiftLeft_eq], Nat.testBit_shiftLeft]
  unfold lowP opF
  refine ⟨fun k hk => ?_, fun hk => ?_⟩
  · rw [hb, Bool.or_eq_true, Bool.and_eq_true, decide_eq_true_eq] at hk
    rcases hk with q | ⟨q1, q2⟩
    · exact Nat.le_trans (Nat.min_le_left _ _) (h1.1 k q)
    · have := h2.1 (k - 1) q2
      exact Nat.le_trans (Nat.min_le_right _ _) (by omega)
  · rw [hb, Bool.or_eq_true, Bool.and_eq_true, decide_eq_true_eq]
    by_cases q : x ≤ y + 1
    · rw [Nat.min_eq_left q] at hk ⊢
      exact Or.inl (h1.2 hk)
    · rw [Nat.min_eq_right (by omega)] at hk ⊢
      refine Or.inr ⟨by omega, ?_⟩
      rw [Nat.add_sub_cancel]; exact h2.2 (by omega)
theorem lowP_fi (g : Nat → Nat) : ∀ n s, lowP (fiD opP f0W g n s) (fiD opF f0F g n s)
  | 0, s => by
    show lowP (if s = 0 then 1 else 0) (if s = 0 then 0 else 301)
    by_cases h : s = 0
    · rw [if_pos h, if_pos h]; exact ⟨fun k _ => Nat.zero_le k, fun _ => by decide⟩
    · rw [if_neg h, if_neg h]; exact ⟨fun k hk => by rw [Nat.zero_testBit] at hk; exact absurd hk (by decide), fun hk => absurd hk (by decide)⟩
  | n + 1, s => by
    show lowP (dnT opP (g n) (fiD opP f0W g n) s) (dnT opF (g n) (fiD opF f0F g n) s)
    unfold dnT
    by_cases h : g n ≤ s ∧ s ≤ 300
    · rw [if_pos h, if_pos h]; exact lowP_op (lowP_fi g n s) (lowP_fi g n _)
    · rw [if_neg h, if_neg h]; exact lowP_fi g n s
def fwI (F : Nat → Nat) : Nat → Int32 := fun s => if F s < 301 then nI (F s) else -1
theorem fwI_0 {F : Nat → Nat} {s p : Nat} (h : lowP p (F s)) (hp : p = 0) : (-1 : Int32) = fwI F s := by
  unfold fwI
  rw [if_neg (fun q => by have := h.2 q; rw [hp, Nat.zero_testBit] at this; exact absurd this (by decide))]
theorem fwI_k {F : Nat → Nat} {s p k : Nat} (h : lowP p (F s)) (hk : k ≤ F s) (hk2 : k < 301) (hb : p.testBit k = true) : nI k = fwI F s := by
  have := h.1 k hb
  have e : k = F s := by omega
  unfold fwI
  rcases Nat.lt_or_ge (F s) 301 with q | q
  · rw [if_pos q, e]
  · exfalso
    omega
theorem lowP_20 {p f n : Nat} (h : lowP p f) (h0 : p ≠ 0) (hp : p < 2 ^ (n + 1)) (hn : n ≤ 20) : f ≤ 20 ∧ p.testBit f = true := by
  obtain ⟨k, hk⟩ := Nat.exists_testBit_of_ne_zero h0
  have hlt : ∀ j, p.testBit j = true → j ≤ 20 := fun j hj => by
    rcases Nat.lt_or_ge 20 j with q | q
    · have := Nat.testBit_lt_two_pow (Nat.lt_of_lt_of_le hp (Nat.pow_le_pow_right (by decide) (show n + 1 ≤ j by omega)))
      rw [hj] at this; exact absurd this (by decide)
    · exact q
  have h1 := h.1 k hk
  have h2 := hlt k hk
  have h3 := h.2 (by omega)
  exact ⟨hlt f h3, h3⟩
theorem low_lt {p f k : Nat} (hk : k ≤ f) (hf : p.testBit f = true) (h : p.testBit k = false) : k < f := by
  rcases Nat.lt_or_ge k f with q | q
  · exact q
  · rw [show k = f by omega, hf] at h; exact absurd h (by decide)
/-- fewest of any number of times, as the reference finds it -/
def wI (v : Nat) : Int32 := if v < 301 then nI v else -1
theorem wI_lt {v : Nat} (h : wI v < 0) : 301 ≤ v := by
  unfold wI at h
  rcases Nat.lt_or_ge v 301 with q | q
  · rw [if_pos q, Int32.lt_iff_toInt_lt, nI_toInt (by omega)] at h
    have h0 : (0 : Int32).toInt = 0 := by decide
    omega
  · exact q
theorem wI_ge {v : Nat} (h : ¬ wI v < 0) : v < 301 := by
  rcases Nat.lt_or_ge v 301 with q | q
  · exact q
  · exfalso; apply h; unfold wI; rw [if_neg (by omega)]; decide
theorem wI_n {v : Nat} (h : v < 301) : wI v = nI v := if_pos h
theorem fwI_w (F : Nat → Nat) (s : Nat) : fwI F s = wI (F s) := rfl
def pm (F g : Nat → Nat) (s : Nat) : Nat → Nat
  | 0 => 301
  | k + 1 => if g k ≤ s then min (pm F g s k) (F (s - g k) + 1) else pm F g s k
theorem pm_le (F g : Nat → Nat) (s : Nat) : ∀ k, pm F g s k ≤ 301
  | 0 => Nat.le_refl _
  | k + 1 => by
    have := pm_le F g s k
    rw [pm]; split
    · exact Nat.le_trans (Nat.min_le_left _ _) this
    · exact this
theorem pm_lb {F g : Nat → Nat} {s v : Nat} : ∀ {k : Nat}, v ≤ 301 → (∀ j, j < k → g j ≤ s → v ≤ F (s - g j) + 1) → v ≤ pm F g s k
  | 0, h, _ => h
  | k + 1, h, h2 => by
    have ih := pm_lb (F := F) (g := g) (k := k) h (fun j hj => h2 j (by omega))
    rw [pm]; split
    · exact Nat.le_min.mpr ⟨ih, h2 k (by omega) (by assumption)⟩
    · exact ih
theorem pm_ub {F g : Nat → Nat} {s j : Nat} : ∀ {k : Nat}, j < k → g j ≤ s → pm F g s k ≤ F (s - g j) + 1
  | 0, h, _ => absurd h (Nat.not_lt_zero j)
  | k + 1, h, h2 => by
    rw [pm]
    by_cases e : j = k
    · subst e; rw [if_pos h2]; exact Nat.min_le_right _ _
    · have ih := pm_ub (F := F) (g := g) (k := k) (show j < k by omega) h2
      split
      · exact Nat.le_trans (Nat.min_le_left _ _) ih
      · exact ih
theorem pm_F {g : Nat → Nat} {n s : Nat} (hg : ∀ k, k < n → 1 ≤ g k ∧ g k ≤ 300) (h0 : s ≠ 0) (hs : s ≤ 300) : pm (fiU opF f0F g n) g s n = fiU opF f0F g n s := by
  have hg1 : ∀ k, k < n → 1 ≤ g k := fun k hk => (hg k hk).1
  apply Nat.le_antisymm
  · rcases oF_at g n hg1 s hs h0 with q | ⟨k, hk, hk2, hk3⟩
    · rw [q]; exact pm_le _ _ _ _
    · rw [hk3]; exact pm_ub hk hk2
  · exact pm_lb (leF_fiU g n s) (fun j hj hj2 => oF_le g n hg1 s hs j hj hj2)
theorem pm_0 {F g : Nat → Nat} {s k : Nat} (h : s < g k) : pm F g s (k + 1) = pm F g s k := by rw [pm, if_neg (by omega)]
theorem pm_1 {F g : Nat → Nat} {s k : Nat} (h : pm F g s k ≤ F (s - g k) + 1) : pm F g s (k + 1) = pm F g s k := by
  rw [pm]; split
  · exact Nat.min_eq_left h
  · rfl
theorem pm_2 {F g : Nat → Nat} {s k : Nat} (hk : g k ≤ s) (h : F (s - g k) + 1 ≤ pm F g s k) : pm F g s (k + 1) = F (s - g k) + 1 := by
  rw [pm, if_pos hk]; exact Nat.min_eq_right h
theorem su_sublt {a b : Nat} (ha : a < 2 ^ 30) (hb : b < 2 ^ 30) : nI a - nI b < 0 ↔ a < b := by
  have e : (nI a - nI b).toInt = (a : Int) - b := by
    rw [Int32.toInt_sub, nI_toInt (by omega), nI_toInt (by omega), Int.bmod_eq_of_le (by omega) (by omega)]
  have h0 : (0 : Int32).toInt = 0 := by decide
  rw [Int32.lt_iff_toInt_lt, e, h0]; omega
theorem va_upS {f : Nat → Int32} {i : Nat} {x y : Int32} (j : Nat) : upd (va_up f i x) i y j = va_up f i y j := by
  unfold upd va_up; by_cases h : j = i <;> simp [h]
theorem va_up_lo {f : Nat → Int32} {i j : Nat} {x : Int32} (h : j < i) : va_up f i x j = f j := by unfold va_up; rw [if_neg (by omega)]
theorem va_up_at {f : Nat → Int32} {i : Nat} {x : Int32} : va_up f i x i = x := by unfold va_up; rw [if_pos rfl]
theorem su_hitd {f : Nat → Bool} {b : Bool} {u v i : Nat} (h4 : ∀ s, s ≤ u → v < s → f s = !b) (hu : i ≤ u) (hi : v ≤ i) (h : bI (f i) = bI b) : i = v := by
  have h := bI_inj h
  rcases Nat.lt_or_ge v i with q | q
  · have := h4 i hu q
    rw [h] at this; cases b <;> exact absurd this (by decide)
  · omega
theorem up_hg {g : Nat → Nat} {n v : Nat} {P : Nat → Prop} (hv : P v) (hg : ∀ k, k < n → P (g k)) : ∀ k, k < n + 1 → P (va_up g n v k) := by
  intro k hk
  unfold va_up
  by_cases h : k = n
  · rw [if_pos h]; exact hv
  · rw [if_neg h]; exact hg k (by omega)
