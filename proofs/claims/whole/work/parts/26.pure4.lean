/-! rows of sums: a number taken once at most (downwards), any number of times (upwards) -/
def dnP {α : Type} (op : α → α → α) (num : Nat) (f : Nat → α) (t : Nat) : Nat → α := fun s => if t < s ∧ num ≤ s ∧ s ≤ 300 then op (f s) (f (s - num)) else f s
def dnT {α : Type} (op : α → α → α) (num : Nat) (f : Nat → α) : Nat → α := fun s => if num ≤ s ∧ s ≤ 300 then op (f s) (f (s - num)) else f s
theorem dnP_0 {α : Type} {op : α → α → α} {num : Nat} {f : Nat → α} (s : Nat) : f s = dnP op num f 300 s := by
  unfold dnP; rw [if_neg (by omega)]
theorem dnP_at {α : Type} {op : α → α → α} {num : Nat} {f : Nat → α} {t s : Nat} (h : s ≤ t) : dnP op num f t s = f s := by
  unfold dnP; rw [if_neg (by omega)]
theorem dnP_S {α : Type} {op : α → α → α} {num : Nat} {f : Nat → α} {t : Nat} (h1 : 1 ≤ num) (h : num ≤ t) (h2 : t ≤ 300) (s : Nat) : va_up (dnP op num f t) t (op (dnP op num f t t) (dnP op num f t (t - num))) s = dnP op num f (t - 1) s := by
  rw [dnP_at (Nat.le_refl t), dnP_at (by omega)]
  unfold va_up dnP
  by_cases hs : s = t
  · subst hs
    rw [if_pos rfl, if_pos (by omega)]
  · rw [if_neg hs]
    by_cases h3 : t < s ∧ num ≤ s ∧ s ≤ 300
    · rw [if_pos h3, if_pos (by omega)]
    · rw [if_neg h3, if_neg (by omega)]
theorem dnP_T {α : Type} {op : α → α → α} {num : Nat} {f : Nat → α} {t : Nat} (h : t < num) (s : Nat) : dnP op num f t s = dnT op num f s := by
  unfold dnP dnT
  by_cases h3 : num ≤ s ∧ s ≤ 300
  · rw [if_pos h3, if_pos (by omega)]
  · rw [if_neg h3, if_neg (by omega)]
def upP {α : Type} (op : α → α → α) (num : Nat) (f : Nat → α) : Nat → Nat → α
  | 0 => f
  | t + 1 => if num ≤ t then va_up (upP op num f t) t (op (upP op num f t t) (upP op num f t (t - num))) else upP op num f t
theorem upP_lo {α : Type} {op : α → α → α} {num : Nat} {f : Nat → α} : ∀ {t : Nat}, t ≤ num → upP op num f t = f
  | 0, _ => rfl
  | t + 1, h => by rw [upP, if_neg (by omega)]; exact upP_lo (by omega)
theorem upP_S {α : Type} {op : α → α → α} {num : Nat} {f : Nat → α} {t : Nat} (h : num ≤ t) : va_up (upP op num f t) t (op (upP op num f t t) (upP op num f t (t - num))) = upP op num f (t + 1) := by
  rw [upP, if_pos h]
def upT {α : Type} (op : α → α → α) (num : Nat) (f : Nat → α) : Nat → α := upP op num f 301
/-- all numbers of a hoard -/
def fiD {α : Type} (op : α → α → α) (f0 : Nat → α) (g : Nat → Nat) : Nat → Nat → α
  | 0 => f0
  | i + 1 => dnT op (g i) (fiD op f0 g i)
def fiU {α : Type} (op : α → α → α) (f0 : Nat → α) (g : Nat → Nat) : Nat → Nat → α
  | 0 => f0
  | i + 1 => upT op (g i) (fiU op f0 g i)
def opW (a b : Nat) : Nat := a + b
def opF (a b : Nat) : Nat := min a (b + 1)
def opP (a b : Nat) : Nat := a ||| (b * 2)
def opS (a b : Bool) : Bool := a || b
def f0W : Nat → Nat := fun s => if s = 0 then 1 else 0
def f0F : Nat → Nat := fun s => if s = 0 then 0 else 301
def f0S : Nat → Bool := fun s => decide (s = 0)
/-- values of FewestRow stay up to 301 -/
def leF (f : Nat → Nat) : Prop := ∀ s, f s ≤ 301
theorem leF_0 : leF f0F := fun s => by unfold f0F; split <;> omega
theorem leF_op {f : Nat → Nat} (h : leF f) (x y : Nat) : opF (f x) (f y) ≤ 301 := by
  have := h x
  unfold opF; omega
theorem leF_P {f : Nat → Nat} (h : leF f) (num t : Nat) : leF (dnP opF num f t) := fun s => by
  unfold dnP; split
  · exact leF_op h _ _
  · exact h s
theorem leF_T {f : Nat → Nat} (h : leF f) (num : Nat) : leF (dnT opF num f) := fun s => by
  unfold dnT; split
  · exact leF_op h _ _
  · exact h s
theorem leF_up {f : Nat → Nat} (h : leF f) (num : Nat) : ∀ t, leF (upP opF num f t)
  | 0 => h
  | t + 1 => by
    have ih := leF_up h num t
    intro s
    rw [upP]
    split
    · unfold va_up; split
      · exact leF_op ih _ _
      · exact ih s
    · exact ih s
theorem leF_fiD (g : Nat → Nat) : ∀ n, leF (fiD opF f0F g n)
  | 0 => leF_0
  | n + 1 => leF_T (leF_fiD g n) _
theorem leF_fiU (g : Nat → Nat) : ∀ n, leF (fiU opF f0F g n)
  | 0 => leF_0
  | n + 1 => leF_up (leF_fiU g n) _ _
theorem su_min {a b : Nat} (ha : a ≤ 301) (hb : b ≤ 301) : (if nI (b + 1) < nI a then nI (b + 1) else nI a) = nI (opF a b) := by
  unfold opF
  by_cases h : b + 1 < a
  · rw [if_pos (nI_lt h (by omega)), Nat.min_eq_right (by omega)]
  · rw [if_neg (nI_nlt (by omega) (by omega)), Nat.min_eq_left (by omega)]
theorem su_or32 (a b : Nat) : nI a ||| nI b = nI (a ||| b) := by
  apply Int32.toBitVec_inj.mp
  rw [Int32.toBitVec_or]
  show BitVec.ofNat 32 a ||| BitVec.ofNat 32 b = BitVec.ofNat 32 (a ||| b)
  apply BitVec.eq_of_getLsbD_eq
  intro i hi
  rw [BitVec.getLsbD_or, BitVec.getLsbD_ofNat, BitVec.getLsbD_ofNat, BitVec.getLsbD_ofNat, Nat.testBit_or]
  cases decide (i < 32) <;> simp
theorem su_shl1 (a : Nat) : nI a <<< (nI 1 &&& 31) = nI (a * 2) := by
  apply Int32.toBitVec_inj.mp
  apply BitVec.eq_of_toNat_eq
  rw [pk_shl (nI a) (nI 1 &&& 31) 1 (by decide +kernel)]
  show (BitVec.ofNat 32 a).toNat * 2 ^ 1 % 2 ^ 32 = (BitVec.ofNat 32 (a * 2)).toNat
  rw [BitVec.toNat_ofNat, BitVec.toNat_ofNat]
  omega
theorem su_orB (a b : Bool) : bI a ||| bI b = bI (opS a b) := by cases a <;> cases b <;> decide
theorem su_pbit {v k : Nat} (hv : v < 2 ^ 31) (hk : k ≤ 20) : (nI v >>> (nI k &&& 31)) &&& nI 1 = bI (v.testBit k) := by
  rw [pk_shrN hv (nI k &&& 31) k (s_l k (by omega)), pk_andN (Nat.lt_of_le_of_lt (Nat.div_le_self _ _) (by omega)) (m := nI 1) 1 (by decide +kernel), Nat.testBit_eq_decide_div_mod_eq]
  by_cases h : v / 2 ^ k % 2 = 1
  · rw [Nat.pow_one, h]; simp [bI]; decide
  · have : v / 2 ^ k % 2 = 0 := by omega
    rw [Nat.pow_one, this]; simp [bI]; decide
def su_ct (f : Nat → Bool) : Nat → Nat
  | 0 => 0
  | m + 1 => su_ct f m + (if f m = true then 1 else 0)
def su_endB (f : Nat → Bool) : Nat → Nat
  | 0 => 0
  | m + 1 => if f m = true then m + 1 else su_endB f m
theorem su_endB_hit {f : Nat → Bool} {i : Nat} (h0 : 0 < i) (h : f (i - 1) = true) : su_endB f i = i := by
  obtain ⟨k, rfl⟩ : ∃ k, i = k + 1 := ⟨i - 1, by omega⟩
  rw [Nat.add_sub_cancel] at h
  rw [su_endB, if_pos h]
theorem su_endB_miss {f : Nat → Bool} {i : Nat} (h0 : 0 < i) (h : f (i - 1) = false) : su_endB f i = su_endB f (i - 1) := by
  obtain ⟨k, rfl⟩ : ∃ k, i = k + 1 := ⟨i - 1, by omega⟩
  rw [Nat.add_sub_cancel] at h ⊢
  rw [su_endB, h, if_neg (by decide)]
theorem su_ct_le (f : Nat → Bool) : ∀ m, su_ct f m ≤ m
  | 0 => Nat.le_refl _
  | m + 1 => by
    have := su_ct_le f m
    show su_ct f m + _ ≤ m + 1
    split <;> omega
/-- leaveOut -/
def loP (num : Nat) (f : Nat → Nat) (t : Nat) : Nat → Nat := fun s => if s < t then f s else dnT opW num f s
theorem loP_0 {num : Nat} {f : Nat → Nat} {s : Nat} : fL (dnT opW num f) s = fL (loP num f num) s := by
  unfold fL loP dnT
  by_cases h : s < num
  · rw [if_pos h, if_neg (by omega)]
  · rw [if_neg h]
theorem loP_at {num : Nat} {f : Nat → Nat} {t : Nat} (h : num ≤ t) (h2 : t ≤ 300) : loP num f t t = f t + f (t - num) := by
  unfold loP dnT; rw [if_neg (by omega), if_pos (by omega)]; rfl
theorem loP_lo {num : Nat} {f : Nat → Nat} {t s : Nat} (h : s < t) : loP num f t s = f s := by
  unfold loP; rw [if_pos h]
theorem loP_S {num : Nat} {f : Nat → Nat} {t : Nat} (s : Nat) : fL (va_up (loP num f t) t (f t)) s = fL (loP num f (t + 1)) s := by
  unfold fL va_up loP
  congr 1
  by_cases h : s = t
  · subst h; rw [if_pos rfl, if_pos (by omega)]
  · rw [if_neg h]
    by_cases h2 : s < t
    · rw [if_pos h2, if_pos (by omega)]
    · rw [if_neg h2, if_neg (by omega)]
theorem loP_N {num : Nat} {f : Nat → Nat} {t s : Nat} (h : s < t) : fL (loP num f t) s = fL f s := by
  unfold fL; rw [loP_lo h]
theorem su_f0 {α : Type} {f g : Nat → α} (h : f = g) (s : Nat) : f s = g s := by rw [h]
/-! shift rows and count rows as one natural number -/
def shV (g : Nat → Nat) : Nat → Nat
  | 0 => 1
  | i + 1 => shV g i ||| shV g i <<< g i
theorem shV_lt (g : Nat → Nat) : ∀ i, shV g i < 2 ^ (su_sm g i + 1)
  | 0 => show 1 < 2 ^ (0 + 1) by decide
  | i + 1 => by
    have ih := shV_lt g i
    rw [shV, su_sm]
    apply Nat.or_lt_two_pow
    · exact Nat.lt_of_lt_of_le ih (Nat.pow_le_pow_right (by decide) (by omega))
    · rw [Nat.shiftLeft_eq, show su_sm g i + g i + 1 = (su_sm g i + 1) + g i by omega, Nat.pow_add]
      exact Nat.mul_lt_mul_of_pos_right ih (Nat.two_pow_pos _)
theorem su_sm_mono (g : Nat → Nat) {i n : Nat} (h : i ≤ n) : su_sm g i ≤ su_sm g n := by
  obtain ⟨k, rfl⟩ := Nat.exists_eq_add_of_le h
  induction k with
  | zero => exact Nat.le_refl _
  | succ k ih => exact Nat.le_trans (ih (by omega)) (by show su_sm g (i + k) ≤ su_sm g (i + k) + g (i + k); omega)
theorem shV_320 {g : Nat → Nat} {i n : Nat} (h : i ≤ n) (hT : su_sm g n ≤ 300) : shV g i < 2 ^ (64 * 5) :=
  Nat.lt_of_lt_of_le (shV_lt g i) (Nat.pow_le_pow_right (by decide) (by have := su_sm_mono g h; omega))
def ofP (V num : Nat) : Nat → Nat
  | 0 => V
  | t + 1 => (ofP V num t ||| ofP V num t <<< (num * 2 ^ t)) &&& (2 ^ 301 - 1)
theorem ofP_lt {V num : Nat} (h : V < 2 ^ 301) : ∀ t, ofP V num t < 2 ^ 301
  | 0 => h
  | t + 1 => by
    rw [ofP]
    exact Nat.lt_of_le_of_lt Nat.and_le_right (by decide)
theorem ofP_stab {V num t : Nat} (h : V < 2 ^ 301) (h2 : 300 < num * 2 ^ t) : ∀ k, ofP V num (t + k) = ofP V num t
  | 0 => rfl
  | k + 1 => by
    have ih := ofP_stab h h2 k
    show (ofP V num (t + k) ||| ofP V num (t + k) <<< (num * 2 ^ (t + k))) &&& (2 ^ 301 - 1) = ofP V num t
    rw [ih]
    have hw := ofP_lt (num := num) h t
    generalize ofP V num t = W at hw ⊢
    have hb : 301 ≤ num * 2 ^ (t + k) := by
      have : num * 2 ^ t ≤ num * 2 ^ (t + k) := Nat.mul_le_mul_left _ (Nat.pow_le_pow_right (by decide) (by omega))
      omega
    apply Nat.eq_of_testBit_eq
    intro j
    rw [Nat.testBit_and, Nat.testBit_or, Nat.testBit_shiftLeft, Nat.testBit_two_pow_sub_one]
    by_cases hj : j < 301
    · rw [decide_eq_true hj, decide_eq_false (by omega : ¬ num * 2 ^ (t + k) ≤ j), Bool.and_true, Bool.false_and, Bool.or_false]
    · rw [decide_eq_false hj, Bool.and_false]
      exact (Nat.testBit_lt_two_pow (Nat.lt_of_lt_of_le hw (Nat.pow_le_pow_right (by decide) (by omega)))).symm
theorem ofP_9 {V num t : Nat} (h : V < 2 ^ 301) (h2 : 300 < num * 2 ^ t) (ht : t ≤ 9) : ofP V num t = ofP V num 9 := by
  have := ofP_stab h h2 (9 - t)
  rw [show t + (9 - t) = 9 by omega] at this
  exact this.symm
theorem ofP_t9 {num t : Nat} (h1 : 1 ≤ num) (h : num * 2 ^ t ≤ 300) : t < 9 := by
  rcases Nat.lt_or_ge t 9 with q | q
  · exact q
  · have h3 : 2 ^ 9 ≤ 2 ^ t := Nat.pow_le_pow_right (by decide) q
    have h4 : 1 * 2 ^ t ≤ num * 2 ^ t := Nat.mul_le_mul_right _ h1
    omega
def ofV (g : Nat → Nat) : Nat → Nat
  | 0 => 1
  | i + 1 => ofP (ofV g i) (g i) 9
theorem ofV_lt (g : Nat → Nat) : ∀ i, ofV g i < 2 ^ 301
  | 0 => show 1 < 2 ^ 301 by decide
  | i + 1 => ofP_lt (ofV_lt g i) 9
def cnV (g : Nat → Nat) : Nat → Nat
  | 0 => 1
  | i + 1 => cnV g i + cnV g i <<< (21 * g i)
theorem cnV_lt (g : Nat → Nat) : ∀ i, cnV g i < 2 ^ (21 * su_sm g i + i + 1)
  | 0 => show 1 < 2 ^ (21 * 0 + 0 + 1) by decide
  | i + 1 => by
    have ih := cnV_lt g i
    rw [cnV, su_sm, Nat.shiftLeft_eq]
    have h1 : cnV g i * 2 ^ (21 * g i) < 2 ^ (21 * su_sm g i + i + 1) * 2 ^ (21 * g i) := Nat.mul_lt_mul_of_pos_right ih (Nat.two_pow_pos _)
    rw [← Nat.pow_add] at h1
    have h2 : 2 ^ (21 * su_sm g i + i + 1) ≤ 2 ^ (21 * su_sm g i + i + 1 + 21 * g i) := Nat.pow_le_pow_right (by decide) (by omega)
    have h3 : 2 ^ (21 * (su_sm g i + g i) + (i + 1) + 1) = 2 * 2 ^ (21 * su_sm g i + i + 1 + 21 * g i) := by
      rw [← Nat.pow_succ']; congr 1; omega
    rw [h3]; omega
theorem cnV_99 {g : Nat → Nat} {i n : Nat} (h : i ≤ n) (hn : n ≤ 20) (hT : su_sm g n ≤ 300) : cnV g i < 2 ^ (64 * 99) :=
  Nat.lt_of_lt_of_le (cnV_lt g i) (Nat.pow_le_pow_right (by decide) (by have := su_sm_mono g h; omega))
def cnC (g : Nat → Nat) (n : Nat) : Nat → Nat := fun s => (cnV g n >>> (21 * s)) % 2 ^ 21
theorem su_mask21 (a : Nat) : lN a &&& 2097151 = lN (a % 2 ^ 21) := fb_maskL a 21
theorem su_sm_le {g : Nat → Nat} {k n : Nat} (h : k < n) : g k ≤ su_sm g n := by
  have := su_sm_mono g (show k + 1 ≤ n from h)
  have e : su_sm g (k + 1) = su_sm g k + g k := rfl
  omega
theorem be_W1 {i : Nat} (h : i = 0) : lN 1 = fL f0W i := by subst h; rfl
theorem be_W0 {i : Nat} (h : i ≠ 0) : lN 0 = fL f0W i := by unfold fL f0W; rw [if_neg h]
theorem be_P1 {i : Nat} (h : i = 0) : nI 1 = fN f0W i := by subst h; rfl
theorem be_P0 {i : Nat} (h : i ≠ 0) : nI 0 = fN f0W i := by unfold fN f0W; rw [if_neg h]
theorem be_F1 {i : Nat} (h : i = 0) : nI 0 = fN f0F i := by subst h; rfl
theorem be_F0 {i : Nat} (h : i ≠ 0) : nI 301 = fN f0F i := by unfold fN f0F; rw [if_neg h]
theorem be_S1 {i : Nat} (h : i = 0) : nI 1 = fB f0S i := by subst h; decide
theorem be_S0 {i : Nat} (h : i ≠ 0) : nI 0 = fB f0S i := by unfold fB f0S; rw [decide_eq_false h]; decide
