/-! arrays of arrays -/
def su_T5 (cI cL cZ cA cB : ClassId) : List (ClassId × FieldType) := [(cI, .int), (cL, .long), (cZ, .boolean), (cA, .array .int), (cB, .array .long)]
def rf2 (a b : Nat) : Nat → Option Nat := fun i => if i = 0 then some a else some b
def sz2 (a b : Nat) : Nat → Nat := fun i => if i = 0 then a else b
theorem su_sz0 {a b v : Nat} (j : Nat) : upd (fN (sz2 a b)) 0 (nI v) j = fN (sz2 v b) j := by
  unfold upd fN sz2
  by_cases h : j = 0
  · subst h; simp
  · simp [h]
theorem su_sz1 {a b v : Nat} (j : Nat) (hj : j < 2) : upd (fN (sz2 a b)) 1 (nI v) j = fN (sz2 a v) j := by
  unfold upd fN sz2
  have h : j = 0 ∨ j = 1 := by omega
  rcases h with h | h <;> subst h <;> simp
theorem su_irem2 {v : Nat} (h : v < 2 ^ 31) : nI v - nI v / nI 2 * nI 2 = nI (v % 2) := by
  apply Int32.toInt_inj.mp
  have e1 := nI_toInt h
  have e2 : (nI 2).toInt = 2 := by decide
  have e3 : (nI v / nI 2).toInt = (v / 2 : Nat) := by
    have e4 : ((v : Nat) : Int).tdiv 2 = ((v / 2 : Nat) : Int) := rfl
    rw [Int32.toInt_div, e1, e2, e4, Int.bmod_eq_of_le (by omega) (by omega)]
  rw [Int32.toInt_sub, Int32.toInt_mul, e3, e1, e2, nI_toInt (show v % 2 < 2 ^ 31 by omega)]
  rw [Int.bmod_eq_of_le (n := ((v / 2 : Nat) : Int) * 2) (by omega) (by omega), Int.bmod_eq_of_le (by omega) (by omega)]
  omega
def inI (x lo hi : Int32) : Bool := decide (lo ≤ x ∧ x ≤ hi)
theorem inI_n {a lo hi : Nat} (ha : a < 2 ^ 31) (hl : lo < 2 ^ 31) (hh : hi < 2 ^ 31) : inI (nI a) (nI lo) (nI hi) = decide (lo ≤ a ∧ a ≤ hi) := by
  unfold inI
  apply decide_eq_decide.mpr
  rw [Int32.le_iff_toInt_le, Int32.le_iff_toInt_le, nI_toInt ha, nI_toInt hl, nI_toInt hh]
  omega
/-- a choice's numbers only -/
def ctP (g : Nat → Nat) (x : Nat) : Nat → Nat → Nat
  | 0 => f0W
  | k + 1 => if x.testBit k = true then dnT opW (g k) (ctP g x k) else ctP g x k
theorem ctP_1 {g : Nat → Nat} {x k : Nat} (h : x.testBit k = true) : ctP g x (k + 1) = dnT opW (g k) (ctP g x k) := by rw [ctP, if_pos h]
theorem ctP_0 {g : Nat → Nat} {x k : Nat} (h : x.testBit k = false) : ctP g x (k + 1) = ctP g x k := by rw [ctP, h, if_neg (by decide)]
def zf (f : Nat → Int64) (i : Nat) : Nat → Int64 := fun j => if 1 ≤ j ∧ j < i then lN 0 else f j
theorem zf0 {f : Nat → Int64} (j : Nat) : f j = zf f 1 j := by unfold zf; rw [if_neg (by omega)]
theorem zfS {f : Nat → Int64} {i : Nat} (h : 1 ≤ i) (j : Nat) : va_up (zf f i) i (lN 0) j = zf f (i + 1) j := by
  unfold va_up zf
  by_cases e : j = i
  · subst e; rw [if_pos rfl, if_pos (by omega)]
  · rw [if_neg e]
    by_cases e2 : 1 ≤ j ∧ j < i
    · rw [if_pos e2, if_pos (by omega)]
    · rw [if_neg e2, if_neg (by omega)]
theorem zfN {f : Nat → Int64} {i j : Nat} (hi : 301 ≤ i) (hj : j < 301) : va_up (zf f i) 0 (lN 1) j = fL f0W j := by
  unfold va_up zf fL f0W
  by_cases e : j = 0
  · subst e; simp
  · simp only [e, if_false]; rw [if_pos (by omega)]
theorem su_divB {v k : Nat} : v / 2 ^ k % 2 = if v.testBit k = true then 1 else 0 := by
  rw [Nat.testBit_eq_decide_div_mod_eq]
  have : v / 2 ^ k % 2 < 2 := Nat.mod_lt _ (by decide)
  by_cases h : v / 2 ^ k % 2 = 1
  · rw [decide_eq_true h, if_pos rfl, h]
  · rw [decide_eq_false h, if_neg (by decide)]; omega
theorem su_shB {v k : Nat} (hv : v < 2 ^ 31) (hk : k < 31) : nI v >>> (nI k &&& 31) = nI (v / 2 ^ k) := pk_shrN hv (nI k &&& 31) k (by
  have : ∀ j, j < 31 → ((nI j &&& 31 : Int32).toBitVec.smod 32).toNat = j := by decide +kernel
  exact this k hk)
theorem su_remB {v k : Nat} (hv : v < 2 ^ 31) : nI (v / 2 ^ k) - nI (v / 2 ^ k) / nI 2 * nI 2 = bI (v.testBit k) := by
  rw [su_irem2 (Nat.lt_of_le_of_lt (Nat.div_le_self _ _) hv), su_divB]
  cases v.testBit k <;> rfl
theorem bI_eq1 {b : Bool} (h : bI b = nI 1) : b = true := by cases b; exact absurd h (by decide); rfl
theorem bI_ne1 {b : Bool} (h : ¬ bI b = nI 1) : b = false := by cases b; rfl; exact absurd (show bI true = nI 1 by decide) h
def sAt (g : Nat → Nat) (x : Nat) : Nat → Nat
  | 0 => 0
  | k + 1 => sAt g x k + (if x.testBit k = true then g k else 0)
section SUAA
variable {p : Program} {l : Launch} {e : Env} {R : Room} {s : State} {m : MethodId} {args : Array Value} {below : List Frame} {meth : Method} {c : Code} {H : Heap} {locs : List Loc} {cells slots : Nat} {Q : State → Prop}
variable {cc : ByteArray} {pc : Nat} {ls : Array Slot} {rest : List Value} {D : va_G} {cl : List vw_C} {A : Nat → Prop} {a : Nat} {tys : List (ClassId × FieldType)} {ws : va_W} {H0 : Heap}
theorem su_aald (hexec : p.tables.exec = Jvm.exec) (hb : c.code = cc) (hK : va_K D cl tys s) (hP : va_P D cl ws H) (q0 t0 : Nat) {cA : ClassId} {C : FieldType} {n : Nat} {f : Nat → Option Nat} (ha : ws[q0]? = some (a, .inl (cA, n, .inr (.inr (.inr (.inr f)))))) (ht : tys[t0]? = some (cA, .array C)) {i : Nat} (hi : i < n) (hn : n < 2 ^ 31) (v : Nat) (hv : f i = some v) (hdg : decode cc pc = .ok (.aaload, 1))
    (kk : W p l e R s m args below meth c H locs cells slots Q (F0 m (pc + 1) ls (.ref v :: rest))) : W p l e R s m args below meth c H locs cells slots Q (F0 m pc ls (.int (nI i) :: .ref a :: rest)) := by
  have hin := vp_in_nI hi hn
  have hcl : (nI i).toNatClampNeg = i := nI_clamp (by omega)
  have hlt : (nI i).toNatClampNeg < n := by rw [hcl]; exact hi
  refine W.aald (v := va_rf (f (nI i).toNatClampNeg)) (ty := .array C) hexec hb (hP q0 _ ha) ((hK.2 t0 _ ht).1 n (fun j => va_rf (f j))) rfl (fun q => by cases q) (by show ¬ (nI i < 0 ∨ (arrV _ _ _).slots.size ≤ _); rw [arrV_size]; exact hin) (by show (arrV _ _ _).slots[_]? = _; rw [arrV_read _ _ hlt]) rfl rfl hdg ?_
  rw [hcl, hv]; exact kk
end SUAA
theorem inI_1 {x y z : Int32} (h1 : ¬ x < y) (h2 : ¬ z < x) : nI 1 = bI (inI x y z) := by
  unfold inI
  rw [decide_eq_true ⟨Int32.not_lt.mp h1, Int32.not_lt.mp h2⟩]; rfl
theorem inI_0a {x y z : Int32} (h1 : x < y) : nI 0 = bI (inI x y z) := by
  unfold inI
  rw [decide_eq_false (fun q => Int32.not_le.mpr h1 q.1)]; rfl
theorem inI_0b {x y z : Int32} (h1 : z < x) : nI 0 = bI (inI x y z) := by
  unfold inI
  rw [decide_eq_false (fun q => Int32.not_le.mpr h1 q.2)]; rfl
