/-! long words of one natural number -/
def bW (V : Nat) : Nat → Int64 := fun i => lN (V >>> (64 * i))
def su_fl {α : Type} (f g : Nat → α) (i : Nat) : Nat → α := fun j => if j < i then f j else g j
theorem su_fl0 {α : Type} {f g : Nat → α} (j : Nat) : g j = su_fl f g 0 j := by simp [su_fl]
theorem su_flS {α : Type} {f g : Nat → α} {i : Nat} {x : α} (h : x = f i) (j : Nat) : va_up (su_fl f g i) i x j = su_fl f g (i + 1) j := by
  simp only [va_up, su_fl]
  by_cases hj : j = i
  · rw [if_pos hj, if_pos (by omega), h, hj]
  · rw [if_neg hj]
    by_cases h2 : j < i
    · rw [if_pos h2, if_pos (by omega)]
    · rw [if_neg h2, if_neg (by omega)]
theorem su_flN {α : Type} {f g : Nat → α} {n j : Nat} (h : j < n) : su_fl f g n j = f j := by simp [su_fl, h]
theorem su_flA {α : Type} {f g : Nat → α} (i : Nat) : su_fl f g i i = g i := by simp [su_fl]
theorem su_flB {α : Type} {f g : Nat → α} {i j : Nat} (h : i ≤ j) : su_fl f g i j = g j := by
  simp only [su_fl]; rw [if_neg (by omega)]
/-- lN and its remainder -/
theorem su_lNe {a b : Nat} (h : a % 2 ^ 64 = b % 2 ^ 64) : lN a = lN b := by rw [wb_mod a, wb_mod b, h]
theorem su_lNi {a b : Nat} (h : lN a = lN b) : a % 2 ^ 64 = b % 2 ^ 64 := by
  have h1 := congrArg Int64.toBitVec h
  rw [wb_tb, wb_tb] at h1
  have h2 := congrArg BitVec.toNat h1
  simpa [BitVec.toNat_ofNat] using h2
theorem su_bW0 {V nw i : Nat} (hV : V < 2 ^ (64 * nw)) (h : nw ≤ i) : V >>> (64 * i) = 0 := by
  rw [Nat.shiftRight_eq_div_pow]
  apply Nat.div_eq_of_lt
  exact Nat.lt_of_lt_of_le hV (Nat.pow_le_pow_right (by decide) (by omega))
/-- wordAt -/
def wA (V : Nat) (x : Int32) : Int64 := if x < 0 then lN 0 else lN (V >>> (64 * x.toNatClampNeg))
theorem wA_n {V i : Nat} (hi : i < 2 ^ 31) : wA V (nI i) = lN (V >>> (64 * i)) := by
  unfold wA; rw [if_neg (nI_pos hi), nI_clamp hi]
theorem wA_neg {V : Nat} {x : Int32} (h : x < 0) : lN 0 = wA V x := by unfold wA; rw [if_pos h]
theorem wA_out {V nw : Nat} {x : Int32} (hV : V < 2 ^ (64 * nw)) (hn : nw ≤ 99) (h0 : ¬ x < 0) (h : nI nw ≤ x) : lN 0 = wA V x := by
  obtain ⟨j, hj, rfl⟩ := nI_of h0
  rw [wA_n hj, su_bW0 hV (su_ge (by omega) hj h)]
theorem wA_in {V : Nat} {x : Int32} {f : Nat → Int64} (h0 : ¬ x < 0) (h : f = bW V) : f x.toNatClampNeg = wA V x := by
  subst h; unfold wA bW; rw [if_neg h0]
/-- isSet -/
theorem su_shl0 (k : Nat) : ((nI 6 &&& 31 : Int32).toBitVec.smod 32).toNat = 6 := by decide +kernel
theorem su_s6 {n : Nat} (h : n < 2 ^ 31) : nI n >>> (nI 6 &&& 31) = nI (n / 64) := pk_shrN h (nI 6 &&& 31) 6 (by decide +kernel)
theorem su_a63 {n : Nat} (h : n < 2 ^ 32) : nI n &&& nI 63 = nI (n % 64) := pk_andN h (m := nI 63) 6 (by decide +kernel)
theorem su_lu {n k : Nat} (hk : k < 64) : ((lN n).toUInt64 >>> ((nI k).toInt64.toUInt64 &&& Int64.toUInt64 63)).toInt64 = lN (n % 2 ^ 64 / 2 ^ k) := by
  rw [wb_mod n]; exact wb_shr (Nat.mod_lt _ (by decide)) hk
theorem su_lw (n : Nat) {k : Nat} (hk : k < 64) : lN n <<< ((nI k).toInt64 &&& 63) = lN (n * 2 ^ k) := wb_shl n hk
def bL (b : Bool) : Int64 := if b = true then 1 else 0
theorem su_tbw (V s : Nat) : V >>> (64 * (s / 64)) % 2 ^ 64 / 2 ^ (s % 64) % 2 = if V.testBit s = true then 1 else 0 := by
  have h1 : V.testBit s = (V >>> (64 * (s / 64)) % 2 ^ 64).testBit (s % 64) := by
    rw [Nat.testBit_mod_two_pow, Nat.testBit_shiftRight]
    have : s % 64 < 64 := Nat.mod_lt _ (by decide)
    rw [decide_eq_true this, Bool.true_and]
    congr 1
    omega
  rw [h1, Nat.testBit_eq_decide_div_mod_eq]
  by_cases h : V >>> (64 * (s / 64)) % 2 ^ 64 / 2 ^ (s % 64) % 2 = 1
  · simp [h]
  · have : V >>> (64 * (s / 64)) % 2 ^ 64 / 2 ^ (s % 64) % 2 = 0 := by omega
    simp [this]
theorem su_isSet (V : Nat) {s : Nat} : ((lN (V >>> (64 * (s / 64)))).toUInt64 >>> ((nI (s % 64)).toInt64.toUInt64 &&& Int64.toUInt64 63)).toInt64 &&& lN 1 = lN (if V.testBit s = true then 1 else 0) := by
  rw [su_lu (Nat.mod_lt _ (by decide)), show lN 1 = (1 : Int64) from rfl, wb_a1 (Nat.lt_of_le_of_lt (Nat.div_le_self _ _) (Nat.mod_lt _ (by decide))), su_tbw]
theorem su_cmpB (b : Bool) : lg_cmp (lN (if b = true then 1 else 0)) (lN 0) = bI b := by cases b <;> decide +kernel
/-- fieldAt -/
theorem su_field0 {V p : Nat} (h : p % 64 = 0) : lN (V >>> (64 * (p / 64)) % 2 ^ 64 / 2 ^ (p % 64)) = lN (V >>> p) := by
  rw [h, Nat.pow_zero, Nat.div_one, ← wb_mod]
  congr 2
  omega
theorem su_field1 {V p : Nat} (h : p % 64 ≠ 0) : lN (V >>> (64 * (p / 64)) % 2 ^ 64 / 2 ^ (p % 64)) ||| lN (V >>> (64 * (p / 64 + 1)) * 2 ^ (64 - p % 64)) = lN (V >>> p) := by
  rw [fb_orL]
  apply su_lNe
  apply Nat.eq_of_testBit_eq
  intro j
  have hr : p % 64 < 64 := Nat.mod_lt _ (by decide)
  rw [Nat.testBit_mod_two_pow, Nat.testBit_mod_two_pow, Nat.testBit_or, Nat.testBit_div_two_pow, Nat.testBit_mod_two_pow, Nat.testBit_shiftRight, Nat.testBit_mul_two_pow, Nat.testBit_shiftRight, Nat.testBit_shiftRight]
  by_cases hj : j < 64
  · rw [decide_eq_true hj, Bool.true_and, Bool.true_and]
    by_cases h1 : j + p % 64 < 64
    · rw [decide_eq_true h1, decide_eq_false (by omega), Bool.true_and, Bool.false_and, Bool.or_false]
      congr 1; omega
    · rw [decide_eq_false h1, decide_eq_true (by omega), Bool.true_and, Bool.false_and, Bool.false_or]
      congr 1; omega
  · rw [decide_eq_false hj, Bool.false_and, Bool.false_and]
/-- bits that are set below m; the least end above all that are set -/
def su_pc (V : Nat) : Nat → Nat
  | 0 => 0
  | m + 1 => su_pc V m + (if V.testBit m = true then 1 else 0)
theorem su_pc_add (V m : Nat) : ∀ k, su_pc V (m + k) = su_pc V m + su_pc (V >>> m) k
  | 0 => rfl
  | k + 1 => by
    show su_pc V (m + k) + _ = su_pc V m + (su_pc (V >>> m) k + _)
    rw [su_pc_add V m k, Nat.testBit_shiftRight, Nat.add_assoc]
    rfl
theorem su_pc_cong {V F : Nat} : ∀ {m : Nat}, (∀ j, j < m → V.testBit j = F.testBit j) → su_pc V m = su_pc F m
  | 0, _ => rfl
  | m + 1, h => by
    show su_pc V m + _ = su_pc F m + _
    rw [su_pc_cong (fun j hj => h j (by omega)), h m (by omega)]
theorem su_pc_mod (V m : Nat) : su_pc (V % 2 ^ m) m = su_pc V m :=
  su_pc_cong (fun j hj => by rw [Nat.testBit_mod_two_pow, decide_eq_true hj, Bool.true_and])
def su_end (V : Nat) : Nat → Nat
  | 0 => 0
  | m + 1 => if V.testBit m = true then m + 1 else su_end V m
theorem su_end_hit {V i : Nat} (h0 : 0 < i) (h : V.testBit (i - 1) = true) : su_end V i = i := by
  obtain ⟨k, rfl⟩ : ∃ k, i = k + 1 := ⟨i - 1, by omega⟩
  rw [Nat.add_sub_cancel] at h
  rw [su_end, if_pos h]
theorem su_end_miss {V i : Nat} (h0 : 0 < i) (h : V.testBit (i - 1) = false) : su_end V i = su_end V (i - 1) := by
  obtain ⟨k, rfl⟩ : ∃ k, i = k + 1 := ⟨i - 1, by omega⟩
  rw [Nat.add_sub_cancel] at h ⊢
  rw [su_end, h, if_neg (by decide)]
/-- hasBitsOf -/
theorem su_modS {V F i : Nat} (h : V % 2 ^ (64 * i) = F % 2 ^ (64 * i)) (h2 : V >>> (64 * i) % 2 ^ 64 = F >>> (64 * i) % 2 ^ 64) : V % 2 ^ (64 * (i + 1)) = F % 2 ^ (64 * (i + 1)) := by
  apply Nat.eq_of_testBit_eq
  intro j
  rw [Nat.testBit_mod_two_pow, Nat.testBit_mod_two_pow]
  by_cases hj : j < 64 * (i + 1)
  · rw [decide_eq_true hj, Bool.true_and, Bool.true_and]
    by_cases h1 : j < 64 * i
    · have this : (V % 2 ^ (64 * i)).testBit j = (F % 2 ^ (64 * i)).testBit j := congrArg (fun z => z.testBit j) h
      rw [Nat.testBit_mod_two_pow, Nat.testBit_mod_two_pow, decide_eq_true h1, Bool.true_and, Bool.true_and] at this
      exact this
    · have this : (V >>> (64 * i) % 2 ^ 64).testBit (j - 64 * i) = (F >>> (64 * i) % 2 ^ 64).testBit (j - 64 * i) := congrArg (fun z => z.testBit (j - 64 * i)) h2
      have e : 64 * i + (j - 64 * i) = j := by omega
      rw [Nat.testBit_mod_two_pow, Nat.testBit_mod_two_pow, decide_eq_true (show j - 64 * i < 64 by omega), Bool.true_and, Bool.true_and, Nat.testBit_shiftRight, Nat.testBit_shiftRight, e] at this
      exact this
  · rw [decide_eq_false hj, Bool.false_and, Bool.false_and]
theorem su_modN {V F nw : Nat} (hV : V < 2 ^ (64 * nw)) (hF : F < 2 ^ (64 * nw)) (h : V % 2 ^ (64 * nw) = F % 2 ^ (64 * nw)) : V = F := by
  rwa [Nat.mod_eq_of_lt hV, Nat.mod_eq_of_lt hF] at h
theorem su_cmp0 {x y : Int64} (h : lg_cmp x y = 0) : x = y := by
  unfold lg_cmp at h
  split at h
  · exact absurd h (by decide)
  · split at h
    · assumption
    · exact absurd h (by decide)
theorem su_cmpn {x y : Int64} (h : ¬ lg_cmp x y = 0) : x ≠ y := by
  intro e; subst e; exact h (by simp [lg_cmp])
/-- and, or, xor, andNot, become -/
theorem bW_or (V F i : Nat) : lN (V >>> (64 * i)) ||| lN (F >>> (64 * i)) = bW (V ||| F) i := by
  rw [fb_orL, bW, Nat.shiftRight_or_distrib]
theorem bW_and (V F i : Nat) : lN (V >>> (64 * i)) &&& lN (F >>> (64 * i)) = bW (V &&& F) i := by
  rw [fb_andL, bW, Nat.shiftRight_and_distrib]
theorem bW_xor (V F i : Nat) : lN (V >>> (64 * i)) ^^^ lN (F >>> (64 * i)) = bW (V ^^^ F) i := by
  rw [fb_xorL, bW, Nat.shiftRight_xor_distrib]
theorem su_lxa (x y : Int64) : x &&& (y ^^^ (-1)) = x ^^^ (x &&& y) := by
  apply Int64.toBitVec_inj.mp
  apply BitVec.eq_of_getLsbD_eq
  intro i hi
  have h1 : ((-1 : Int64).toBitVec).getLsbD i = true := by
    have : (-1 : Int64).toBitVec = BitVec.allOnes 64 := by decide +kernel
    rw [this, BitVec.getLsbD_allOnes]; simpa using hi
  rw [Int64.toBitVec_and, Int64.toBitVec_xor, Int64.toBitVec_xor, Int64.toBitVec_and, BitVec.getLsbD_and, BitVec.getLsbD_xor, BitVec.getLsbD_xor, BitVec.getLsbD_and, h1]
  cases x.toBitVec.getLsbD i <;> cases y.toBitVec.getLsbD i <;> rfl
theorem bW_an (V F i : Nat) : lN (V >>> (64 * i)) &&& (lN (F >>> (64 * i)) ^^^ (-1)) = bW (V ^^^ (V &&& F)) i := by
  rw [su_lxa, fb_andL, fb_xorL, bW, Nat.shiftRight_xor_distrib, Nat.shiftRight_and_distrib]
theorem bW_be0 (v : Nat) : lN v = bW v 0 := by simp [bW]
theorem bW_beS {v i : Nat} (hv : v < 2 ^ 64) (h : i ≠ 0) : lN 0 = bW v i := by
  rw [bW, su_bW0 (nw := 1) (by simpa using hv) (by omega)]
/-- plus -/
def cry (V X i : Nat) : Nat := (V % 2 ^ (64 * i) + X % 2 ^ (64 * i)) / 2 ^ (64 * i)
theorem cry0 (V X : Nat) : cry V X 0 = 0 := by simp [cry, Nat.mod_one]
theorem cry1 (V X i : Nat) : cry V X i ≤ 1 := by
  unfold cry
  have h : 0 < 2 ^ (64 * i) := Nat.two_pow_pos _
  have := Nat.mod_lt V h
  have := Nat.mod_lt X h
  have h2 : (V % 2 ^ (64 * i) + X % 2 ^ (64 * i)) / 2 ^ (64 * i) < 2 := by
    apply Nat.div_lt_of_lt_mul; omega
  omega
theorem su_addW (V X i : Nat) : V >>> (64 * i) + X >>> (64 * i) + cry V X i = (V + X) >>> (64 * i) := by
  rw [Nat.shiftRight_eq_div_pow, Nat.shiftRight_eq_div_pow, Nat.shiftRight_eq_div_pow, cry]
  generalize hP : 2 ^ (64 * i) = P
  have hP0 : 0 < P := by rw [← hP]; exact Nat.two_pow_pos _
  have e1 := Nat.div_add_mod V P
  have e2 := Nat.div_add_mod X P
  have : V + X = (V % P + X % P) + P * (V / P + X / P) := by
    rw [Nat.mul_add]; omega
  rw [this, Nat.add_mul_div_left _ _ hP0]; omega
theorem cryS (V X i : Nat) : cry V X (i + 1) = (V >>> (64 * i) % 2 ^ 64 + X >>> (64 * i) % 2 ^ 64 + cry V X i) / 2 ^ 64 := by
  unfold cry
  rw [Nat.shiftRight_eq_div_pow, Nat.shiftRight_eq_div_pow, show 64 * (i + 1) = 64 * i + 64 by omega, Nat.pow_add]
  generalize hP : 2 ^ (64 * i) = P
  have hP0 : 0 < P := by rw [← hP]; exact Nat.two_pow_pos _
  rw [Nat.mod_mul, Nat.mod_mul, ← Nat.div_div_eq_div_mul]
  congr 1
  have : V % P + P * (V / P % 2 ^ 64) + (X % P + P * (X / P % 2 ^ 64)) = (V % P + X % P) + P * (V / P % 2 ^ 64 + X / P % 2 ^ 64) := by
    rw [Nat.mul_add]; omega
  rw [this, Nat.add_mul_div_left _ _ hP0]; omega
theorem su_top (x : Int64) (u : UInt64) (hu : u.toNat % 64 = 63) : (x.toUInt64 >>> u).toInt64 = lN (if x.toBitVec.getLsbD 63 = true then 1 else 0) := by
  obtain ⟨n, hn, rfl⟩ := wb_of x
  have e : ((lN n).toUInt64 >>> u).toInt64 = lN (n / 2 ^ 63) := by
    apply uN_inj
    rw [uN_shr, hu]
    show (lN n).toBitVec.toNat / 2 ^ 63 = (lN (n / 2 ^ 63)).toBitVec.toNat
    rw [wb_tn hn, wb_tn (Nat.lt_of_le_of_lt (Nat.div_le_self _ _) hn)]
  rw [e, wb_tb]
  congr 1
  rw [BitVec.getLsbD_ofNat, Nat.testBit_eq_decide_div_mod_eq]
  have : n / 2 ^ 63 < 2 := Nat.div_lt_of_lt_mul (by omega)
  by_cases h1 : n / 2 ^ 63 = 1
  · simp [h1]
  · have : n / 2 ^ 63 = 0 := by omega
    simp [this]
theorem su_b63 (n : Nat) : (lN n).toBitVec.getLsbD 63 = decide (2 ^ 63 ≤ n % 2 ^ 64) := by
  rw [wb_tb, BitVec.getLsbD_ofNat, Nat.testBit_eq_decide_div_mod_eq]
  simp only [show (63 : Nat) < 64 from by decide, decide_true, Bool.true_and]
  apply decide_eq_decide.mpr
  omega
theorem su_carry {a b c : Nat} (hc : c ≤ 1) : (((lN a &&& lN b) ||| ((lN a ||| lN b) &&& (lN (a + b + c) ^^^ (-1)))).toUInt64 >>> ((nI 63).toInt64.toUInt64 &&& Int64.toUInt64 63)).toInt64 = lN ((a % 2 ^ 64 + b % 2 ^ 64 + c) / 2 ^ 64) := by
  rw [su_top _ _ (by decide +kernel)]
  congr 1
  have h1 : ((-1 : Int64).toBitVec).getLsbD 63 = true := by decide +kernel
  rw [Int64.toBitVec_or, Int64.toBitVec_and, Int64.toBitVec_and, Int64.toBitVec_or, Int64.toBitVec_xor, BitVec.getLsbD_or, BitVec.getLsbD_and, BitVec.getLsbD_and, BitVec.getLsbD_or, BitVec.getLsbD_xor, h1, su_b63, su_b63, su_b63]
  by_cases ha : 2 ^ 63 ≤ a % 2 ^ 64 <;> by_cases hb : 2 ^ 63 ≤ b % 2 ^ 64 <;> by_cases hs : 2 ^ 63 ≤ (a + b + c) % 2 ^ 64 <;> simp only [ha, hb, hs, decide_true, decide_false, Bool.and_true, Bool.and_false, Bool.or_true, Bool.or_false, Bool.true_and, Bool.false_and, Bool.true_or, Bool.false_or, Bool.xor_true, Bool.not_true, Bool.not_false, if_true, if_false] <;> simp <;> omega
/-- shift -/
def shz (V : Nat) (z : Int) : Nat := if 0 ≤ z then V <<< z.toNat else V >>> (-z).toNat
def shw (V : Nat) (x : Int32) (i : Nat) : Int64 := (wA V (nI i - (x >>> (nI 6 &&& 31))) <<< ((x &&& nI 63).toInt64 &&& 63)) ||| (((wA V (nI i - (x >>> (nI 6 &&& 31)) - nI 1)).toUInt64 >>> ((nI 63 - (x &&& nI 63)).toInt64.toUInt64 &&& Int64.toUInt64 63)).toInt64.toUInt64 >>> ((nI 1).toInt64.toUInt64 &&& Int64.toUInt64 63)).toInt64
theorem shw_core {V k r : Nat} (hr : r < 64) (W : Nat) (hW : W = if k = 0 then 0 else V >>> (64 * (k - 1))) :
    lN (V >>> (64 * k) * 2 ^ r) ||| lN (W % 2 ^ 64 / 2 ^ (63 - r) / 2) = lN ((V <<< r) >>> (64 * k)) := by
  rw [fb_orL]
  apply su_lNe
  apply Nat.eq_of_testBit_eq
  intro j
  rw [Nat.testBit_mod_two_pow, Nat.testBit_mod_two_pow, Nat.testBit_or, Nat.div_div_eq_div_mul, show 2 ^ (63 - r) * 2 = 2 ^ (64 - r) by rw [← Nat.pow_succ]; congr 1; omega, Nat.testBit_div_two_pow, Nat.testBit_mod_two_pow, Nat.testBit_mul_two_pow, Nat.testBit_shiftRight, Nat.testBit_shiftRight, Nat.testBit_shiftLeft]
  by_cases hj : j < 64
  · rw [decide_eq_true hj, Bool.true_and, Bool.true_and]
    subst hW
    by_cases hk : k = 0
    · subst hk
      simp
    · rw [if_neg hk, Nat.testBit_shiftRight]
      by_cases h1 : r ≤ j
      · rw [decide_eq_true h1, decide_eq_false (by omega), decide_eq_true (by omega), Bool.true_and, Bool.false_and, Bool.or_false, Bool.true_and]
        congr 1; omega
      · rw [decide_eq_false h1, decide_eq_true (by omega), decide_eq_true (by omega), Bool.false_and, Bool.true_and, Bool.false_or, Bool.true_and]
        congr 1; omega
  · rw [decide_eq_false hj, Bool.false_and, Bool.false_and]
theorem wA_toInt (V : Nat) (x : Int32) : wA V x = if x.toInt < 0 then lN 0 else lN (V >>> (64 * x.toInt.toNat)) := by
  unfold wA
  have e : (x < 0) = (x.toInt < 0) := by
    rw [Int32.lt_iff_toInt_lt]; rfl
  have e2 : x.toNatClampNeg = x.toInt.toNat := rfl
  simp only [e, e2]
theorem shw_eq {V i : Nat} {z : Int} {x : Int32} (hz : x.toInt = z) (h1 : -1048576 < z) (h2 : z < 1048576) (hi : i < 128) : shw V x i = bW (shz V z) i := by
  have hy : (x >>> (nI 6 &&& 31)).toInt = z / 64 := by
    rw [pk_shr x (nI 6 &&& 31) 6 (by decide +kernel), hz, Int.shiftRight_eq_div_pow]
    rfl
  have hr : ∃ r : Nat, r < 64 ∧ x &&& nI 63 = nI r ∧ (r : Int) = z % 64 := by
    refine ⟨x.toBitVec.toNat % 64, Nat.mod_lt _ (by decide), pk_and x (m := nI 63) 6 (by decide +kernel), ?_⟩
    have e : x.toInt = x.toBitVec.toInt := rfl
    rw [← hz, e, BitVec.toInt_eq_toNat_bmod, Int.bmod_def]
    have := x.toBitVec.isLt
    split <;> omega
  obtain ⟨r, hr1, hr2, hr3⟩ := hr
  have hiI : (nI i).toInt = (i : Int) := nI_toInt (by omega)
  have hk : (nI i - (x >>> (nI 6 &&& 31))).toInt = (i : Int) - z / 64 := by
    rw [fb_subI (by rw [hiI, hy]; omega) (by rw [hiI, hy]; omega), hiI, hy]
  have h1I : (nI 1).toInt = 1 := by decide +kernel
  have hk1 : (nI i - (x >>> (nI 6 &&& 31)) - nI 1).toInt = (i : Int) - z / 64 - 1 := by
    rw [fb_subI (by rw [hk, h1I]; omega) (by rw [hk, h1I]; omega), hk, h1I]
  have hz64 : z = 64 * (z / 64) + r := by omega
  unfold shw bW
  rw [hr2, pk_sub (show r ≤ 63 by omega), wA_toInt, wA_toInt, hk, hk1]
  generalize z / 64 = q at hz64 hk hk1
  by_cases hq : (i : Int) - q < 0
  · rw [if_pos hq, if_pos (by omega), su_lw 0 hr1, su_lu (by omega), su_lu (by decide), fb_orL]
    apply su_lNe
    unfold shz
    rw [if_pos (by omega)]
    have e : ∃ d : Nat, z.toNat = d + 64 + 64 * i := ⟨z.toNat - 64 - 64 * i, by omega⟩
    obtain ⟨d, hd⟩ := e
    rw [hd, Nat.shiftLeft_eq, Nat.shiftRight_eq_div_pow, Nat.pow_add, ← Nat.mul_assoc, Nat.mul_div_cancel _ (Nat.two_pow_pos _), Nat.pow_add, ← Nat.mul_assoc, Nat.mul_mod_left]
    simp
  · rw [if_neg hq, su_lw _ hr1]
    obtain ⟨k, hk⟩ : ∃ k : Nat, (i : Int) - q = k := ⟨((i : Int) - q).toNat, by omega⟩
    rw [hk]
    have hW : (((if (k : Int) - 1 < 0 then lN 0 else lN (V >>> (64 * ((k : Int) - 1).toNat))).toUInt64 >>> ((nI (63 - r)).toInt64.toUInt64 &&& Int64.toUInt64 63)).toInt64.toUInt64 >>> ((nI 1).toInt64.toUInt64 &&& Int64.toUInt64 63)).toInt64 = lN ((if k = 0 then 0 else V >>> (64 * (k - 1))) % 2 ^ 64 / 2 ^ (63 - r) / 2) := by
      have e : (if (k : Int) - 1 < 0 then lN 0 else lN (V >>> (64 * ((k : Int) - 1).toNat))) = lN (if k = 0 then 0 else V >>> (64 * (k - 1))) := by
        by_cases h0 : k = 0
        · subst h0; simp
        · rw [if_neg (by omega), if_neg h0, show ((k : Int) - 1).toNat = k - 1 by omega]
      rw [e, su_lu (by omega), su_lu (by decide)]
      congr 1
      rw [Nat.mod_eq_of_lt (Nat.lt_of_le_of_lt (Nat.div_le_self _ _) (Nat.mod_lt _ (by decide)))]
    rw [hW, show (k : Int).toNat = k from rfl, shw_core hr1 _ rfl]
    congr 1
    unfold shz
    by_cases h0 : 0 ≤ z
    · rw [if_pos h0]
      obtain ⟨t, ht⟩ : ∃ t : Nat, q = t := ⟨q.toNat, by omega⟩
      rw [show z.toNat = r + 64 * t by omega, show 64 * i = 64 * t + 64 * k by omega]
      rw [Nat.shiftLeft_add, Nat.shiftRight_add, Nat.shiftLeft_shiftRight]
    · rw [if_neg h0, ← Nat.shiftRight_add, show 64 * k = r + ((-z).toNat + 64 * i) by omega, Nat.shiftRight_add, Nat.shiftLeft_shiftRight]
theorem shz_n (V b : Nat) : shz V (b : Int) = V <<< b := by
  unfold shz; rw [if_pos (by omega)]; rfl
theorem shz_0 (V : Nat) : shz V 0 = V := by unfold shz; simp
