/-! hoards: bits of a choice, places, lists -/
theorem su_bitE (x : Int32) {i : Nat} (hi : i < 32) : (x >>> (nI i &&& 31)) &&& nI 1 = bI (bt x i) := by
  apply b_ext
  intro j hj
  rw [b_and, b_sshr i hi x hj]
  have h1 : ∀ j, j < 32 → bt (nI 1) j = decide (j = 0) := by decide +kernel
  have h2 : ∀ j, j < 32 → bt (1 : Int32) j = decide (j = 0) := by decide +kernel
  rw [h1 j hj]
  by_cases hz : j = 0
  · subst hz
    simp only [decide_true, Bool.and_true, Nat.add_zero, hi, if_true]
    cases hb : bt x i
    · simp [bI, b_0]
    · simp [bI, h2]
  · simp only [hz, decide_false, Bool.and_false]
    cases hb : bt x i
    · simp [bI, b_0]
    · simp [bI, h2 j hj, hz]
/-- whether a number tells a place -/
def hp (x : Int32) (n : Nat) : Bool := decide (0 ≤ x.toInt ∧ x.toInt < n)
theorem hp_lt {i n : Nat} (h : i < n) (hn : n ≤ 20) : hp (nI i) n = true := by
  have := nI_toInt (n := i) (by omega)
  unfold hp; rw [this]; simp; omega
theorem hp_1 {x : Int32} {n : Nat} (hn : n ≤ 20) (h1 : ¬ x < 0) (h2 : ¬ nI n ≤ x) : nI 1 = bI (hp x n) := by
  rw [Int32.lt_iff_toInt_lt] at h1
  rw [Int32.le_iff_toInt_le, nI_toInt (by omega)] at h2
  rw [nI01_1]
  refine bI_d1 ⟨?_, ?_⟩
  · have : (0 : Int32).toInt = 0 := rfl
    omega
  · omega
theorem hp_0a {x : Int32} {n : Nat} (h1 : x < 0) : nI 0 = bI (hp x n) := by
  rw [Int32.lt_iff_toInt_lt] at h1
  rw [nI01_0]
  refine bI_d0 (fun h => ?_)
  have : (0 : Int32).toInt = 0 := rfl
  omega
theorem hp_0b {x : Int32} {n : Nat} (hn : n ≤ 20) (h2 : nI n ≤ x) : nI 0 = bI (hp x n) := by
  rw [Int32.le_iff_toInt_le, nI_toInt (by omega)] at h2
  rw [nI01_0]
  exact bI_d0 (fun h => by omega)
theorem hp_0c {x : Int32} {n : Nat} (hn : n ≤ 20) (h2 : nI 20 ≤ x) : nI 0 = bI (hp x n) := by
  rw [Int32.le_iff_toInt_le, nI_toInt (by omega)] at h2
  rw [nI01_0]
  exact bI_d0 (fun h => by omega)
theorem hp_of {x : Int32} {n : Nat} (hn : n ≤ 20) (h : hp x n = true) : ∃ i, i < n ∧ x = nI i := by
  unfold hp at h
  have h := of_decide_eq_true h
  have h0 : ¬ x < 0 := by
    rw [Int32.lt_iff_toInt_lt]
    have : (0 : Int32).toInt = 0 := rfl
    omega
  obtain ⟨j, hj, rfl⟩ := nI_of h0
  rw [nI_toInt hj] at h
  exact ⟨j, by omega, rfl⟩
/-- the sum of the numbers at a choice's places below i -/
def su_sA (g : Nat → Nat) : Nat → Int32 → Nat
  | 0, _ => 0
  | i + 1, x => su_sA g i x + (if bt x i = true then g i else 0)
def su_sm (g : Nat → Nat) : Nat → Nat
  | 0 => 0
  | i + 1 => su_sm g i + g i
theorem su_sA_m1 (g : Nat → Nat) : ∀ n, n ≤ 32 → su_sA g n (-1) = su_sm g n
  | 0, _ => rfl
  | i + 1, h => by
    rw [su_sA, su_sm, su_sA_m1 g i (by omega), b_m1 i (by omega), if_pos rfl]
def su_lst (g : Nat → Nat) : Nat → List Nat
  | 0 => []
  | i + 1 => su_lst g i ++ [g i]
def su_pk (g : Nat → Nat) : Nat → Int32 → List Nat
  | 0, _ => []
  | i + 1, x => su_pk g i x ++ (if bt x i = true then [g i] else [])
theorem su_pk_m1 (g : Nat → Nat) : ∀ n, n ≤ 32 → su_pk g n (-1) = su_lst g n
  | 0, _ => rfl
  | i + 1, h => by
    rw [su_pk, su_lst, su_pk_m1 g i (by omega), b_m1 i (by omega), if_pos rfl]
theorem su_lst_len (g : Nat → Nat) : ∀ n, (su_lst g n).length = n
  | 0 => rfl
  | i + 1 => by rw [su_lst, List.length_append, su_lst_len g i]; rfl
theorem su_lst_cong {f g : Nat → Nat} : ∀ {n : Nat}, (∀ k, k < n → f k = g k) → su_lst f n = su_lst g n
  | 0, _ => rfl
  | i + 1, h => by rw [su_lst, su_lst, su_lst_cong (fun k hk => h k (by omega)), h i (by omega)]
theorem su_lst_get (g : Nat → Nat) : ∀ (n k : Nat), k < n → (su_lst g n)[k]? = some (g k)
  | 0, k, h => absurd h (Nat.not_lt_zero k)
  | i + 1, k, h => by
    rw [su_lst]
    by_cases hk : k < i
    · rw [List.getElem?_append_left (by rw [su_lst_len]; exact hk)]
      exact su_lst_get g i k hk
    · have : k = i := by omega
      subst this
      rw [List.getElem?_append_right (by rw [su_lst_len]; exact Nat.le_refl _), su_lst_len]
      simp
theorem su_lst_inj {f g : Nat → Nat} {n : Nat} (h : su_lst f n = su_lst g n) : ∀ k, k < n → f k = g k := by
  intro k hk
  have h1 := su_lst_get f n k hk
  rw [h, su_lst_get g n k hk] at h1
  exact (Option.some.inj h1).symm
/-- putIn -/
def su_sh (g : Nat → Nat) (n j : Nat) : Nat → Nat := fun k => if j < k ∧ k ≤ n then g (k - 1) else g k
def su_ins (g : Nat → Nat) (n q v : Nat) : Nat → Nat := va_up (su_sh g n q) q v
theorem su_sh0 {g : Nat → Nat} {n : Nat} (k : Nat) : fN g k = fN (su_sh g n n) k := by
  simp only [fN, su_sh]; rw [if_neg (by omega)]
theorem su_shS {g : Nat → Nat} {n j : Nat} (h : 0 < j) (hj : j ≤ n) (k : Nat) : fN (va_up (su_sh g n j) j (su_sh g n j (j - 1))) k = fN (su_sh g n (j - 1)) k := by
  simp only [fN, su_sh, va_up]
  congr 1
  by_cases hk : k = j
  · subst hk
    rw [if_pos rfl, if_neg (by omega), if_pos (by omega)]
  · rw [if_neg hk]
    by_cases h2 : j < k ∧ k ≤ n
    · rw [if_pos h2, if_pos (by omega)]
    · rw [if_neg h2, if_neg (by omega)]
theorem su_ins_lst (g : Nat → Nat) (n v : Nat) : su_lst (su_ins g n n v) (n + 1) = su_lst g n ++ [v] := by
  rw [su_lst]
  congr 1
  · apply su_lst_cong
    intro k hk
    simp only [su_ins, va_up, su_sh]
    rw [if_neg (by omega), if_neg (by omega)]
  · simp [su_ins, va_up]
/-- takeAway -/
def su_rm (g : Nat → Nat) (q j : Nat) : Nat → Nat := fun k => if q ≤ k ∧ k < j then g (k + 1) else g k
theorem su_rm0 {g : Nat → Nat} {q : Nat} (k : Nat) : fN g k = fN (su_rm g q q) k := by
  simp only [fN, su_rm]; rw [if_neg (by omega)]
theorem su_rmS {g : Nat → Nat} {q j : Nat} (h : q ≤ j) (k : Nat) : fN (va_up (su_rm g q j) j (su_rm g q j (j + 1))) k = fN (su_rm g q (j + 1)) k := by
  simp only [fN, su_rm, va_up]
  congr 1
  by_cases hk : k = j
  · subst hk
    rw [if_pos rfl, if_neg (by omega), if_pos (by omega)]
  · rw [if_neg hk]
    by_cases h2 : q ≤ k ∧ k < j
    · rw [if_pos h2, if_pos (by omega)]
    · rw [if_neg h2, if_neg (by omega)]
/-- the index of a loop that goes down to -1 -/
theorem su_dn {k : Nat} (h : 0 < k) : nI k - nI 1 = nI (k - 1) := pk_sub (by omega)
theorem su_dnlt {k : Nat} (hk : k < 2 ^ 30) (h : nI k - nI 1 < 0) : k = 0 := by
  rcases Nat.eq_zero_or_pos k with q | q
  · exact q
  · rw [su_dn q] at h
    exact absurd h (nI_pos (by omega))
theorem su_dnge {k : Nat} (h : ¬ nI k - nI 1 < 0) : 0 < k := by
  rcases Nat.eq_zero_or_pos k with q | q
  · subst q; exact absurd (by decide +kernel) h
  · exact q
theorem su_dnS {k : Nat} (h : 0 < k) : (nI k - nI 1) + Int32.ofInt (-1) = nI (k - 1) - nI 1 := by
  rw [su_dn h, show (Int32.ofInt (-1)) = (-1 : Int32) from rfl, show (-1 : Int32) = - nI 1 by decide +kernel, ← Int32.sub_eq_add_neg]
