/-! most, fewest, with many, fair; in order -/
def su_mx (f : Nat → Nat) : Nat → Nat
  | 0 => 0
  | s + 1 => if f (su_mx f s) < f (s + 1) then s + 1 else su_mx f s
theorem su_mx_le (f : Nat → Nat) : ∀ s, su_mx f s ≤ s
  | 0 => Nat.le_refl 0
  | s + 1 => by
    have := su_mx_le f s
    rw [su_mx]; split <;> omega
theorem su_lcle {a b : Nat} (ha : a < 2 ^ 63) (hb : b < 2 ^ 63) : lg_cmp (lN a) (lN b) ≤ 0 ↔ a ≤ b := by
  have h1 : (lN a).toInt = (a : Int) := by rw [lN_ti (by omega), if_pos ha]
  have h2 : (lN b).toInt = (b : Int) := by rw [lN_ti (by omega), if_pos hb]
  unfold lg_cmp
  by_cases e : b < a
  · rw [if_pos (by rw [gt_iff_lt, Int64.lt_iff_toInt_lt, h1, h2]; omega)]
    exact ⟨fun q => absurd q (by decide), fun q => by omega⟩
  · rw [if_neg (by rw [gt_iff_lt, Int64.lt_iff_toInt_lt, h1, h2]; omega)]
    refine ⟨fun _ => by omega, fun _ => ?_⟩
    split <;> decide
theorem su_lcge {a b : Nat} (ha : a < 2 ^ 63) (hb : b < 2 ^ 63) : lg_cmp (lN a) (lN b) < 0 ↔ a < b := by
  have h1 : (lN a).toInt = (a : Int) := by rw [lN_ti (by omega), if_pos ha]
  have h2 : (lN b).toInt = (b : Int) := by rw [lN_ti (by omega), if_pos hb]
  unfold lg_cmp
  by_cases e : b < a
  · rw [if_pos (by rw [gt_iff_lt, Int64.lt_iff_toInt_lt, h1, h2]; omega)]
    exact ⟨fun q => absurd q (by decide), fun q => by omega⟩
  · rw [if_neg (by rw [gt_iff_lt, Int64.lt_iff_toInt_lt, h1, h2]; omega)]
    by_cases e2 : a = b
    · subst e2; rw [if_pos rfl]; exact ⟨fun q => absurd q (by decide), fun q => by omega⟩
    · rw [if_neg (fun q => e2 ((fb_lN_inj ha hb).mp q))]; exact ⟨fun _ => by omega, fun _ => by decide⟩
theorem opP_lt {a b n : Nat} (ha : a < 2 ^ (n + 1)) (hb : b < 2 ^ (n + 1)) : opP a b < 2 ^ (n + 2) := by
  have h1 : a < 2 ^ (n + 2) := Nat.lt_of_lt_of_le ha (Nat.pow_le_pow_right (by decide) (by omega))
  have h2 : b * 2 < 2 ^ (n + 2) := by rw [Nat.pow_succ]; omega
  exact Nat.or_lt_two_pow h1 h2
theorem fiP_lt (g : Nat → Nat) : ∀ n s, fiD opP f0W g n s < 2 ^ (n + 1)
  | 0, s => by show (if s = 0 then 1 else 0) < 2; split <;> omega
  | n + 1, s => by
    show dnT opP (g n) (fiD opP f0W g n) s < 2 ^ (n + 1 + 1)
    unfold dnT
    split
    · exact opP_lt (fiP_lt g n _) (fiP_lt g n _)
    · exact Nat.lt_of_lt_of_le (fiP_lt g n s) (Nat.pow_le_pow_right (by decide) (by omega))
theorem fiP_31 {g : Nat → Nat} {n s : Nat} (hn : n ≤ 20) : fiD opP f0W g n s < 2 ^ 31 :=
  Nat.lt_of_lt_of_le (fiP_lt g n s) (Nat.pow_le_pow_right (by decide) (by omega))
def wmF (g : Nat → Nat) (n k : Nat) : Nat → Bool := fun s => (fiD opP f0W g n s).testBit k
def su_ab (a b : Nat) : Nat := (a - b) + (b - a)
theorem su_absN {a b : Nat} (ha : a < 2 ^ 30) (hb : b < 2 ^ 30) : (if 0 ≤ nI a - nI b then nI a - nI b else 0 - (nI a - nI b)) = nI (su_ab a b) := by
  have e : (nI a - nI b).toInt = (a : Int) - b := by
    rw [Int32.toInt_sub, nI_toInt (by omega), nI_toInt (by omega), Int.bmod_eq_of_le (by omega) (by omega)]
  have h0 : (0 : Int32).toInt = 0 := by decide
  unfold su_ab
  by_cases h : b ≤ a
  · rw [if_pos (by rw [Int32.le_iff_toInt_le, e, h0]; omega), pk_sub h, show b - a = 0 by omega, Nat.add_zero]
  · rw [if_neg (by rw [Int32.le_iff_toInt_le, e, h0]; omega), show a - b = 0 by omega, Nat.zero_add]
    rw [show (0 : Int32) - (nI a - nI b) = nI b - nI a by rw [Int32.zero_sub, Int32.neg_sub]]
    exact pk_sub (by omega)
def su_fr (f : Nat → Bool) (a : Nat) : Nat → Nat
  | 0 => a
  | m + 1 => if f m = true then min (su_fr f a m) (su_ab a (2 * m)) else su_fr f a m
theorem su_fr_le (f : Nat → Bool) (a : Nat) : ∀ m, su_fr f a m ≤ a
  | 0 => Nat.le_refl a
  | m + 1 => by
    have := su_fr_le f a m
    rw [su_fr]; split <;> omega
theorem su_ct_1 {f : Nat → Bool} {i : Nat} (h : f i = true) : su_ct f i + 1 = su_ct f (i + 1) := by rw [su_ct, h]; rfl
theorem su_ct_0 {f : Nat → Bool} {i : Nat} (h : f i = false) : su_ct f i = su_ct f (i + 1) := by rw [su_ct, h]; rfl
/-- in order -/
theorem su_rm_lo {g : Nat → Nat} {q m k : Nat} (h : k < q) : su_rm g q m k = g k := by simp only [su_rm]; rw [if_neg (by omega)]
def so (g : Nat → Nat) (i : Nat) : Prop := ∀ a b, a < b → b < i → g a ≤ g b
theorem so_step {g : Nat → Nat} {n i j : Nat} (hi : i < n) (hj : j ≤ i) (hs : so g i) (hgt : ∀ k, j ≤ k → k < i → g i < g k) (hle : j = 0 ∨ g (j - 1) ≤ g i) : so (su_ins (su_rm g i (n - 1)) (n - 1) j (g i)) (i + 1) := by
  have e : ∀ k, k ≤ i → su_ins (su_rm g i (n - 1)) (n - 1) j (g i) k = if k < j then g k else if k = j then g i else g (k - 1) := by
    intro k hk
    simp only [su_ins, va_up, su_sh]
    by_cases h1 : k = j
    · rw [if_pos h1, if_neg (by omega), if_pos h1]
    · rw [if_neg h1]
      by_cases h2 : j < k
      · rw [if_pos ⟨h2, by omega⟩, if_neg (by omega), if_neg h1, su_rm_lo (by omega)]
      · rw [if_neg (by omega), if_pos (by omega), su_rm_lo (by omega)]
  intro a b hab hb
  rw [e a (by omega), e b (by omega)]
  by_cases a1 : a < j
  · rw [if_pos a1]
    by_cases b1 : b < j
    · rw [if_pos b1]; exact hs a b hab (by omega)
    · rw [if_neg b1]
      by_cases b2 : b = j
      · rw [if_pos b2]
        rcases hle with q | q
        · omega
        · by_cases a2 : a = j - 1
          · rw [a2]; exact q
          · exact Nat.le_trans (hs a (j - 1) (by omega) (by omega)) q
      · rw [if_neg b2]
        by_cases a2 : a = b - 1
        · rw [a2]; exact Nat.le_refl _
        · exact hs a (b - 1) (by omega) (by omega)
  · rw [if_neg a1, if_neg (show ¬ b < j by omega)]
    by_cases a2 : a = j
    · rw [if_pos a2, if_neg (show ¬ b = j by omega)]
      exact Nat.le_of_lt (hgt (b - 1) (by omega) (by omega))
    · rw [if_neg a2, if_neg (show ¬ b = j by omega)]
      exact hs (a - 1) (b - 1) (by omega) (by omega)
theorem so_perm {g : Nat → Nat} {n i j : Nat} (hi : i < n) (hj : j ≤ i) : List.Perm (su_lst (su_ins (su_rm g i (n - 1)) (n - 1) j (g i)) n) (su_lst g n) := by
  have h1 := su_ins_perm (su_rm g i (n - 1)) j (g i) (n - 1) (by omega)
  rw [show n - 1 + 1 = n by omega] at h1
  exact h1.trans (su_rm_perm g i n hi).symm
theorem so_end {g : Nat → Nat} {n i : Nat} (h : so g i) (hi : n ≤ i) : so g n := fun a b h1 h2 => h a b h1 (by omega)
theorem ap_sm {g1 ga gb : Nat → Nat} {n1 na nb : Nat} (h : su_lst g1 n1 = su_lst ga na ++ su_lst gb nb) : su_sm g1 n1 = su_sm ga na + su_sm gb nb := by
  rw [su_sm_L, h, List.sum_append, su_sm_L, su_sm_L]
theorem su_ct_ne {a b : Nat → Nat} {i : Nat} (h : a i ≠ b i) : su_ct (fun k => !decide (a k = b k)) i + 1 = su_ct (fun k => !decide (a k = b k)) (i + 1) := su_ct_1 (f := fun k => !decide (a k = b k)) (by show (!decide (a i = b i)) = true; rw [decide_eq_false h]; rfl)
theorem su_ct_eq {a b : Nat → Nat} {i : Nat} (h : a i = b i) : su_ct (fun k => !decide (a k = b k)) i = su_ct (fun k => !decide (a k = b k)) (i + 1) := su_ct_0 (f := fun k => !decide (a k = b k)) (by show (!decide (a i = b i)) = false; rw [decide_eq_true h]; rfl)
