/-! the mathematics of sums: counts of choices, by lists -/
abbrev cW (g : Nat → Nat) (n : Nat) : Nat → Nat := fiD opW f0W g n
def cL : List Nat → Nat → Nat
  | [], s => if s = 0 then 1 else 0
  | x :: l, s => cL l s + (if x ≤ s then cL l (s - x) else 0)
theorem cL_swap (x y : Nat) (l : List Nat) (s : Nat) : cL (x :: y :: l) s = cL (y :: x :: l) s := by
  simp only [cL]
  by_cases h1 : x ≤ s <;> by_cases h2 : y ≤ s
  · by_cases h3 : y ≤ s - x
    · have h4 : x ≤ s - y := by omega
      simp only [if_pos h1, if_pos h2, if_pos h3, if_pos h4]
      rw [show s - x - y = s - y - x by omega]; omega
    · have h4 : ¬ x ≤ s - y := by omega
      simp only [if_pos h1, if_pos h2, if_neg h3, if_neg h4]; omega
  · have h3 : ¬ y ≤ s - x := by omega
    simp only [if_pos h1, if_neg h2, if_neg h3]; omega
  · have h3 : ¬ x ≤ s - y := by omega
    simp only [if_neg h1, if_pos h2, if_neg h3]; omega
  · simp only [if_neg h1, if_neg h2]
theorem cL_perm {a b : List Nat} (h : List.Perm a b) : ∀ s, cL a s = cL b s := by
  induction h with
  | nil => intro s; rfl
  | cons x _ ih => intro s; simp only [cL, ih]
  | swap x y l => intro s; exact cL_swap y x l s
  | trans _ _ ih1 ih2 => intro s; rw [ih1, ih2]
theorem cL_app (l : List Nat) (x s : Nat) : cL (l ++ [x]) s = cL l s + (if x ≤ s then cL l (s - x) else 0) := by
  rw [cL_perm (List.perm_append_comm (l₁ := l) (l₂ := [x])) s]; rfl
theorem cW_L (g : Nat → Nat) : ∀ (n s : Nat), s ≤ 300 → cW g n s = cL (su_lst g n) s
  | 0, s, _ => rfl
  | n + 1, s, h => by
    rw [su_lst, cL_app, ← cW_L g n s h]
    show dnT opW (g n) (fiD opW f0W g n) s = _
    unfold dnT
    by_cases h1 : g n ≤ s
    · rw [if_pos ⟨h1, h⟩, if_pos h1, ← cW_L g n (s - g n) (by omega)]; rfl
    · rw [if_neg (fun q => h1 q.1), if_neg h1]; rfl
theorem cW_big (g : Nat → Nat) : ∀ (n s : Nat), 300 < s → cW g n s = 0
  | 0, s, h => by show f0W s = 0; unfold f0W; rw [if_neg (by omega)]
  | n + 1, s, h => by
    show dnT opW (g n) (fiD opW f0W g n) s = 0
    unfold dnT
    rw [if_neg (by omega)]; exact cW_big g n s h
theorem cW_cong {f g : Nat → Nat} : ∀ {n : Nat}, (∀ k, k < n → f k = g k) → cW f n = cW g n
  | 0, _ => rfl
  | n + 1, h => by
    show dnT opW (f n) (fiD opW f0W f n) = dnT opW (g n) (fiD opW f0W g n)
    rw [show fiD opW f0W f n = fiD opW f0W g n from cW_cong (fun k hk => h k (by omega)), h n (by omega)]
theorem fiD_cong {α : Type} {op : α → α → α} {f0 : Nat → α} {f g : Nat → Nat} : ∀ {n : Nat}, (∀ k, k < n → f k = g k) → fiD op f0 f n = fiD op f0 g n
  | 0, _ => rfl
  | n + 1, h => by
    show dnT op (f n) (fiD op f0 f n) = dnT op (g n) (fiD op f0 g n)
    rw [fiD_cong (fun k hk => h k (by omega)), h n (by omega)]
theorem fiU_cong {α : Type} {op : α → α → α} {f0 : Nat → α} {f g : Nat → Nat} : ∀ {n : Nat}, (∀ k, k < n → f k = g k) → fiU op f0 f n = fiU op f0 g n
  | 0, _ => rfl
  | n + 1, h => by
    show upT op (f n) (fiU op f0 f n) = upT op (g n) (fiU op f0 g n)
    rw [fiU_cong (fun k hk => h k (by omega)), h n (by omega)]
theorem su_sm_L (g : Nat → Nat) : ∀ n, su_sm g n = (su_lst g n).sum
  | 0 => rfl
  | n + 1 => by rw [su_sm, su_lst, List.sum_append, su_sm_L g n]; simp
/-- no sum above all -/
theorem cL_out : ∀ (l : List Nat) (s : Nat), l.sum < s → cL l s = 0
  | [], s, h => by
    have : s ≠ 0 := by simp at h; omega
    simp [cL, this]
  | x :: l, s, h => by
    rw [List.sum_cons] at h
    rw [cL, cL_out l s (by omega)]
    by_cases h1 : x ≤ s
    · rw [if_pos h1, cL_out l (s - x) (by omega)]
    · rw [if_neg h1]
theorem cL_le : ∀ (l : List Nat) (s : Nat), cL l s ≤ 2 ^ l.length
  | [], s => by simp only [cL]; split <;> simp
  | x :: l, s => by
    have h1 := cL_le l s
    have h2 := cL_le l (s - x)
    rw [cL, List.length_cons, Nat.pow_succ]
    split <;> omega
theorem cL_zero : ∀ (l : List Nat), 0 < cL l 0
  | [] => by simp [cL]
  | x :: l => by
    have := cL_zero l
    rw [cL]; omega
/-- the mirror -/
theorem cL_mir : ∀ (l : List Nat) (s : Nat), s ≤ l.sum → cL l s = cL l (l.sum - s)
  | [], s, h => by
    have : s = 0 := by simpa using h
    subst this; rfl
  | x :: l, s, h => by
    rw [List.sum_cons] at h ⊢
    generalize hT : l.sum = T at h
    have ih : ∀ s, s ≤ T → cL l s = cL l (T - s) := fun s hs => by rw [← hT]; exact cL_mir l s (by omega)
    have io : ∀ s, T < s → cL l s = 0 := fun s hs => cL_out l s (by omega)
    rw [cL, cL]
    by_cases h1 : x ≤ s <;> by_cases h2 : s ≤ T
    · rw [if_pos h1, if_pos (by omega : x ≤ x + T - s), ih s h2, ih (s - x) (by omega), show T - (s - x) = x + T - s by omega, show x + T - s - x = T - s by omega]; omega
    · rw [if_pos h1, if_neg (by omega : ¬ x ≤ x + T - s), io s (by omega), ih (s - x) (by omega), show T - (s - x) = x + T - s by omega]; omega
    · rw [if_neg h1, if_pos (by omega : x ≤ x + T - s), ih s h2, io (x + T - s) (by omega), show x + T - s - x = T - s by omega]; omega
    · rw [if_neg h1, if_neg (by omega : ¬ x ≤ x + T - s), io s (by omega), io (x + T - s) (by omega)]
/-- all choices together -/
theorem fb_sm_shift (f : Nat → Nat) (x : Nat) : ∀ m, fb_sm (fun s => if x ≤ s then f (s - x) else 0) m = fb_sm f (m - x)
  | 0 => by rw [Nat.zero_sub]; rfl
  | m + 1 => by
    rw [fb_sm_succ, fb_sm_shift f x m]
    by_cases h : x ≤ m
    · rw [if_pos h, show m + 1 - x = (m - x) + 1 by omega, fb_sm_succ]
    · rw [if_neg h, show m + 1 - x = 0 by omega, show m - x = 0 by omega, Nat.add_zero]
theorem fb_sm_more {f : Nat → Nat} {m : Nat} (h : ∀ s, m ≤ s → f s = 0) : ∀ k, fb_sm f (m + k) = fb_sm f m
  | 0 => rfl
  | k + 1 => by
    show fb_sm f (m + k) + f (m + k) = fb_sm f m
    rw [fb_sm_more h k, h (m + k) (by omega), Nat.add_zero]
theorem cL_all : ∀ (l : List Nat) (m : Nat), l.sum < m → fb_sm (cL l) m = 2 ^ l.length
  | [], m, h => by
    obtain ⟨k, rfl⟩ : ∃ k, m = 1 + k := ⟨m - 1, by omega⟩
    rw [fb_sm_more (fun s hs => by simp only [cL]; rw [if_neg (by omega)])]
    rfl
  | x :: l, m, h => by
    rw [List.sum_cons] at h
    have e : fb_sm (cL (x :: l)) m = fb_sm (fun s => cL l s + (if x ≤ s then cL l (s - x) else 0)) m := rfl
    rw [e, fb_sm_add, fb_sm_shift, cL_all l m (by omega), cL_all l (m - x) (by omega), List.length_cons, Nat.pow_succ]; omega
/-- the rows of (1) -/
theorem shV_bit (g : Nat → Nat) : ∀ (n s : Nat), s ≤ 300 → (shV g n).testBit s = decide (0 < cW g n s)
  | 0, s, _ => by
    show (1 : Nat).testBit s = decide (0 < f0W s)
    unfold f0W
    by_cases h : s = 0
    · subst h; rfl
    · rw [if_neg h]
      have : (1 : Nat) < 2 ^ s := Nat.one_lt_two_pow h
      rw [Nat.testBit_lt_two_pow this]; rfl
  | n + 1, s, h => by
    rw [shV, Nat.testBit_or, Nat.testBit_shiftLeft, shV_bit g n s h]
    show _ = decide (0 < dnT opW (g n) (fiD opW f0W g n) s)
    unfold dnT
    by_cases h1 : g n ≤ s
    · rw [if_pos ⟨h1, h⟩, shV_bit g n (s - g n) (by omega), decide_eq_true (show s ≥ g n from h1), Bool.true_and]
      show _ = decide (0 < cW g n s + cW g n (s - g n))
      by_cases h2 : 0 < cW g n s <;> by_cases h3 : 0 < cW g n (s - g n) <;> simp [h2, h3] <;> omega
    · rw [if_neg (fun q => h1 q.1), decide_eq_false (show ¬ s ≥ g n from h1), Bool.false_and, Bool.or_false]
theorem shV_hi {g : Nat → Nat} {n s : Nat} (hT : su_sm g n ≤ 300) (h : 300 < s) : (shV g n).testBit s = false :=
  Nat.testBit_lt_two_pow (Nat.lt_of_lt_of_le (shV_lt g n) (Nat.pow_le_pow_right (by decide) (by omega)))
theorem fiS_bit (g : Nat → Nat) : ∀ (n s : Nat), s ≤ 300 → fiD opS f0S g n s = decide (0 < cW g n s)
  | 0, s, _ => by
    show f0S s = decide (0 < f0W s)
    unfold f0S f0W
    by_cases h : s = 0
    · subst h; rfl
    · rw [if_neg h, decide_eq_false h]; rfl
  | n + 1, s, h => by
    show dnT opS (g n) (fiD opS f0S g n) s = decide (0 < dnT opW (g n) (fiD opW f0W g n) s)
    unfold dnT
    by_cases h1 : g n ≤ s
    · rw [if_pos ⟨h1, h⟩, if_pos ⟨h1, h⟩, fiS_bit g n s h, fiS_bit g n (s - g n) (by omega)]
      show (decide (0 < cW g n s) || decide (0 < cW g n (s - g n))) = decide (0 < cW g n s + cW g n (s - g n))
      by_cases h2 : 0 < cW g n s <;> by_cases h3 : 0 < cW g n (s - g n) <;> simp [h2, h3] <;> omega
    · rw [if_neg (fun q => h1 q.1), if_neg (fun q => h1 q.1)]; exact fiS_bit g n s h
theorem cW_le (g : Nat → Nat) (n s : Nat) : cW g n s ≤ 2 ^ n := by
  rcases Nat.lt_or_ge 300 s with h | h
  · rw [cW_big g n s h]; exact Nat.zero_le _
  · rw [cW_L g n s h]
    have := cL_le (su_lst g n) s
    rwa [su_lst_len] at this
theorem cW_out {g : Nat → Nat} {n s : Nat} (h : su_sm g n < s) : cW g n s = 0 := by
  rcases Nat.lt_or_ge 300 s with h1 | h1
  · exact cW_big g n s h1
  · rw [cW_L g n s h1]; exact cL_out _ _ (by rw [← su_sm_L]; exact h)
theorem cW_all {g : Nat → Nat} {n : Nat} (hT : su_sm g n ≤ 300) : fb_sm (cW g n) 301 = 2 ^ n := by
  rw [fb_sm_cong (fun k hk => cW_L g n k (by omega)), cL_all _ _ (by rw [← su_sm_L]; omega), su_lst_len]
theorem cW_mir {g : Nat → Nat} {n s : Nat} (hT : su_sm g n ≤ 300) (h : s ≤ su_sm g n) : cW g n s = cW g n (su_sm g n - s) := by
  rw [cW_L g n s (by omega), cW_L g n _ (by omega), su_sm_L g n]
  exact cL_mir _ _ (by rw [← su_sm_L]; exact h)
/-- the count row -/
def enc (f : Nat → Nat) (m : Nat) : Nat := fb_sm (fun s => f s * 2 ^ (21 * s)) m
theorem enc_lt {f : Nat → Nat} (h : ∀ s, f s < 2 ^ 21) : ∀ m, enc f m < 2 ^ (21 * m)
  | 0 => by show 0 < 2 ^ (21 * 0); decide
  | m + 1 => by
    have ih := enc_lt h m
    have := h m
    show enc f m + f m * 2 ^ (21 * m) < _
    rw [show 21 * (m + 1) = 21 + 21 * m by omega, Nat.pow_add]
    have h2 : (f m + 1) * 2 ^ (21 * m) ≤ 2 ^ 21 * 2 ^ (21 * m) := Nat.mul_le_mul_right _ this
    rw [Nat.succ_mul] at h2; omega
theorem enc_dig {f : Nat → Nat} (h : ∀ s, f s < 2 ^ 21) {s : Nat} : ∀ m, s < m → (enc f m >>> (21 * s)) % 2 ^ 21 = f s
  | 0, hs => absurd hs (Nat.not_lt_zero _)
  | m + 1, hs => by
    show ((enc f m + f m * 2 ^ (21 * m)) >>> (21 * s)) % 2 ^ 21 = f s
    rw [Nat.shiftRight_eq_div_pow]
    by_cases he : s = m
    · subst he
      rw [Nat.add_mul_div_right _ _ (Nat.two_pow_pos _), Nat.div_eq_of_lt (enc_lt h s), Nat.zero_add, Nat.mod_eq_of_lt (h s)]
    · obtain ⟨d, rfl⟩ : ∃ d, m = s + (d + 1) := ⟨m - s - 1, by omega⟩
      have ih := enc_dig h (s := s) (s + (d + 1)) (by omega)
      rw [Nat.shiftRight_eq_div_pow] at ih
      rw [show f (s + (d + 1)) * 2 ^ (21 * (s + (d + 1))) = (f (s + (d + 1)) * 2 ^ (21 * d) * 2 ^ 21) * 2 ^ (21 * s) by
        rw [Nat.mul_assoc, Nat.mul_assoc, ← Nat.pow_add, ← Nat.pow_add]; congr 2; omega]
      rw [Nat.add_mul_div_right _ _ (Nat.two_pow_pos _), Nat.add_mul_mod_self_right, ih]
theorem fb_sm_mul (f : Nat → Nat) (c : Nat) : ∀ m, fb_sm f m * c = fb_sm (fun s => f s * c) m
  | 0 => Nat.zero_mul _
  | m + 1 => by rw [fb_sm_succ, fb_sm_succ, Nat.add_mul, fb_sm_mul f c m]
theorem cnV_enc (g : Nat → Nat) : ∀ n, su_sm g n ≤ 300 → cnV g n = enc (cW g n) 301
  | 0, _ => by
    show 1 = fb_sm (fun s => f0W s * 2 ^ (21 * s)) (1 + 300)
    rw [fb_sm_more (fun s hs => by unfold f0W; rw [if_neg (by omega), Nat.zero_mul])]
    rfl
  | n + 1, hT => by
    have hT' : su_sm g n + g n ≤ 300 := hT
    have ih := cnV_enc g n (by omega)
    rw [cnV, Nat.shiftLeft_eq, ih]
    have e1 : enc (cW g n) 301 * 2 ^ (21 * g n) = fb_sm (fun s => if g n ≤ s then cW g n (s - g n) * 2 ^ (21 * s) else 0) 301 := by
      have e2 : fb_sm (fun s => if g n ≤ s then cW g n (s - g n) * 2 ^ (21 * s) else 0) 301 = fb_sm (fun s => if g n ≤ s then (fun k => cW g n k * 2 ^ (21 * (k + g n))) (s - g n) else 0) 301 := by
        apply fb_sm_cong
        intro k hk
        by_cases h : g n ≤ k
        · rw [if_pos h, if_pos h]
          show _ = cW g n (k - g n) * 2 ^ (21 * (k - g n + g n))
          rw [show k - g n + g n = k by omega]
        · rw [if_neg h, if_neg h]
      rw [e2, fb_sm_shift (fun k => cW g n k * 2 ^ (21 * (k + g n))) (g n) 301, enc, fb_sm_mul]
      have e3 : 301 = (301 - g n) + g n := by omega
      conv => lhs; rw [e3]
      rw [fb_sm_more (fun s hs => by rw [cW_out (show su_sm g n < s by omega), Nat.zero_mul, Nat.zero_mul])]
      apply fb_sm_cong
      intro k hk
      show cW g n k * 2 ^ (21 * k) * 2 ^ (21 * g n) = cW g n k * 2 ^ (21 * (k + g n))
      rw [Nat.mul_assoc, ← Nat.pow_add, Nat.mul_add]
    rw [e1, enc, enc, ← fb_sm_add]
    apply fb_sm_cong
    intro k hk
    show _ = dnT opW (g n) (fiD opW f0W g n) k * 2 ^ (21 * k)
    unfold dnT
    by_cases h : g n ≤ k
    · rw [if_pos h, if_pos ⟨h, by omega⟩]
      show cW g n k * _ + cW g n (k - g n) * _ = (cW g n k + cW g n (k - g n)) * _
      rw [Nat.add_mul]
    · rw [if_neg h, if_neg (fun q => h q.1), Nat.add_zero]
theorem cnC_eq {g : Nat → Nat} {n s : Nat} (hn : n ≤ 20) (hT : su_sm g n ≤ 300) (h : s ≤ 300) : cnC g n s = cW g n s := by
  unfold cnC
  rw [cnV_enc g n hT]
  exact enc_dig (fun k => Nat.lt_of_le_of_lt (cW_le g n k) (Nat.lt_of_le_of_lt (Nat.pow_le_pow_right (by decide) hn) (by decide))) 301 (by omega)
