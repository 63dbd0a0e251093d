/-! sums of any number of times -/
theorem upP_ge {α : Type} {op : α → α → α} {num : Nat} {f : Nat → α} {s : Nat} : ∀ {t : Nat}, t ≤ s → upP op num f t s = f s
  | 0, _ => rfl
  | t + 1, h => by
    rw [upP]
    by_cases hn : num ≤ t
    · rw [if_pos hn]; unfold va_up; rw [if_neg (by omega)]; exact upP_ge (by omega)
    · rw [if_neg hn]; exact upP_ge (by omega)
theorem upP_st {α : Type} {op : α → α → α} {num : Nat} {f : Nat → α} {s : Nat} : ∀ k, upP op num f (s + 1 + k) s = upP op num f (s + 1) s
  | 0 => rfl
  | k + 1 => by
    show upP op num f (s + 1 + k + 1) s = upP op num f (s + 1) s
    rw [upP.eq_2 op num f (s + 1 + k)]
    by_cases hn : num ≤ s + 1 + k
    · rw [if_pos hn, ← upP_st k]; unfold va_up; rw [if_neg (by omega)]
    · rw [if_neg hn]; exact upP_st k
theorem upP_is {α : Type} {op : α → α → α} {num : Nat} {f : Nat → α} {s t : Nat} (h : s < t) : upP op num f t s = upP op num f (s + 1) s := by
  obtain ⟨k, rfl⟩ : ∃ k, t = s + 1 + k := ⟨t - (s + 1), by omega⟩
  exact upP_st k
theorem upT_rec {α : Type} {op : α → α → α} {num : Nat} {f : Nat → α} {s : Nat} (h1 : 1 ≤ num) (hs : s ≤ 300) : upT op num f s = if num ≤ s then op (f s) (upT op num f (s - num)) else f s := by
  have e0 : upT op num f s = upP op num f (s + 1) s := upP_is (by omega)
  rw [e0, upP]
  by_cases hn : num ≤ s
  · have e1 : upT op num f (s - num) = upP op num f s (s - num) := by
      show upP op num f 301 (s - num) = _
      rw [upP_is (show s - num < s by omega)]; exact upP_is (by omega)
    rw [if_pos hn, if_pos hn, e1, upP_ge (Nat.le_refl s)]
    unfold va_up; rw [if_pos rfl]
  · rw [if_neg hn, if_neg hn, upP_ge (Nat.le_refl s)]
theorem oS_step {g : Nat → Nat} {n s : Nat} (h1 : 1 ≤ g n) (hs : s ≤ 300) : fiU opS f0S g (n + 1) s = true ↔ fiU opS f0S g n s = true ∨ (g n ≤ s ∧ fiU opS f0S g (n + 1) (s - g n) = true) := by
  show upT opS (g n) (fiU opS f0S g n) s = true ↔ _ ∨ (_ ∧ upT opS (g n) (fiU opS f0S g n) (s - g n) = true)
  rw [upT_rec h1 hs]
  by_cases hn : g n ≤ s
  · rw [if_pos hn, opS, Bool.or_eq_true]; exact ⟨fun h => h.elim Or.inl (fun q => Or.inr ⟨hn, q⟩), fun h => h.elim Or.inl (fun q => Or.inr q.2)⟩
  · rw [if_neg hn]; exact ⟨Or.inl, fun h => h.elim id (fun q => absurd q.1 hn)⟩
theorem oS_rec (g : Nat → Nat) : ∀ n, (∀ k, k < n → 1 ≤ g k) → ∀ s, s ≤ 300 → (fiU opS f0S g n s = true ↔ s = 0 ∨ ∃ k, k < n ∧ g k ≤ s ∧ fiU opS f0S g n (s - g k) = true)
  | 0, _, s, _ => by
    show decide (s = 0) = true ↔ _
    rw [decide_eq_true_eq]
    exact ⟨Or.inl, fun h => h.elim id (fun ⟨k, hk, _⟩ => absurd hk (Nat.not_lt_zero k))⟩
  | n + 1, hg, s, hs => by
    have ih := oS_rec g n (fun k hk => hg k (by omega))
    have h1 := hg n (by omega)
    constructor
    · intro h
      rcases (oS_step h1 hs).mp h with q | ⟨q1, q2⟩
      · rcases (ih s hs).mp q with q | ⟨k, hk, hk2, hk3⟩
        · exact Or.inl q
        · exact Or.inr ⟨k, by omega, hk2, (oS_step h1 (by omega)).mpr (Or.inl hk3)⟩
      · exact Or.inr ⟨n, by omega, q1, q2⟩
    · intro h
      rcases h with q | ⟨k, hk, hk2, hk3⟩
      · exact (oS_step h1 hs).mpr (Or.inl ((ih s hs).mpr (Or.inl q)))
      · rcases Nat.lt_or_ge k n with hkn | hkn
        · induction s using Nat.strongRecOn with
          | _ s rec =>
            rcases (oS_step h1 (by omega)).mp hk3 with q | ⟨q1, q2⟩
            · exact (oS_step h1 hs).mpr (Or.inl ((ih s hs).mpr (Or.inr ⟨k, hkn, hk2, q⟩)))
            · refine (oS_step h1 hs).mpr (Or.inr ⟨by omega, rec (s - g n) (by omega) (by omega) (by omega) ?_⟩)
              rw [show s - g n - g k = s - g k - g n by omega]; exact q2
        · have e : k = n := by omega
          subst e
          exact (oS_step h1 hs).mpr (Or.inr ⟨hk2, hk3⟩)
theorem ofP_bit {V num : Nat} : ∀ t s, s ≤ 300 → ((ofP V num t).testBit s = true ↔ ∃ j, j < 2 ^ t ∧ j * num ≤ s ∧ V.testBit (s - j * num) = true)
  | 0, s, _ => by
    constructor
    · intro h; exact ⟨0, by decide, by omega, by rw [Nat.zero_mul]; exact h⟩
    · rintro ⟨j, h1, _, h3⟩
      have e : j = 0 := by simpa using h1
      subst e
      rw [Nat.zero_mul] at h3; exact h3
  | t + 1, s, hs => by
    rw [ofP, Nat.testBit_and, Nat.testBit_or, Nat.testBit_shiftLeft, Nat.testBit_two_pow_sub_one, decide_eq_true (show s < 301 by omega), Bool.and_true, Bool.or_eq_true, Bool.and_eq_true, decide_eq_true_eq, ofP_bit t s hs]
    have hp : (2 : Nat) ^ (t + 1) = 2 ^ t + 2 ^ t := by rw [Nat.pow_succ]; omega
    constructor
    · rintro (⟨j, h1, h2, h3⟩ | ⟨h0, h⟩)
      · exact ⟨j, by omega, h2, h3⟩
      · obtain ⟨j, h1, h2, h3⟩ := (ofP_bit t _ (by omega)).mp h
        refine ⟨j + 2 ^ t, by omega, ?_, ?_⟩
        · rw [Nat.add_mul, Nat.mul_comm (2 ^ t)]; omega
        · rw [Nat.add_mul, Nat.mul_comm (2 ^ t), show s - (j * num + num * 2 ^ t) = s - num * 2 ^ t - j * num by omega]; exact h3
    · rintro ⟨j, h1, h2, h3⟩
      rcases Nat.lt_or_ge j (2 ^ t) with q | q
      · exact Or.inl ⟨j, q, h2, h3⟩
      · obtain ⟨i, rfl⟩ : ∃ i, j = i + 2 ^ t := ⟨j - 2 ^ t, by omega⟩
        rw [Nat.add_mul, Nat.mul_comm (2 ^ t)] at h2 h3
        refine Or.inr ⟨by omega, (ofP_bit t _ (by omega)).mpr ⟨i, by omega, by omega, ?_⟩⟩
        rw [show s - num * 2 ^ t - i * num = s - (i * num + num * 2 ^ t) by omega]; exact h3
theorem upS_bit {f : Nat → Bool} {num : Nat} (h1 : 1 ≤ num) (s : Nat) (hs : s ≤ 300) : upT opS num f s = true ↔ ∃ j, j * num ≤ s ∧ f (s - j * num) = true := by
  induction s using Nat.strongRecOn with
  | _ s rec =>
    rw [upT_rec h1 hs]
    by_cases hn : num ≤ s
    · rw [if_pos hn, opS, Bool.or_eq_true, rec (s - num) (by omega) (by omega)]
      constructor
      · rintro (h | ⟨j, h2, h3⟩)
        · exact ⟨0, by omega, by rw [Nat.zero_mul]; exact h⟩
        · refine ⟨j + 1, ?_, ?_⟩
          · rw [Nat.succ_mul]; omega
          · rw [Nat.succ_mul, show s - (j * num + num) = s - num - j * num by omega]; exact h3
      · rintro ⟨j, h2, h3⟩
        cases j with
        | zero => rw [Nat.zero_mul] at h3; exact Or.inl h3
        | succ j =>
          rw [Nat.succ_mul] at h2 h3
          refine Or.inr ⟨j, by omega, ?_⟩
          rw [show s - num - j * num = s - (j * num + num) by omega]; exact h3
    · rw [if_neg hn]
      constructor
      · intro h; exact ⟨0, by omega, by rw [Nat.zero_mul]; exact h⟩
      · rintro ⟨j, h2, h3⟩
        cases j with
        | zero => rw [Nat.zero_mul] at h3; exact h3
        | succ j => rw [Nat.succ_mul] at h2; omega
theorem ofV_bit {g : Nat → Nat} : ∀ {n : Nat}, (∀ k, k < n → 1 ≤ g k) → ∀ s, s ≤ 300 → (ofV g n).testBit s = fiU opS f0S g n s
  | 0, _, s, _ => by
    show (1 : Nat).testBit s = decide (s = 0)
    rw [show (1 : Nat) = 2 ^ 0 from rfl, Nat.testBit_two_pow]
    exact decide_eq_decide.mpr ⟨fun h => h.symm, fun h => h.symm⟩
  | n + 1, hg, s, hs => by
    have ih := ofV_bit (fun k hk => hg k (by omega) : ∀ k, k < n → 1 ≤ g k)
    have h1 := hg n (by omega)
    apply Bool.eq_iff_iff.mpr
    show (ofP (ofV g n) (g n) 9).testBit s = true ↔ upT opS (g n) (fiU opS f0S g n) s = true
    rw [ofP_bit 9 s hs, upS_bit h1 s hs]
    constructor
    · rintro ⟨j, _, h2, h3⟩
      exact ⟨j, h2, by rw [← ih _ (by omega)]; exact h3⟩
    · rintro ⟨j, h2, h3⟩
      refine ⟨j, ?_, h2, by rw [ih _ (by omega)]; exact h3⟩
      have : j * 1 ≤ j * g n := Nat.mul_le_mul_left _ h1
      omega
theorem ofV_hi {g : Nat → Nat} {n s : Nat} (h : 300 < s) : (ofV g n).testBit s = false :=
  Nat.testBit_lt_two_pow (Nat.lt_of_lt_of_le (ofV_lt g n) (Nat.pow_le_pow_right (by decide) (by omega)))
/-! fewest, of any number of times -/
theorem oF_step {g : Nat → Nat} {n s : Nat} (h1 : 1 ≤ g n) (hs : s ≤ 300) : fiU opF f0F g (n + 1) s = if g n ≤ s then min (fiU opF f0F g n s) (fiU opF f0F g (n + 1) (s - g n) + 1) else fiU opF f0F g n s := upT_rec h1 hs
theorem oF_0 (g : Nat → Nat) : ∀ n, (∀ k, k < n → 1 ≤ g k) → fiU opF f0F g n 0 = 0
  | 0, _ => rfl
  | n + 1, hg => by
    have h1 := hg n (by omega)
    rw [oF_step h1 (by omega), if_neg (by omega)]
    exact oF_0 g n (fun k hk => hg k (by omega))
theorem oF_dn {g : Nat → Nat} {n s : Nat} (h1 : 1 ≤ g n) (hs : s ≤ 300) : fiU opF f0F g (n + 1) s ≤ fiU opF f0F g n s := by
  rw [oF_step h1 hs]; split
  · exact Nat.min_le_left _ _
  · exact Nat.le_refl _
theorem oF_le (g : Nat → Nat) : ∀ n, (∀ k, k < n → 1 ≤ g k) → ∀ s, s ≤ 300 → ∀ k, k < n → g k ≤ s → fiU opF f0F g n s ≤ fiU opF f0F g n (s - g k) + 1
  | 0, _, _, _, k, hk, _ => absurd hk (Nat.not_lt_zero k)
  | n + 1, hg, s, hs, k, hk, hk2 => by
    have ih := oF_le g n (fun k hk => hg k (by omega))
    have h1 := hg n (by omega)
    rcases Nat.lt_or_ge k n with hkn | hkn
    · induction s using Nat.strongRecOn with
      | _ s rec =>
        have a1 := oF_dn h1 hs
        have a2 := ih s hs k hkn hk2
        have a3 := oF_step (g := g) (n := n) (s := s - g k) h1 (by omega)
        by_cases q : g n ≤ s - g k
        · rw [if_pos q] at a3
          have a4 := rec (s - g n) (by omega) (by omega) (by omega)
          have a5 := oF_step (g := g) (n := n) (s := s) h1 hs
          rw [if_pos (by omega)] at a5
          have a6 := Nat.min_le_right (fiU opF f0F g n s) (fiU opF f0F g (n + 1) (s - g n) + 1)
          rw [show s - g n - g k = s - g k - g n by omega] at a4
          rw [Nat.min_def] at a3
          split at a3 <;> omega
        · rw [if_neg q] at a3
          omega
    · have e : k = n := by omega
      subst e
      have a5 := oF_step (g := g) (n := k) (s := s) h1 hs
      rw [if_pos hk2] at a5
      have a6 := Nat.min_le_right (fiU opF f0F g k s) (fiU opF f0F g (k + 1) (s - g k) + 1)
      omega
theorem oF_at (g : Nat → Nat) : ∀ n, (∀ k, k < n → 1 ≤ g k) → ∀ s, s ≤ 300 → s ≠ 0 → fiU opF f0F g n s = 301 ∨ ∃ k, k < n ∧ g k ≤ s ∧ fiU opF f0F g n s = fiU opF f0F g n (s - g k) + 1
  | 0, _, s, _, h => by
    refine Or.inl ?_
    show (if s = 0 then 0 else 301) = 301
    rw [if_neg h]
  | n + 1, hg, s, hs, h => by
    have ih := oF_at g n (fun k hk => hg k (by omega)) s hs h
    have h1 := hg n (by omega)
    have a5 := oF_step (g := g) (n := n) (s := s) h1 hs
    have key : fiU opF f0F g (n + 1) s = fiU opF f0F g n s ∨ (g n ≤ s ∧ fiU opF f0F g (n + 1) s = fiU opF f0F g (n + 1) (s - g n) + 1) := by
      by_cases q : g n ≤ s
      · rw [if_pos q, Nat.min_def] at a5
        split at a5
        · exact Or.inl a5
        · exact Or.inr ⟨q, a5⟩
      · rw [if_neg q] at a5; exact Or.inl a5
    rcases key with q | ⟨q1, q2⟩
    · rcases ih with r | ⟨k, hk, hk2, hk3⟩
      · exact Or.inl (by omega)
      · refine Or.inr ⟨k, by omega, hk2, ?_⟩
        have b1 := oF_dn (g := g) (n := n) (s := s - g k) h1 (by omega)
        have b2 := oF_le g (n + 1) hg s hs k (by omega) hk2
        omega
    · exact Or.inr ⟨n, by omega, q1, q2⟩
theorem oF_sm (g : Nat → Nat) {n : Nat} (hg : ∀ k, k < n → 1 ≤ g k) (s : Nat) (hs : s ≤ 300) (h : fiU opF f0F g n s < 301) : fiU opF f0F g n s ≤ s := by
  induction s using Nat.strongRecOn with
  | _ s rec =>
    by_cases h0 : s = 0
    · subst h0; rw [oF_0 g n hg]; exact Nat.le_refl _
    · rcases oF_at g n hg s hs h0 with q | ⟨k, hk, hk2, hk3⟩
      · omega
      · have := hg k hk
        have := rec (s - g k) (by omega) (by omega) (by omega)
        omega
theorem oF_S (g : Nat → Nat) : ∀ n, (∀ k, k < n → 1 ≤ g k) → ∀ s, s ≤ 300 → (fiU opS f0S g n s = true ↔ fiU opF f0F g n s < 301) := by
  intro n hg s hs
  induction s using Nat.strongRecOn with
  | _ s rec =>
    rw [oS_rec g n hg s hs]
    constructor
    · rintro (h | ⟨k, hk, hk2, hk3⟩)
      · subst h; rw [oF_0 g n hg]; decide
      · have h1 := hg k hk
        have a1 := (rec (s - g k) (by omega) (by omega)).mp hk3
        have a2 := oF_sm g hg (s - g k) (by omega) a1
        have a3 := oF_le g n hg s hs k hk hk2
        omega
    · intro h
      by_cases h0 : s = 0
      · exact Or.inl h0
      · rcases oF_at g n hg s hs h0 with q | ⟨k, hk, hk2, hk3⟩
        · omega
        · have h1 := hg k hk
          exact Or.inr ⟨k, hk, hk2, (rec (s - g k) (by omega) (by omega)).mpr (by omega)⟩
def su_any (p : Nat → Bool) : Nat → Bool
  | 0 => false
  | n + 1 => su_any p n || p n
theorem su_any_iff {p : Nat → Bool} : ∀ {n : Nat}, su_any p n = true ↔ ∃ k, k < n ∧ p k = true
  | 0 => ⟨fun h => absurd (show false = true from h) (by decide), fun ⟨k, hk, _⟩ => absurd hk (Nat.not_lt_zero k)⟩
  | n + 1 => by
    rw [su_any, Bool.or_eq_true, su_any_iff]
    constructor
    · rintro (⟨k, hk, h⟩ | h)
      · exact ⟨k, by omega, h⟩
      · exact ⟨n, by omega, h⟩
    · rintro ⟨k, hk, h⟩
      rcases Nat.lt_or_ge k n with q | q
      · exact Or.inl ⟨k, q, h⟩
      · rw [show k = n by omega] at h; exact Or.inr h
