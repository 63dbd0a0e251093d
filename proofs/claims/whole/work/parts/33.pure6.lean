/-! what the numbers' calls want -/
theorem su_ins_perm (g : Nat → Nat) (q v : Nat) : ∀ n, q ≤ n → List.Perm (su_lst (su_ins g n q v) (n + 1)) (v :: su_lst g n)
  | 0, h => by
    have e : q = 0 := by omega
    subst e
    rw [su_ins_lst]; exact List.perm_append_comm
  | n + 1, h => by
    by_cases e : q = n + 1
    · subst e; rw [su_ins_lst]; exact List.perm_append_comm
    · have ih := su_ins_perm g q v n (by omega)
      have e1 : su_lst (su_ins g (n + 1) q v) (n + 1) = su_lst (su_ins g n q v) (n + 1) := su_lst_cong (fun k hk => by
        simp only [su_ins, va_up, su_sh]
        by_cases h1 : k = q
        · rw [if_pos h1, if_pos h1]
        · rw [if_neg h1, if_neg h1]
          by_cases h2 : q < k
          · rw [if_pos (by omega), if_pos (by omega)]
          · rw [if_neg (by omega), if_neg (by omega)])
      have e2 : su_ins g (n + 1) q v (n + 1) = g n := by
        simp only [su_ins, va_up, su_sh]
        rw [if_neg (by omega), if_pos (by omega), Nat.add_sub_cancel]
      rw [su_lst, e1, e2, su_lst]
      exact List.Perm.append_right [g n] ih
theorem su_rm_perm (g : Nat → Nat) (q : Nat) : ∀ n, q < n → List.Perm (su_lst g n) (g q :: su_lst (su_rm g q (n - 1)) (n - 1))
  | 0, h => absurd h (Nat.not_lt_zero q)
  | n + 1, h => by
    rw [Nat.add_sub_cancel]
    by_cases e : q = n
    · subst e
      have e1 : su_lst (su_rm g q q) q = su_lst g q := su_lst_cong (fun k hk => by simp only [su_rm]; rw [if_neg (by omega)])
      rw [e1, su_lst]; exact List.perm_append_comm
    · obtain ⟨m, rfl⟩ : ∃ m, n = m + 1 := ⟨n - 1, by omega⟩
      have ih := su_rm_perm g q (m + 1) (by omega)
      rw [Nat.add_sub_cancel] at ih
      have e1 : su_lst (su_rm g q (m + 1)) m = su_lst (su_rm g q m) m := su_lst_cong (fun k hk => by
        simp only [su_rm]
        by_cases h2 : q ≤ k
        · rw [if_pos (by omega), if_pos (by omega)]
        · rw [if_neg (by omega), if_neg (by omega)])
      have e2 : su_rm g q (m + 1) m = g (m + 1) := by simp only [su_rm]; rw [if_pos (by omega)]
      rw [su_lst.eq_2 (su_rm g q (m + 1)) m, e1, e2, su_lst]
      exact List.Perm.append_right [g (m + 1)] ih
theorem perm_sum {a b : List Nat} (h : List.Perm a b) : a.sum = b.sum := h.sum_nat
theorem su_sm_ins {g : Nat → Nat} {n q v : Nat} (h : q ≤ n) : su_sm (su_ins g n q v) (n + 1) = v + su_sm g n := by
  rw [su_sm_L, perm_sum (su_ins_perm g q v n h), List.sum_cons, su_sm_L]
theorem su_sm_rm {g : Nat → Nat} {n q : Nat} (h : q < n) : g q + su_sm (su_rm g q (n - 1)) (n - 1) = su_sm g n := by
  rw [su_sm_L g, perm_sum (su_rm_perm g q n h), List.sum_cons, su_sm_L]
theorem perm_hg {g g1 : Nat → Nat} {n n1 : Nat} {P : Nat → Prop} (h : ∀ y, y ∈ su_lst g1 n1 → y ∈ su_lst g n) (hg : ∀ k, k < n → P (g k)) : ∀ k, k < n1 → P (g1 k) := by
  intro k hk
  obtain ⟨j, hj, e⟩ := lst_mem g n _ (h _ (lst_at hk))
  rw [e]; exact hg j hj
theorem ins_hg {g : Nat → Nat} {n q v : Nat} {P : Nat → Prop} (h : q ≤ n) (hv : P v) (hg : ∀ k, k < n → P (g k)) : ∀ k, k < n + 1 → P (su_ins g n q v k) := by
  intro k hk
  have := (su_ins_perm g q v n h).mem_iff.mp (lst_at hk)
  rw [List.mem_cons] at this
  rcases this with e | e
  · rw [e]; exact hv
  · obtain ⟨j, hj, e2⟩ := lst_mem g n _ e
    rw [e2]; exact hg j hj
theorem rm_hg {g : Nat → Nat} {n q : Nat} {P : Nat → Prop} (h : q < n) (hg : ∀ k, k < n → P (g k)) : ∀ k, k < n - 1 → P (su_rm g q (n - 1) k) :=
  perm_hg (fun y hy => (su_rm_perm g q n h).mem_iff.mpr (List.mem_cons_of_mem _ hy)) hg
theorem su_sm_up {g : Nat → Nat} {q v : Nat} : ∀ {n : Nat}, q < n → su_sm (va_up g q v) n + g q = su_sm g n + v
  | 0, h => absurd h (Nat.not_lt_zero q)
  | n + 1, h => by
    rw [su_sm, su_sm]
    by_cases e : q = n
    · subst e
      have e1 : su_sm (va_up g q v) q = su_sm g q := by
        rw [su_sm_L, su_sm_L]; congr 1
        exact su_lst_cong (fun k hk => by unfold va_up; rw [if_neg (by omega)])
      rw [e1]; unfold va_up; rw [if_pos rfl]; omega
    · have ih := su_sm_up (g := g) (v := v) (show q < n by omega)
      have e2 : va_up g q v n = g n := by unfold va_up; rw [if_neg (by omega)]
      omega
/-- how many sums are made -/
def mkD (g : Nat → Nat) (n : Nat) : Nat → Bool := fun s => decide (0 < cW g n s)
def mkU (g : Nat → Nat) (n : Nat) : Nat → Bool := fiU opS f0S g n
def nS (g : Nat → Nat) (n : Nat) : Nat := su_ct (mkD g n) 301
theorem shV_mk {g : Nat → Nat} {n s : Nat} (h : s ≤ 300) : (shV g n).testBit s = mkD g n s := shV_bit g n s h
theorem ofV_mk {g : Nat → Nat} {n s : Nat} (hg : ∀ k, k < n → 1 ≤ g k ∧ g k ≤ 300) (h : s ≤ 300) : (ofV g n).testBit s = mkU g n s := ofV_bit (fun k hk => (hg k hk).1) s h
theorem ofV_320 (g : Nat → Nat) (n : Nat) : ofV g n < 2 ^ (64 * 5) := Nat.lt_of_lt_of_le (ofV_lt g n) (Nat.pow_le_pow_right (by decide) (by decide))
theorem su_nS {g : Nat → Nat} {n : Nat} (hT : su_sm g n ≤ 300) : su_pc (shV g n) (64 * 5) = nS g n := su_told1 (fun s hs => shV_mk (by omega)) (fun s hs => shV_hi hT hs)
theorem su_nU {g : Nat → Nat} {n : Nat} (hg : ∀ k, k < n → 1 ≤ g k ∧ g k ≤ 300) : su_pc (ofV g n) (64 * 5) = su_ct (mkU g n) 301 := su_told1 (fun s hs => ofV_mk hg (by omega)) (fun s hs => ofV_hi hs)
theorem nS_le (g : Nat → Nat) (n : Nat) : nS g n ≤ 301 := su_ct_le _ 301
theorem bI_inj {a b : Bool} (h : bI a = bI b) : a = b := by cases a <;> cases b <;> first | rfl | exact absurd h (by decide)
theorem su_hit {f : Nat → Bool} {b : Bool} {u v i : Nat} (h4 : ∀ s, u ≤ s → s < v → f s = !b) (hu : u ≤ i) (hi : i ≤ v) (h : bI (f i) = bI b) : i = v := by
  have h := bI_inj h
  rcases Nat.lt_or_ge i v with q | q
  · have := h4 i hu q
    rw [h] at this; cases b <;> exact absurd this (by decide)
  · omega
theorem su_lt0 {f : Nat → Bool} {v i : Nat} (hi : v ≤ i) (h3 : f v = false) (h : f i = true) : v < i := by
  rcases Nat.lt_or_ge v i with q | q
  · exact q
  · rw [show i = v by omega, h3] at h; exact absurd h (by decide)
theorem su_lt1 {f : Nat → Bool} {v i : Nat} (hi : v ≤ i) (h3 : f v = true) (h : f i = false) : v < i := by
  rcases Nat.lt_or_ge v i with q | q
  · exact q
  · rw [show i = v by omega, h3] at h; exact absurd h (by decide)
theorem su_prev {f : Nat → Bool} {u v i : Nat} (hi : v ≤ i) (hi2 : i ≤ u) (h4 : ∀ s, s ≤ u → v < s → f s = false) (h : f i = true) : i = v := by
  rcases Nat.lt_or_ge v i with q | q
  · have := h4 i hi2 q
    rw [h] at this; exact absurd this (by decide)
  · omega
theorem su_lastg {f : Nat → Bool} {u v i : Nat} (hi : v ≤ i) (hi2 : i ≤ u) (h4 : ∀ s, s ≤ u → v < s → f s = true) (h : f i = false) : i = v := by
  rcases Nat.lt_or_ge v i with q | q
  · have := h4 i hi2 q
    rw [h] at this; exact absurd this (by decide)
  · omega
