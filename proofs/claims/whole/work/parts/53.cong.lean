/-! ===== what a list of numbers says of all values; lists that hold the limits ===== -/
theorem lL_n {g g2 : Nat → Nat} {n n2 : Nat} (h : su_lst g2 n2 = su_lst g n) : n2 = n := by
  have := congrArg List.length h; rwa [su_lst_len, su_lst_len] at this
theorem lL_k {g g2 : Nat → Nat} {n n2 : Nat} (h : su_lst g2 n2 = su_lst g n) : ∀ k, k < n → g2 k = g k := by
  cases lL_n h; exact su_lst_inj h
theorem lL_fiD {α : Type} {op : α → α → α} {f0 : Nat → α} {g g2 : Nat → Nat} {n n2 : Nat} (h : su_lst g2 n2 = su_lst g n) : fiD op f0 g2 n2 = fiD op f0 g n := by cases lL_n h; exact fiD_cong (su_lst_inj h)
theorem lL_fiU {α : Type} {op : α → α → α} {f0 : Nat → α} {g g2 : Nat → Nat} {n n2 : Nat} (h : su_lst g2 n2 = su_lst g n) : fiU op f0 g2 n2 = fiU op f0 g n := by cases lL_n h; exact fiU_cong (su_lst_inj h)
theorem lL_mkD {g g2 : Nat → Nat} {n n2 : Nat} (h : su_lst g2 n2 = su_lst g n) : mkD g2 n2 = mkD g n := by unfold mkD cW; rw [lL_fiD h]
theorem lL_mkU {g g2 : Nat → Nat} {n n2 : Nat} (h : su_lst g2 n2 = su_lst g n) : mkU g2 n2 = mkU g n := by unfold mkU; rw [lL_fiU h]
theorem lL_nS {g g2 : Nat → Nat} {n n2 : Nat} (h : su_lst g2 n2 = su_lst g n) : nS g2 n2 = nS g n := by unfold nS; rw [lL_mkD h]
theorem lL_sm {g g2 : Nat → Nat} {n n2 : Nat} (h : su_lst g2 n2 = su_lst g n) : su_sm g2 n2 = su_sm g n := su_sm_eqL h
theorem lL_wm {g g2 : Nat → Nat} {n n2 k : Nat} (h : su_lst g2 n2 = su_lst g n) : wmF g2 n2 k = wmF g n k := by unfold wmF; rw [lL_fiD h]
theorem su_pk_cong {f g : Nat → Nat} {x : Int32} : ∀ {n : Nat}, (∀ k, k < n → f k = g k) → su_pk f n x = su_pk g n x
  | 0, _ => rfl
  | n + 1, h => by rw [su_pk, su_pk, su_pk_cong (fun k hk => h k (by omega)), h n (by omega)]
theorem su_sA_cong {f g : Nat → Nat} {x : Int32} : ∀ {n : Nat}, (∀ k, k < n → f k = g k) → su_sA f n x = su_sA g n x
  | 0, _ => rfl
  | n + 1, h => by rw [su_sA, su_sA, su_sA_cong (fun k hk => h k (by omega)), h n (by omega)]
theorem shV_cong {f g : Nat → Nat} : ∀ {n : Nat}, (∀ k, k < n → f k = g k) → shV f n = shV g n
  | 0, _ => rfl
  | n + 1, h => by rw [shV, shV, shV_cong (fun k hk => h k (by omega)), h n (by omega)]
theorem ckN_cong {f g : Nat → Nat} {c : Nat} : ∀ {n : Nat}, (∀ k, k < n → f k = g k) → ckN f c n = ckN g c n
  | 0, _ => rfl
  | n + 1, h => by rw [ckN, ckN, ckN_cong (fun k hk => h k (by omega)), h n (by omega)]
theorem chR_cong {f g : Nat → Nat} : ∀ {n : Nat} (l a : Nat), (∀ k, k < n → f k = g k) → chR f n l a = chR g n l a
  | 0, _, _, _ => rfl
  | n + 1, l, a, h => by
    rw [chR, chR, cW_cong (fun k hk => h k (by omega)), h n (by omega), chR_cong _ _ (fun k hk => h k (by omega)), chR_cong _ _ (fun k hk => h k (by omega))]
theorem rkR_cong {f g : Nat → Nat} {x : Int32} : ∀ {n : Nat} (l : Nat), (∀ k, k < n → f k = g k) → rkR f x n l = rkR g x n l
  | 0, _, _ => rfl
  | n + 1, l, h => by
    rw [rkR, rkR, cW_cong (fun k hk => h k (by omega)), h n (by omega), rkR_cong _ (fun k hk => h k (by omega)), rkR_cong _ (fun k hk => h k (by omega))]
theorem lL_pk {g g2 : Nat → Nat} {n n2 : Nat} {x : Int32} (h : su_lst g2 n2 = su_lst g n) : su_pk g2 n2 x = su_pk g n x := by cases lL_n h; exact su_pk_cong (su_lst_inj h)
theorem lL_sA {g g2 : Nat → Nat} {n n2 : Nat} {x : Int32} (h : su_lst g2 n2 = su_lst g n) : su_sA g2 n2 x = su_sA g n x := by cases lL_n h; exact su_sA_cong (su_lst_inj h)
theorem lL_shV {g g2 : Nat → Nat} {n n2 : Nat} (h : su_lst g2 n2 = su_lst g n) : shV g2 n2 = shV g n := by cases lL_n h; exact shV_cong (su_lst_inj h)
theorem lL_ck {g g2 : Nat → Nat} {n n2 c : Nat} (h : su_lst g2 n2 = su_lst g n) : ckN g2 c n2 = ckN g c n := by cases lL_n h; exact ckN_cong (su_lst_inj h)
theorem lL_ch {g g2 : Nat → Nat} {n n2 l a : Nat} (h : su_lst g2 n2 = su_lst g n) : chR g2 n2 l a = chR g n l a := by cases lL_n h; exact chR_cong l a (su_lst_inj h)
theorem lL_rk {g g2 : Nat → Nat} {n n2 l : Nat} {x : Int32} (h : su_lst g2 n2 = su_lst g n) : rkR g2 x n2 l = rkR g x n l := by cases lL_n h; exact rkR_cong l (su_lst_inj h)
theorem lL_tg {g g2 gb gb2 : Nat → Nat} {n n2 nb nb2 u : Nat} (h : su_lst g2 n2 = su_lst g n) (hb : su_lst gb2 nb2 = su_lst gb nb) : tgV g2 gb2 n2 nb2 u = tgV g gb n nb u := by unfold tgV; rw [lL_mkD h, lL_mkD hb]
/-! how few and how many -/
theorem fD_W (g : Nat → Nat) : ∀ n s, (0 < fiD opW f0W g n s ↔ fiD opP f0W g n s ≠ 0)
  | 0, s => by show 0 < f0W s ↔ f0W s ≠ 0; omega
  | n + 1, s => by
    show 0 < dnT opW (g n) (fiD opW f0W g n) s ↔ dnT opP (g n) (fiD opP f0W g n) s ≠ 0
    have h1 := fD_W g n s
    have h2 := fD_W g n (s - g n)
    unfold dnT
    by_cases q : g n ≤ s ∧ s ≤ 300
    · rw [if_pos q, if_pos q]
      show 0 < fiD opW f0W g n s + fiD opW f0W g n (s - g n) ↔ (fiD opP f0W g n s ||| fiD opP f0W g n (s - g n) * 2) ≠ 0
      generalize fiD opW f0W g n s = a at h1 ⊢
      generalize fiD opW f0W g n (s - g n) = b at h2 ⊢
      generalize fiD opP f0W g n s = c at h1 ⊢
      generalize fiD opP f0W g n (s - g n) = d at h2 ⊢
      rw [ne_eq, Nat.or_eq_zero_iff]; omega
    · rw [if_neg q, if_neg q]; exact h1
theorem fD_0 (g : Nat → Nat) : ∀ n s, 300 < s → fiD opF f0F g n s = 301
  | 0, s, h => by show f0F s = 301; unfold f0F; rw [if_neg (by omega)]
  | n + 1, s, h => by
    show dnT opF (g n) (fiD opF f0F g n) s = 301
    unfold dnT; rw [if_neg (by omega)]; exact fD_0 g n s h
theorem fD_big (g : Nat → Nat) : ∀ n s, fiD opP f0W g n s < 2 ^ (n + 1)
  | 0, s => by show f0W s < 2; unfold f0W; split <;> decide
  | n + 1, s => by
    show dnT opP (g n) (fiD opP f0W g n) s < 2 ^ (n + 1 + 1)
    have h1 := fD_big g n s
    have h2 := fD_big g n (s - g n)
    have e : 2 ^ (n + 1 + 1) = 2 * 2 ^ (n + 1) := by rw [Nat.pow_succ, Nat.mul_comm]
    unfold dnT
    by_cases q : g n ≤ s ∧ s ≤ 300
    · rw [if_pos q]
      show (fiD opP f0W g n s ||| fiD opP f0W g n (s - g n) * 2) < _
      exact Nat.or_lt_two_pow (by omega) (by omega)
    · rw [if_neg q]; omega
theorem mk_F {g : Nat → Nat} {n : Nat} (hn : n ≤ 20) (s : Nat) : decide (fiD opF f0F g n s < 301) = mkD g n s := by
  unfold mkD
  apply decide_eq_decide.mpr
  have hl := lowP_fi g n s
  have hb := fD_big g n s
  have hW : (0 < cW g n s ↔ fiD opP f0W g n s ≠ 0) := fD_W g n s
  rw [hW]
  constructor
  · intro h e
    have := hl.2 h
    rw [e, Nat.zero_testBit] at this; exact absurd this (by decide)
  · intro h
    have := (lowP_20 hl h hb hn).1
    omega
theorem mk_FU {g : Nat → Nat} {n s : Nat} (hg : ∀ k, k < n → 1 ≤ g k ∧ g k ≤ 300) (hs : s ≤ 300) : decide (fiU opF f0F g n s < 301) = mkU g n s := by
  unfold mkU
  have h := oF_S g n (fun k hk => (hg k hk).1) s hs
  cases hb : fiU opS f0S g n s with
  | true => exact decide_eq_true (h.mp hb)
  | false => exact decide_eq_false (fun q => by rw [h.mpr q] at hb; exact absurd hb (by decide))
theorem mkD_0 (g : Nat → Nat) (n : Nat) : mkD g n 0 = true := by unfold mkD; rw [cW_L g n 0 (by omega)]; exact decide_eq_true (cL_zero _)
theorem nS_pos (g : Nat → Nat) (n : Nat) : 1 ≤ nS g n := by
  unfold nS
  have : ∀ m, 1 ≤ su_ct (mkD g n) (m + 1) := fun m => by
    induction m with
    | zero => rw [su_ct, mkD_0, if_pos rfl]; omega
    | succ m ih => rw [su_ct]; omega
  exact this 300
theorem ctP_pk {g : Nat → Nat} {v : Nat} : ∀ {n : Nat}, n ≤ 32 → ∀ s, s ≤ 300 → ctP g v n s = cL (su_pk g n (nI v)) s
  | 0, _, s, _ => rfl
  | n + 1, hn, s, hs => by
    have ih := fun t (ht : t ≤ 300) => ctP_pk (g := g) (v := v) (n := n) (by omega) t ht
    rw [ctP, su_pk, bt_nI v (by omega)]
    cases h : v.testBit n with
    | true =>
      rw [if_pos rfl, if_pos rfl, cL_app]
      unfold dnT opW
      by_cases q : g n ≤ s
      · rw [if_pos ⟨q, hs⟩, if_pos q, ih s hs, ih (s - g n) (by omega)]
      · rw [if_neg (fun z => q z.1), if_neg q, ih s hs]; rfl
    | false => rw [if_neg (by decide), if_neg (by decide), List.append_nil]; exact ih s hs
theorem ctP_63 {g : Nat → Nat} {v n : Nat} (hn : n ≤ 20) : ∀ s, ctP g v n s < 2 ^ 63 := by
  have h : ∀ m, m ≤ 20 → ∀ s, ctP g v m s ≤ 2 ^ m := by
    intro m
    induction m with
    | zero => intro _ s; show f0W s ≤ 1; unfold f0W; split <;> omega
    | succ m ih =>
      intro hm s
      have e : 2 ^ (m + 1) = 2 * 2 ^ m := by rw [Nat.pow_succ, Nat.mul_comm]
      have h1 := ih (by omega) s
      have h2 := ih (by omega) (s - g m)
      rw [ctP]
      split
      · unfold dnT opW; split <;> omega
      · omega
  intro s
  have := h n hn s
  have h2 : 2 ^ n ≤ 2 ^ 20 := Nat.pow_le_pow_right (by decide) hn
  omega
/-! limits -/
def okL (L : List Nat) : Prop := L.length ≤ 20 ∧ L.sum ≤ 300 ∧ ∀ y, y ∈ L → 1 ≤ y ∧ y ≤ 120
theorem ok_n {g : Nat → Nat} {n : Nat} (h : okL (su_lst g n)) : n ≤ 20 := by have := h.1; rwa [su_lst_len] at this
theorem ok_T {g : Nat → Nat} {n : Nat} (h : okL (su_lst g n)) : su_sm g n ≤ 300 := by rw [su_sm_L]; exact h.2.1
theorem su_lst_mem {g : Nat → Nat} : ∀ {n y : Nat}, y ∈ su_lst g n → ∃ k, k < n ∧ y = g k
  | 0, y, h => by cases h
  | n + 1, y, h => by
    rw [su_lst] at h
    rcases List.mem_append.mp h with h | h
    · obtain ⟨k, h1, h2⟩ := su_lst_mem h; exact ⟨k, by omega, h2⟩
    · exact ⟨n, by omega, List.mem_singleton.mp h⟩
theorem su_mem_lst {g : Nat → Nat} {n k : Nat} (h : k < n) : g k ∈ su_lst g n := List.mem_of_getElem? (su_lst_get g n k h)
theorem ok_g {g : Nat → Nat} {n : Nat} (h : okL (su_lst g n)) : ∀ k, k < n → 1 ≤ g k ∧ g k ≤ 120 := fun k hk => h.2.2 _ (su_mem_lst hk)
theorem ok_h {g : Nat → Nat} {n : Nat} (h : okL (su_lst g n)) : ∀ k, k < n → 1 ≤ g k ∧ g k ≤ 300 := fun k hk => by have := ok_g h k hk; omega
theorem ok_b {g : Nat → Nat} {n : Nat} (h : okL (su_lst g n)) : ∀ k, k < n → g k ≤ 300 := fun k hk => (ok_h h k hk).2
theorem ok_nil : okL [] := ⟨by decide, by decide, fun y h => by cases h⟩
theorem ok_perm {a b : List Nat} (h : List.Perm a b) (hb : okL b) : okL a := ⟨by rw [h.length_eq]; exact hb.1, by rw [perm_sum h]; exact hb.2.1, fun y hy => hb.2.2 y (h.mem_iff.mp hy)⟩
theorem ok_ins {g : Nat → Nat} {n q v : Nat} (h : okL (su_lst g n)) (hn : n < 20) (hq : q ≤ n) (h1 : 1 ≤ v) (h2 : v ≤ 120) (h3 : su_sm g n + v ≤ 300) : okL (su_lst (su_ins g n q v) (n + 1)) := by
  refine ok_perm (su_ins_perm g q v n hq) ⟨?_, ?_, fun y hy => ?_⟩
  · rw [List.length_cons, su_lst_len]; omega
  · rw [List.sum_cons, ← su_sm_L]; omega
  · rcases List.mem_cons.mp hy with rfl | hy
    · exact ⟨h1, h2⟩
    · exact h.2.2 y hy
theorem ok_rm {g : Nat → Nat} {n q : Nat} (h : okL (su_lst g n)) (hq : q < n) : okL (su_lst (su_rm g q (n - 1)) (n - 1)) := by
  have hp := su_rm_perm g q n hq
  have hn := ok_n h
  refine ⟨by rw [su_lst_len]; omega, ?_, fun y hy => h.2.2 y (hp.mem_iff.mpr (List.mem_cons_of_mem _ hy))⟩
  have := h.2.1
  rw [perm_sum hp, List.sum_cons] at this; omega
theorem ok_up {g : Nat → Nat} {n q v : Nat} (h : okL (su_lst g n)) (hq : q < n) (h1 : 1 ≤ v) (h2 : v ≤ 120) (h3 : su_sm g n - g q + v ≤ 300) : okL (su_lst (va_up g q v) n) := by
  have hn := ok_n h
  have hs := su_sm_up (g := g) (q := q) (v := v) hq
  have hle := su_sm_le (g := g) hq
  refine ⟨by rw [su_lst_len]; exact hn, by rw [← su_sm_L]; omega, fun y hy => ?_⟩
  obtain ⟨k, hk, rfl⟩ := su_lst_mem hy
  unfold va_up
  split
  · exact ⟨h1, h2⟩
  · exact ok_g h k hk
theorem ok_app {a b : List Nat} (ha : okL a) (hb : okL b) (h1 : a.length + b.length ≤ 20) (h2 : a.sum + b.sum ≤ 300) : okL (a ++ b) :=
  ⟨by rw [List.length_append]; exact h1, by rw [List.sum_append]; exact h2, fun y hy => (List.mem_append.mp hy).elim (ha.2.2 y) (hb.2.2 y)⟩
/-! told: in or not -/
theorem inI_of {x : Int32} {a b : Nat} (hb : b < 2 ^ 31) (h : inI x (nI a) (nI b) = true) (ha : a < 2 ^ 31) : ∃ u, x = nI u ∧ a ≤ u ∧ u ≤ b := by
  unfold inI at h
  have h := of_decide_eq_true h
  rw [Int32.le_iff_toInt_le, Int32.le_iff_toInt_le, nI_toInt ha, nI_toInt hb] at h
  have e : x = nI x.toInt.toNat := by
    apply Int32.toInt_inj.mp
    rw [nI_toInt (by omega)]; omega
  exact ⟨x.toInt.toNat, e, by omega, by omega⟩
theorem inI_or (x : Int32) (a b : Nat) (ha : a < 2 ^ 31) (hb : b < 2 ^ 31) : inI x (nI a) (nI b) = false ∨ ∃ u, x = nI u ∧ a ≤ u ∧ u ≤ b := by
  cases h : inI x (nI a) (nI b) with
  | false => exact Or.inl rfl
  | true => exact Or.inr (inI_of hb h ha)
theorem hp_or (x : Int32) {n : Nat} (hn : n ≤ 20) : hp x n = false ∨ ∃ q, x = nI q ∧ q < n := by
  cases h : hp x n with
  | false => exact Or.inl rfl
  | true => obtain ⟨i, h1, h2⟩ := hp_of hn h; exact Or.inr ⟨i, h2, h1⟩
theorem ho_or (x : Int32) : x = nI 0 ∨ x = nI 1 ∨ (x ≠ 0 ∧ x ≠ nI 1 ∧ inI x (nI 0) (nI 1) = false) := by
  rcases inI_or x 0 1 (by decide) (by decide) with h | ⟨u, rfl, h1, h2⟩
  · refine Or.inr (Or.inr ⟨fun e => ?_, fun e => ?_, h⟩)
    · rw [e] at h; exact absurd h (by decide)
    · rw [e] at h; exact absurd h (by decide)
  · rcases (by omega : u = 0 ∨ u = 1) with rfl | rfl
    · exact Or.inl rfl
    · exact Or.inr (Or.inl rfl)
theorem i32_or (x : Int32) : x < 0 ∨ ∃ v, x = nI v ∧ v < 2 ^ 31 := by
  by_cases h : x < 0
  · exact Or.inl h
  · refine Or.inr ⟨x.toInt.toNat, ?_, ?_⟩
    · rw [Int32.lt_iff_toInt_lt] at h
      have h0 : (0 : Int32).toInt = 0 := by decide
      have := Int32.toInt_lt x
      apply Int32.toInt_inj.mp
      rw [nI_toInt (by omega)]; omega
    · have := Int32.toInt_lt x; omega
theorem fup (f : Nat → Bool) (b : Bool) (u : Nat) : (∃ v, u ≤ v ∧ v ≤ 300 ∧ f v = b ∧ ∀ s, u ≤ s → s < v → f s = !b) ∨ ∀ s, u ≤ s → s ≤ 300 → f s = !b := by
  have key : ∀ m, (∃ v, u ≤ v ∧ v < u + m ∧ v ≤ 300 ∧ f v = b ∧ ∀ s, u ≤ s → s < v → f s = !b) ∨ ∀ s, u ≤ s → s < u + m → s ≤ 300 → f s = !b := by
    intro m
    induction m with
    | zero => exact Or.inr (fun s h1 h2 => absurd h2 (by omega))
    | succ m ih =>
      rcases ih with ⟨v, h1, h2, h3, h4, h5⟩ | ih
      · exact Or.inl ⟨v, h1, by omega, h3, h4, h5⟩
      · by_cases hm : u + m ≤ 300
        · by_cases hb : f (u + m) = b
          · exact Or.inl ⟨u + m, by omega, by omega, hm, hb, fun s h1 h2 => ih s h1 h2 (by omega)⟩
          · refine Or.inr (fun s h1 h2 h3 => ?_)
            by_cases e : s = u + m
            · subst e; cases hf : f (u + m) <;> cases b <;> simp_all
            · exact ih s h1 (by omega) h3
        · exact Or.inr (fun s h1 h2 h3 => ih s h1 (by omega) h3)
  rcases key 301 with ⟨v, h1, h2, h3, h4, h5⟩ | h
  · exact Or.inl ⟨v, h1, h3, h4, h5⟩
  · exact Or.inr (fun s h1 h2 => h s h1 (by omega) h2)
theorem fdn (f : Nat → Bool) (b : Bool) : ∀ u, (∃ v, v ≤ u ∧ f v = b ∧ ∀ s, s ≤ u → v < s → f s = !b) ∨ ∀ s, s ≤ u → f s = !b
  | 0 => by
    by_cases h : f 0 = b
    · exact Or.inl ⟨0, by omega, h, fun s h1 h2 => absurd h2 (by omega)⟩
    · refine Or.inr (fun s h1 => ?_)
      have e : s = 0 := by omega
      subst e; cases hf : f 0 <;> cases b <;> simp_all
  | u + 1 => by
    by_cases h : f (u + 1) = b
    · exact Or.inl ⟨u + 1, by omega, h, fun s h1 h2 => absurd h2 (by omega)⟩
    · have h' : f (u + 1) = !b := by cases hf : f (u + 1) <;> cases b <;> simp_all
      rcases fdn f b u with ⟨v, h1, h2, h3⟩ | h1
      · refine Or.inl ⟨v, by omega, h2, fun s q1 q2 => ?_⟩
        by_cases e : s = u + 1
        · rw [e]; exact h'
        · exact h3 s (by omega) q2
      · refine Or.inr (fun s q1 => ?_)
        by_cases e : s = u + 1
        · rw [e]; exact h'
        · exact h1 s (by omega)
theorem pc_20 {v n : Nat} (hn : n ≤ 20) (hv : v < 2 ^ n) : su_pc v 32 = su_pc v 20 := by
  have hv' : v < 2 ^ 20 := Nat.lt_of_lt_of_le hv (Nat.pow_le_pow_right (by decide) hn)
  exact su_pc_top (V := v) (m := 20) 12 (fun s hs => Nat.testBit_lt_two_pow (Nat.lt_of_lt_of_le hv' (Nat.pow_le_pow_right (by decide) hs)))
