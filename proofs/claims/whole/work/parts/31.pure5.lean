/-! what the plays of the theorem want -/
theorem su_told1 {V : Nat} {f : Nat → Bool} (hb : ∀ s, s < 301 → V.testBit s = f s) (hh : ∀ s, 300 < s → V.testBit s = false) : su_pc V (64 * 5) = su_ct f 301 := by
  rw [show 64 * 5 = 301 + 19 from rfl, su_pc_top 19 (fun s hs => hh s (by omega))]
  exact su_pc_ct 301 hb
theorem su_told2 {V : Nat} {f : Nat → Bool} (hb : ∀ s, s < 301 → V.testBit s = f s) (hh : ∀ s, 300 < s → V.testBit s = false) : su_end V (64 * 5) = su_endB f 301 := by
  rw [show 64 * 5 = 301 + 19 from rfl, su_end_top 19 (fun s hs => hh s (by omega))]
  exact su_end_B 301 hb
theorem su_cmpS (x : Int64) : lg_cmp x x = nI 0 := by simp [lg_cmp]; rfl
theorem su_lcp {a : Nat} (h : a < 2 ^ 63) : lg_cmp (lN a) (lN 0) = bI (decide (0 < a)) := by
  have h1 : (lN a).toInt = (a : Int) := by rw [lN_ti (by omega), if_pos h]
  have h0 : (lN 0).toInt = 0 := by decide
  unfold lg_cmp
  by_cases e : a = 0
  · subst e; rw [if_neg (by decide), if_pos rfl]; rfl
  · rw [if_pos (by rw [gt_iff_lt, Int64.lt_iff_toInt_lt, h1, h0]; omega), decide_eq_true (by omega)]; rfl
theorem cW_63 {g : Nat → Nat} {n s : Nat} (hn : n ≤ 20) : cW g n s < 2 ^ 63 := by
  have h1 := cW_le g n s
  have h2 : 2 ^ n ≤ 2 ^ 20 := Nat.pow_le_pow_right (by decide) hn
  omega
theorem bI_nlt (b : Bool) : ¬ bI b < 0 := by cases b <;> decide
theorem bI_le0 {b : Bool} (h : bI b ≤ 0) : b = false := by cases b; rfl; exact absurd h (by decide)
theorem bI_nle0 {b : Bool} (h : ¬ bI b ≤ 0) : b = true := by cases b; exact absurd (show bI false ≤ 0 by decide) h; rfl
theorem su_b1 {b : Bool} (h : b = true) : nI 1 = bI b := by subst h; rfl
theorem su_b0 {b : Bool} (h : b = false) : nI 0 = bI b := by subst h; rfl
theorem su_1shl : ∀ n, n ≤ 20 → nI 1 <<< (nI n &&& 31) = nI (2 ^ n) := by
  intro n hn
  have : ∀ m, m < 21 → nI 1 <<< (nI m &&& 31) = nI (2 ^ m) := by decide +kernel
  exact this n (by omega)
theorem pk_sm {g g1 : Nat → Nat} {n n1 : Nat} {x : Int32} (h : su_lst g1 n1 = su_pk g n x) : su_sm g1 n1 ≤ su_sm g n := by
  rw [su_sm_L g1, h]; exact su_sm_pk g x n
theorem pk_mem (g : Nat → Nat) (x : Int32) : ∀ n y, y ∈ su_pk g n x → ∃ k, k < n ∧ y = g k
  | 0, y, h => absurd (show y ∈ [] from h) List.not_mem_nil
  | n + 1, y, h => by
    rw [su_pk, List.mem_append] at h
    rcases h with h | h
    · obtain ⟨k, h1, h2⟩ := pk_mem g x n y h; exact ⟨k, by omega, h2⟩
    · split at h
      · exact ⟨n, by omega, by simpa using h⟩
      · exact absurd h List.not_mem_nil
theorem lst_at {g : Nat → Nat} {n k : Nat} (h : k < n) : g k ∈ su_lst g n := List.mem_of_getElem? (su_lst_get g n k h)
theorem lst_mem (g : Nat → Nat) : ∀ n y, y ∈ su_lst g n → ∃ k, k < n ∧ y = g k
  | 0, y, h => absurd (show y ∈ [] from h) List.not_mem_nil
  | n + 1, y, h => by
    rw [su_lst, List.mem_append] at h
    rcases h with h | h
    · obtain ⟨k, h1, h2⟩ := lst_mem g n y h; exact ⟨k, by omega, h2⟩
    · exact ⟨n, by omega, by simpa using h⟩
theorem pk_hg {g g1 : Nat → Nat} {n n1 : Nat} {x : Int32} {P : Nat → Prop} (h : su_lst g1 n1 = su_pk g n x) (hg : ∀ k, k < n → P (g k)) : ∀ k, k < n1 → P (g1 k) := by
  intro k hk
  have := lst_at (g := g1) hk
  rw [h] at this
  obtain ⟨j, hj, e⟩ := pk_mem g x n _ this
  rw [e]; exact hg j hj
theorem rev_hg {g g1 : Nat → Nat} {n n1 : Nat} {P : Nat → Prop} (h : su_lst g1 n1 = (su_lst g n).reverse) (hg : ∀ k, k < n → P (g k)) : ∀ k, k < n1 → P (g1 k) := by
  intro k hk
  have := lst_at (g := g1) hk
  rw [h, List.mem_reverse] at this
  obtain ⟨j, hj, e⟩ := lst_mem g n _ this
  rw [e]; exact hg j hj
/-- choices one by one -/
def nbF (g : Nat → Nat) (n c : Nat) : Nat → Nat := fun s => fb_ct (fun c => decide (sAn g n c = s)) c
theorem nbF_S {g : Nat → Nat} {n c : Nat} (j : Nat) : fL (va_up (nbF g n c) (sAn g n c) (nbF g n c (sAn g n c) + 1)) j = fL (nbF g n (c + 1)) j := by
  unfold fL va_up nbF
  by_cases h : j = sAn g n c
  · subst h; rw [if_pos rfl, fb_ct_succ, decide_eq_true rfl]; rfl
  · rw [if_neg h, fb_ct_succ, decide_eq_false (fun q => h q.symm)]; rfl
theorem nbF_all {g : Nat → Nat} {n s : Nat} (hs : s < 301) : nbF g n (2 ^ n) s = cW g n s := (nb_eq g n s).trans (cW_L g n s (by omega)).symm
/-- joined -/
theorem jV_w1 {F m : Nat} {r : Nat → Bool} {j : Nat} (h : r m = true) : bW (jV F r m ||| shz F ((m : Nat) : Int)) j = bW (jV F r (m + 1)) j := by rw [shz_n, jV, if_pos h]
theorem jV_w0 {F m : Nat} {r : Nat → Bool} {j : Nat} (h : r m = false) : bW (jV F r m) j = bW (jV F r (m + 1)) j := by rw [jV, h, if_neg (by decide)]
/-- pairs -/
theorem conv_lo {p r : Nat → Nat} {u t : Nat} (hu : u ≤ 300) (hr : ∀ s, s ≤ 300 → t < s → r s = 0) : fb_sm (fun b => p b * r (u - b)) (u - t) = 0 := by
  have : fb_sm (fun b => p b * r (u - b)) (0 + (u - t)) = fb_sm (fun b => p b * r (u - b)) 0 := fb_sm_moreB (u - t) (fun s _ hs => by show p s * r (u - s) = 0; rw [hr (u - s) (by omega) (by omega), Nat.mul_zero])
  rw [Nat.zero_add] at this; exact this
theorem conv_hi {p r : Nat → Nat} {u t a : Nat} (hu : u ≤ 300) (ha : a ≤ u + 1) (hp : ∀ s, s ≤ 300 → t < s → p s = 0) (h : u < a ∨ t < a) : fb_sm (fun b => p b * r (u - b)) a = conv p r u := by
  have : fb_sm (fun b => p b * r (u - b)) (a + (u + 1 - a)) = fb_sm (fun b => p b * r (u - b)) a := fb_sm_moreB (u + 1 - a) (fun s h1 hs => by show p s * r (u - s) = 0; rw [hp s (by omega) (by omega), Nat.zero_mul])
  rw [← this, show a + (u + 1 - a) = u + 1 by omega]; rfl
theorem conv_congB {p p2 r r2 : Nat → Nat} {s : Nat} (h1 : ∀ a, a ≤ s → p a = p2 a) (h2 : ∀ a, a ≤ s → r a = r2 a) : conv p r s = conv p2 r2 s :=
  fb_sm_cong (fun k hk => by show p k * r (s - k) = p2 k * r2 (s - k); rw [h1 k (by omega), h2 (s - k) (by omega)])
theorem conv_cnC {g gp gr : Nat → Nat} {n np nr : Nat} {x : Int32} (hn : n ≤ 20) (hT : su_sm g n ≤ 300) (hp : su_lst gp np = su_pk g n x) (hr : su_lst gr nr = su_pk g n (x ^^^ -1)) (hnp : np ≤ 20) (hnr : nr ≤ 20) {s : Nat} (hs : s ≤ 300) : conv (cnC gp np) (cnC gr nr) s = cW g n s := by
  rw [cW_parts hn hp hr hs]
  have t1 := pk_sm hp
  have t2 := pk_sm hr
  exact conv_congB (fun a ha => cnC_eq hnp (by omega) (by omega)) (fun a ha => cnC_eq hnr (by omega) (by omega))
theorem cnC_out {g : Nat → Nat} {n s : Nat} (hn : n ≤ 20) (hT : su_sm g n ≤ 300) (hs : s ≤ 300) (h : su_sm g n < s) : cnC g n s = 0 := by rw [cnC_eq hn hT hs, cW_out h]
theorem su_minN {a b : Nat} (ha : a < 2 ^ 31) (hb : b < 2 ^ 31) : (if nI b < nI a then nI b else nI a) = nI (min a b) := by
  have q : nI b < nI a ↔ b < a := by rw [Int32.lt_iff_toInt_lt, nI_toInt hb, nI_toInt ha]; omega
  by_cases h : b < a
  · rw [if_pos (q.mpr h), Nat.min_eq_right (by omega)]
  · rw [if_neg (fun w => h (q.mp w)), Nat.min_eq_left (by omega)]
theorem su_maxN {a b : Nat} (ha : a < 2 ^ 31) (hb : b < 2 ^ 31) : (if nI 0 < nI a - nI b then nI a - nI b else nI 0) = nI (a - b) := by
  have e : (nI a - nI b).toInt = (a : Int) - b := by
    rw [Int32.toInt_sub, nI_toInt ha, nI_toInt hb, Int.bmod_eq_of_le (by omega) (by omega)]
  have h0 : (nI 0).toInt = 0 := by decide
  by_cases h : b < a
  · rw [if_pos (by rw [Int32.lt_iff_toInt_lt, e, h0]; omega), pk_sub (by omega)]
  · rw [if_neg (by rw [Int32.lt_iff_toInt_lt, e, h0]; omega), show a - b = 0 by omega]
/-- found below, of any number of times -/
def foP (g : Nat → Nat) (U : Nat → Bool) (u : Nat) : Nat → Bool := fun k => decide (g k ≤ u) && U (u - g k)
theorem foP_t {g : Nat → Nat} {U : Nat → Bool} {u k : Nat} (h : g k ≤ u) (h2 : U (u - g k) = true) : foP g U u k = true := by rw [foP, decide_eq_true h, h2]; rfl
theorem foP_f1 {g : Nat → Nat} {U : Nat → Bool} {u k : Nat} (h : u < g k) : foP g U u k = false := by rw [foP, decide_eq_false (by omega)]; rfl
theorem foP_f2 {g : Nat → Nat} {U : Nat → Bool} {u k : Nat} (h2 : U (u - g k) = false) : foP g U u k = false := by rw [foP, h2, Bool.and_false]
theorem su_any_hit {p : Nat → Bool} {n i : Nat} (h : i < n) (h2 : p i = true) : su_any p n = true := su_any_iff.mpr ⟨i, h, h2⟩
theorem su_any_S {p : Nat → Bool} {i : Nat} (h : su_any p i = false) (h2 : p i = false) : su_any p (i + 1) = false := by rw [su_any, h, h2]; rfl
theorem foP_any {g : Nat → Nat} {n u : Nat} (hg : ∀ k, k < n → 1 ≤ g k ∧ g k ≤ 300) (hu : u ≤ 300) (h0 : u ≠ 0) : su_any (foP g (fiU opS f0S g n) u) n = fiU opS f0S g n u := by
  apply Bool.eq_iff_iff.mpr
  rw [su_any_iff, oS_rec g n (fun k hk => (hg k hk).1) u hu]
  constructor
  · rintro ⟨k, hk, h⟩
    rw [foP, Bool.and_eq_true, decide_eq_true_eq] at h
    exact Or.inr ⟨k, hk, h⟩
  · rintro (h | ⟨k, hk, h1, h2⟩)
    · exact absurd h h0
    · exact ⟨k, hk, foP_t h1 h2⟩
def f1 (U : Nat → Bool) : Nat → Int64 := fun s => lN (if U s = true then 1 else 0)
theorem f1_1 {U : Nat → Bool} {i : Nat} (h : U i = true) : lN 1 = f1 U i := by rw [f1, h]; rfl
theorem f1_0 {U : Nat → Bool} {i : Nat} (h : U i = false) : lN 0 = f1 U i := by rw [f1, h]; rfl
theorem oS_z {g : Nat → Nat} {n i : Nat} (hg : ∀ k, k < n → 1 ≤ g k ∧ g k ≤ 300) (h : i = 0) : fiU opS f0S g n i = true := (oS_rec g n (fun k hk => (hg k hk).1) i (by omega)).mpr (Or.inl h)
theorem cW_lf1 {g g1 : Nat → Nat} {n n1 q : Nat} (hn : n ≤ 20) (hq : q < n) (h : su_lst g1 n1 = su_pk g n (((nI 1) <<< (nI q &&& 31)) ^^^ -1)) {s : Nat} (hs : s ≤ 300) (hl : g q ≤ s) : lN (cW g n s) - lN (cW g1 n1 (s - g q)) = lN (cW g1 n1 s) := by
  rw [cW_left hn hq h hs, if_pos hl, lN_sub (by omega), Nat.add_sub_cancel]
theorem cW_lf0 {g g1 : Nat → Nat} {n n1 q : Nat} (hn : n ≤ 20) (hq : q < n) (h : su_lst g1 n1 = su_pk g n (((nI 1) <<< (nI q &&& 31)) ^^^ -1)) {s : Nat} (hs : s ≤ 300) (hl : s < g q) : lN (cW g n s) - lN 0 = lN (cW g1 n1 s) := by
  rw [cW_left hn hq h hs, if_neg (by omega), lN_sub (by omega), Nat.add_zero, Nat.sub_zero]
