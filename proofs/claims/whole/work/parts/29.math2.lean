/-! orders, parts, one left out, choices one by one -/
theorem cW_rev {g g1 : Nat → Nat} {n n1 s : Nat} (h : su_lst g1 n1 = (su_lst g n).reverse) (hs : s ≤ 300) : cW g1 n1 s = cW g n s := by
  rw [cW_L g1 n1 s hs, cW_L g n s hs, h]
  exact cL_perm (List.reverse_perm _) s
theorem su_sm_rev {g g1 : Nat → Nat} {n n1 : Nat} (h : su_lst g1 n1 = (su_lst g n).reverse) : su_sm g1 n1 = su_sm g n := by
  rw [su_sm_L, su_sm_L, h, List.sum_reverse]
theorem cW_eqL {g g1 : Nat → Nat} {n n1 s : Nat} (h : su_lst g1 n1 = su_lst g n) (hs : s ≤ 300) : cW g1 n1 s = cW g n s := by
  rw [cW_L g1 n1 s hs, cW_L g n s hs, h]
theorem su_sm_eqL {g g1 : Nat → Nat} {n n1 : Nat} (h : su_lst g1 n1 = su_lst g n) : su_sm g1 n1 = su_sm g n := by
  rw [su_sm_L, su_sm_L, h]
theorem su_sm_pk (g : Nat → Nat) (x : Int32) : ∀ n, (su_pk g n x).sum ≤ su_sm g n
  | 0 => Nat.le_refl _
  | n + 1 => by
    have ih := su_sm_pk g x n
    rw [su_pk, List.sum_append, su_sm]
    split <;> simp <;> omega
theorem bt_not (x : Int32) {i : Nat} (h : i < 32) : bt (x ^^^ -1) i = !bt x i := by rw [b_xor, b_m1 i h, Bool.xor_true]
def conv (p r : Nat → Nat) (s : Nat) : Nat := fb_sm (fun a => p a * r (s - a)) (s + 1)
theorem fb_sm_moreB {f : Nat → Nat} {m : Nat} : ∀ k, (∀ s, m ≤ s → s < m + k → f s = 0) → fb_sm f (m + k) = fb_sm f m
  | 0, _ => rfl
  | k + 1, h => by
    show fb_sm f (m + k) + f (m + k) = fb_sm f m
    rw [fb_sm_moreB k (fun s h1 h2 => h s h1 (by omega)), h (m + k) (by omega) (by omega), Nat.add_zero]
theorem conv_L (p r : Nat → Nat) (k s : Nat) : conv (fun a => p a + (if k ≤ a then p (a - k) else 0)) r s = conv p r s + (if k ≤ s then conv p r (s - k) else 0) := by
  unfold conv
  have e1 : fb_sm (fun a => (p a + (if k ≤ a then p (a - k) else 0)) * r (s - a)) (s + 1) = fb_sm (fun a => p a * r (s - a) + (if k ≤ a then (fun b => p b * r (s - (b + k))) (a - k) else 0)) (s + 1) := by
    apply fb_sm_cong
    intro a _
    by_cases h : k ≤ a
    · rw [if_pos h, if_pos h, Nat.add_mul]
      show _ = _ + p (a - k) * r (s - (a - k + k))
      rw [show a - k + k = a by omega]
    · rw [if_neg h, if_neg h, Nat.add_zero, Nat.add_zero]
  rw [e1, fb_sm_add, fb_sm_shift (fun b => p b * r (s - (b + k))) k (s + 1)]
  by_cases h : k ≤ s
  · rw [if_pos h, show s + 1 - k = s - k + 1 by omega]
    congr 1
    apply fb_sm_cong
    intro a _
    show p a * r (s - (a + k)) = p a * r (s - k - a)
    rw [show s - (a + k) = s - k - a by omega]
  · rw [if_neg h, show s + 1 - k = 0 by omega]; rfl
theorem conv_R (p r : Nat → Nat) (k s : Nat) : conv p (fun a => r a + (if k ≤ a then r (a - k) else 0)) s = conv p r s + (if k ≤ s then conv p r (s - k) else 0) := by
  unfold conv
  have e1 : fb_sm (fun a => p a * (r (s - a) + (if k ≤ s - a then r (s - a - k) else 0))) (s + 1) = fb_sm (fun a => p a * r (s - a) + (if k ≤ s - a then p a * r (s - a - k) else 0)) (s + 1) := by
    apply fb_sm_cong
    intro a _
    by_cases h : k ≤ s - a
    · rw [if_pos h, if_pos h, Nat.mul_add]
    · rw [if_neg h, if_neg h, Nat.add_zero, Nat.add_zero]
  rw [e1, fb_sm_add]
  congr 1
  by_cases h : k ≤ s
  · rw [if_pos h, show s + 1 = s - k + 1 + k by omega, fb_sm_moreB k (fun a h1 h2 => by rw [if_neg (by omega)])]
    apply fb_sm_cong
    intro a ha
    rw [if_pos (by omega), show s - a - k = s - k - a by omega]
  · rw [if_neg h]
    have : fb_sm (fun a => if k ≤ s - a then p a * r (s - a - k) else 0) (s + 1) = fb_sm (fun _ => 0) (s + 1) := fb_sm_cong (fun a _ => if_neg (by omega))
    rw [this, fb_sm_const, Nat.mul_zero]
theorem conv_cong {p p2 r r2 : Nat → Nat} {s : Nat} (h1 : ∀ a, p a = p2 a) (h2 : ∀ a, r a = r2 a) : conv p r s = conv p2 r2 s :=
  fb_sm_cong (fun a _ => by rw [h1, h2])
theorem cL_parts (g : Nat → Nat) {x y : Int32} : ∀ n, (∀ i, i < n → bt y i = !bt x i) → ∀ s, cL (su_lst g n) s = conv (cL (su_pk g n x)) (cL (su_pk g n y)) s
  | 0, _, s => by
    show cL [] s = conv (cL []) (cL []) s
    unfold conv
    rw [show s + 1 = 1 + s by omega, fb_sm_moreB s (fun a h1 h2 => by simp only [cL]; rw [if_neg (by omega), Nat.zero_mul])]
    show _ = 0 + cL [] 0 * cL [] (s - 0)
    simp [cL]
  | n + 1, h, s => by
    have ih := cL_parts g n (fun i hi => h i (by omega))
    rw [su_lst, cL_app, ih s]
    have hy := h n (by omega)
    by_cases hx : bt x n = true
    · rw [hx] at hy
      have e1 : su_pk g (n + 1) x = su_pk g n x ++ [g n] := by rw [su_pk, if_pos hx]
      have e2 : su_pk g (n + 1) y = su_pk g n y := by rw [su_pk, hy]; simp
      rw [e1, e2, conv_cong (p2 := fun a => cL (su_pk g n x) a + (if g n ≤ a then cL (su_pk g n x) (a - g n) else 0)) (fun a => cL_app _ _ a) (fun a => rfl), conv_L]
      congr 1
      split
      · exact ih _
      · rfl
    · have hx2 : bt x n = false := by simpa using hx
      rw [hx2] at hy
      have e1 : su_pk g (n + 1) x = su_pk g n x := by rw [su_pk, hx2]; simp
      have e2 : su_pk g (n + 1) y = su_pk g n y ++ [g n] := by rw [su_pk, if_pos (by simpa using hy)]
      rw [e1, e2, conv_cong (r2 := fun a => cL (su_pk g n y) a + (if g n ≤ a then cL (su_pk g n y) (a - g n) else 0)) (fun a => rfl) (fun a => cL_app _ _ a), conv_R]
      congr 1
      split
      · exact ih _
      · rfl
theorem cW_parts {g gp gr : Nat → Nat} {n np nr : Nat} {x : Int32} (hn : n ≤ 20) (hp : su_lst gp np = su_pk g n x) (hr : su_lst gr nr = su_pk g n (x ^^^ -1)) {s : Nat} (hs : s ≤ 300) : cW g n s = conv (cW gp np) (cW gr nr) s := by
  rw [cW_L g n s hs, cL_parts g (x := x) (y := x ^^^ -1) n (fun i hi => bt_not x (by omega)) s]
  unfold conv
  apply fb_sm_cong
  intro a ha
  rw [cW_L gp np a (by omega), cW_L gr nr (s - a) (by omega), hp, hr]
theorem su_sm_parts {g gp gr : Nat → Nat} {n np nr : Nat} {x : Int32} (hn : n ≤ 20) (hp : su_lst gp np = su_pk g n x) (hr : su_lst gr nr = su_pk g n (x ^^^ -1)) : su_sm gp np + su_sm gr nr = su_sm g n := by
  rw [su_sm_L gp, su_sm_L gr, hp, hr]
  have key : ∀ m, m ≤ n → (su_pk g m x).sum + (su_pk g m (x ^^^ -1)).sum = su_sm g m := by
    intro m
    induction m with
    | zero => intro _; rfl
    | succ m ih =>
      intro hm
      have ih := ih (by omega)
      rw [su_pk, su_pk, List.sum_append, List.sum_append, su_sm, bt_not x (by omega)]
      generalize (x ^^^ -1) = y at ih ⊢
      have e1 : (if true = true then [g m] else []).sum = g m := by simp
      have e0 : (if false = true then [g m] else []).sum = 0 := by simp
      cases bt x m
      · rw [e0, Bool.not_false, e1]; omega
      · rw [e1, Bool.not_true, e0]; omega
  exact key n (Nat.le_refl n)
/-- one left out -/
theorem su_pk_out (g : Nat → Nat) {x : Int32} {q : Nat} : ∀ n, (∀ i, i < n → bt x i = decide (i ≠ q)) → (n ≤ q → su_pk g n x = su_lst g n) ∧ (q < n → List.Perm (su_lst g n) (g q :: su_pk g n x))
  | 0, _ => ⟨fun _ => rfl, fun h => absurd h (Nat.not_lt_zero _)⟩
  | n + 1, h => by
    obtain ⟨i1, i2⟩ := su_pk_out g n (fun i hi => h i (by omega))
    have hb := h n (by omega)
    refine ⟨fun hq => ?_, fun hq => ?_⟩
    · rw [su_pk, su_lst, i1 (by omega), hb, decide_eq_true (by omega), if_pos rfl]
    · by_cases e : n = q
      · subst e
        rw [su_pk, su_lst, i1 (Nat.le_refl _), hb, decide_eq_false (by simp), if_neg (by decide), List.append_nil]
        exact List.perm_append_comm
      · rw [su_pk, su_lst, hb, decide_eq_true e, if_pos rfl]
        exact List.Perm.append_right [g n] (i2 (by omega))
theorem bt_pow : ∀ q, q < 20 → ∀ i, i < 20 → bt (((nI 1) <<< (nI q &&& 31)) ^^^ -1) i = decide (i ≠ q) := by decide +kernel
theorem cW_left {g g1 : Nat → Nat} {n n1 q : Nat} (hn : n ≤ 20) (hq : q < n) (h : su_lst g1 n1 = su_pk g n (((nI 1) <<< (nI q &&& 31)) ^^^ -1)) {s : Nat} (hs : s ≤ 300) : cW g n s = cW g1 n1 s + (if g q ≤ s then cW g1 n1 (s - g q) else 0) := by
  rw [cW_L g n s hs, cW_L g1 n1 s hs, h]
  rw [cL_perm ((su_pk_out g (q := q) n (fun i hi => bt_pow q (by omega) i (by omega))).2 hq) s, cL]
  congr 1
  split
  · rw [cW_L g1 n1 _ (by omega), h]
  · rfl
/-- choices one by one -/
def sAn (g : Nat → Nat) : Nat → Nat → Nat
  | 0, _ => 0
  | i + 1, c => sAn g i c + (if c.testBit i = true then g i else 0)
theorem bt_nI (c : Nat) {i : Nat} (h : i < 32) : bt (nI c) i = c.testBit i := by
  show (BitVec.ofNat 32 c).getLsbD i = c.testBit i
  rw [BitVec.getLsbD_ofNat, decide_eq_true h, Bool.true_and]
theorem su_sA_n (g : Nat → Nat) (c : Nat) : ∀ n, n ≤ 32 → su_sA g n (nI c) = sAn g n c
  | 0, _ => rfl
  | n + 1, h => by rw [su_sA, sAn, su_sA_n g c n (by omega), bt_nI c (by omega)]
theorem sAn_le (g : Nat → Nat) (c : Nat) : ∀ n, sAn g n c ≤ su_sm g n
  | 0 => Nat.le_refl _
  | n + 1 => by
    have := sAn_le g c n
    rw [sAn, su_sm]; split <;> omega
theorem su_sA_le (g : Nat → Nat) (x : Int32) : ∀ n, su_sA g n x ≤ su_sm g n
  | 0 => Nat.le_refl _
  | n + 1 => by
    have := su_sA_le g x n
    rw [su_sA, su_sm]; split <;> omega
theorem sAn_add (g : Nat → Nat) (c m : Nat) : ∀ n, n ≤ m → sAn g n (2 ^ m + c) = sAn g n c
  | 0, _ => rfl
  | n + 1, h => by
    rw [sAn, sAn, sAn_add g c m n (by omega), Nat.testBit_two_pow_add_gt (by omega)]
theorem nb_eq (g : Nat → Nat) : ∀ n s, fb_ct (fun c => decide (sAn g n c = s)) (2 ^ n) = cL (su_lst g n) s
  | 0, s => by
    show fb_ct (fun c => decide (0 = s)) 1 = cL [] s
    simp only [fb_ct, cL]
    by_cases h : s = 0
    · subst h; rfl
    · rw [if_neg h, decide_eq_false (fun q => h q.symm)]; rfl
  | n + 1, s => by
    rw [Nat.pow_succ, Nat.mul_two, fb_ct_split, su_lst, cL_app, ← nb_eq g n s]
    congr 1
    · apply fb_ct_cong
      intro c hc
      rw [sAn, Nat.testBit_lt_two_pow hc]; simp
    · have e : fb_ct (fun k => decide (sAn g (n + 1) (2 ^ n + k) = s)) (2 ^ n) = fb_ct (fun k => decide (sAn g n k + g n = s)) (2 ^ n) := by
        apply fb_ct_cong
        intro c hc
        have hb : (2 ^ n + c).testBit n = true := by
          rw [Nat.testBit_two_pow_add_eq, Nat.testBit_lt_two_pow hc]; rfl
        rw [sAn, hb, if_pos rfl, sAn_add g c n n (Nat.le_refl _)]
      rw [e]
      by_cases h : g n ≤ s
      · rw [if_pos h, ← nb_eq g n (s - g n)]
        apply fb_ct_cong
        intro c _
        apply decide_eq_decide.mpr
        omega
      · rw [if_neg h, fb_ct_zero]
        intro c _
        exact decide_eq_false (by omega)
/-- or of shifts -/
def jV (F : Nat) (r : Nat → Bool) : Nat → Nat
  | 0 => 0
  | m + 1 => if r m = true then jV F r m ||| F <<< m else jV F r m
theorem jV_bit (F : Nat) (r : Nat → Bool) (s : Nat) : ∀ m, (jV F r m).testBit s = true ↔ ∃ a, a < m ∧ a ≤ s ∧ r a = true ∧ F.testBit (s - a) = true
  | 0 => by simp [jV]
  | m + 1 => by
    have ih := jV_bit F r s m
    rw [jV]
    by_cases hr : r m = true
    · rw [if_pos hr, Nat.testBit_or, Bool.or_eq_true, ih, Nat.testBit_shiftLeft, Bool.and_eq_true, decide_eq_true_eq]
      constructor
      · rintro (⟨a, h1, h2⟩ | ⟨h1, h2⟩)
        · exact ⟨a, by omega, h2⟩
        · exact ⟨m, by omega, h1, hr, h2⟩
      · rintro ⟨a, h1, h2, h3, h4⟩
        by_cases e : a = m
        · subst e; exact Or.inr ⟨h2, h4⟩
        · exact Or.inl ⟨a, by omega, h2, h3, h4⟩
    · rw [if_neg hr, ih]
      constructor
      · rintro ⟨a, h1, h2⟩; exact ⟨a, by omega, h2⟩
      · rintro ⟨a, h1, h2, h3, h4⟩
        by_cases e : a = m
        · subst e; exact absurd h3 hr
        · exact ⟨a, by omega, h2, h3, h4⟩
theorem fb_sm_pos {f : Nat → Nat} : ∀ {n : Nat}, 0 < fb_sm f n ↔ ∃ k, k < n ∧ 0 < f k
  | 0 => by simp [fb_sm]
  | n + 1 => by
    rw [fb_sm_succ]
    constructor
    · intro h
      by_cases h1 : 0 < f n
      · exact ⟨n, by omega, h1⟩
      · obtain ⟨k, hk, h2⟩ := fb_sm_pos.mp (show 0 < fb_sm f n by omega)
        exact ⟨k, by omega, h2⟩
    · rintro ⟨k, hk, h2⟩
      by_cases e : k = n
      · subst e; omega
      · have := fb_sm_pos.mpr ⟨k, show k < n by omega, h2⟩
        omega
theorem jV_eq {g gp gr : Nat → Nat} {n np nr : Nat} {x : Int32} (hn : n ≤ 20) (hT : su_sm g n ≤ 300) (hp : su_lst gp np = su_pk g n x) (hr : su_lst gr nr = su_pk g n (x ^^^ -1)) : jV (shV gp np) (fiD opS f0S gr nr) 301 = shV g n := by
  have hsum := su_sm_parts hn hp hr
  apply Nat.eq_of_testBit_eq
  intro s
  apply Bool.eq_iff_iff.mpr
  rw [jV_bit]
  by_cases hs : s ≤ 300
  · rw [shV_bit g n s hs, decide_eq_true_eq, cW_parts hn hp hr hs]
    unfold conv
    rw [fb_sm_pos]
    constructor
    · rintro ⟨a, h1, h2, h3, h4⟩
      rw [fiS_bit gr nr a (by omega), decide_eq_true_eq] at h3
      rw [shV_bit gp np (s - a) (by omega), decide_eq_true_eq] at h4
      refine ⟨s - a, by omega, ?_⟩
      rw [show s - (s - a) = a by omega]
      exact Nat.mul_pos h4 h3
    · rintro ⟨k, hk, h⟩
      have h1 : 0 < cW gp np k := Nat.pos_of_mul_pos_right h
      have h2 : 0 < cW gr nr (s - k) := Nat.pos_of_mul_pos_left h
      refine ⟨s - k, by omega, by omega, ?_, ?_⟩
      · rw [fiS_bit gr nr _ (by omega)]; exact decide_eq_true h2
      · rw [show s - (s - k) = k by omega, shV_bit gp np k (by omega)]; exact decide_eq_true h1
  · rw [shV_hi hT (by omega)]
    constructor
    · rintro ⟨a, h1, h2, h3, h4⟩
      rw [fiS_bit gr nr a (by omega), decide_eq_true_eq] at h3
      have h5 : a ≤ su_sm gr nr := by
        rcases Nat.lt_or_ge (su_sm gr nr) a with q | q
        · rw [cW_out q] at h3; exact absurd h3 (Nat.lt_irrefl _)
        · exact q
      have h6 : s - a ≤ su_sm gp np := by
        rcases Nat.lt_or_ge (su_sm gp np) (s - a) with q | q
        · have := Nat.testBit_lt_two_pow (Nat.lt_of_lt_of_le (shV_lt gp np) (Nat.pow_le_pow_right (by decide) (show su_sm gp np + 1 ≤ s - a by omega)))
          rw [this] at h4; exact absurd h4 (by decide)
        · exact q
      omega
    · intro h; exact absurd h (by decide)
/-- how many are set, and behind which none is -/
theorem su_pc_ct {V : Nat} {f : Nat → Bool} : ∀ m, (∀ s, s < m → V.testBit s = f s) → su_pc V m = su_ct f m
  | 0, _ => rfl
  | m + 1, h => by rw [su_pc, su_ct, su_pc_ct m (fun s hs => h s (by omega)), h m (by omega)]
theorem su_pc_top {V m : Nat} : ∀ k, (∀ s, m ≤ s → V.testBit s = false) → su_pc V (m + k) = su_pc V m
  | 0, _ => rfl
  | k + 1, h => by
    have e := h (m + k) (by omega)
    show su_pc V (m + k) + (if V.testBit (m + k) = true then 1 else 0) = su_pc V m
    rw [su_pc_top k h, e]; rfl
theorem su_end_top {V m : Nat} : ∀ k, (∀ s, m ≤ s → V.testBit s = false) → su_end V (m + k) = su_end V m
  | 0, _ => rfl
  | k + 1, h => by
    have e := h (m + k) (by omega)
    show su_end V (m + k + 1) = su_end V m
    rw [su_end, e, if_neg (by decide)]; exact su_end_top k h
theorem su_end_B {V : Nat} {f : Nat → Bool} : ∀ m, (∀ s, s < m → V.testBit s = f s) → su_end V m = su_endB f m
  | 0, _ => rfl
  | m + 1, h => by rw [su_end, su_endB, su_end_B m (fun s hs => h s (by omega)), h m (by omega)]
theorem su_ct_cong {f g : Nat → Bool} : ∀ {m : Nat}, (∀ s, s < m → f s = g s) → su_ct f m = su_ct g m
  | 0, _ => rfl
  | m + 1, h => by rw [su_ct, su_ct, su_ct_cong (fun s hs => h s (by omega)), h m (by omega)]
