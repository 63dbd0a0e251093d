/-! rows for an array made in a method, for float and double ends; no NaN; what the reference's calls want -/
section SUB3
variable {p : Program} {l : Launch} {e : Env} {R : Room} {s : State} {m : MethodId} {args : Array Value} {below : List Frame} {meth : Method} {c : Code} {H : Heap} {locs : List Loc} {cells slots : Nat} {Q : State → Prop}
variable {cc : ByteArray} {pc : Nat} {ls : Array Slot} {rest st0 : List Value} {D : va_G} {A : Nat → Prop} {tys : List (ClassId × FieldType)} {ws : va_W} {S : Type} {w1 : S → va_W}
theorem su_ef {post : UInt32 → S → Prop} {v : UInt32} (hx : p.tables.exec = Jvm.exec) (hb : c.code = cc) (hr : meth.sig.returnType = some .float) (hlocks : meth.locks = false) (hS : va_S A s.heap H locs) (hdg : decode cc pc = .ok (.freturn, 1)) (u : S) (hp : post v u) (hP : va_P D vwCl (w1 u) H) (hD : va_D A (w1 u)) :
    W p l e R s m args below meth c H locs cells slots (MQ below (su_qf D A post w1) args s cells slots A) (F0 m pc ls [.float v]) :=
  W.fret hx hb hr (fun t ht hW => ⟨⟨v, u, rfl, hp, by rw [su_wo, ht]; exact ⟨hP, hD⟩⟩, hS.F ht⟩) hS.2.2 hdg hlocks
theorem su_ed {post : UInt64 → S → Prop} {v : UInt64} (hx : p.tables.exec = Jvm.exec) (hb : c.code = cc) (hr : meth.sig.returnType = some .double) (hlocks : meth.locks = false) (hS : va_S A s.heap H locs) (hdg : decode cc pc = .ok (.dreturn, 1)) (u : S) (hp : post v u) (hP : va_P D vwCl (w1 u) H) (hD : va_D A (w1 u)) :
    W p l e R s m args below meth c H locs cells slots (MQ below (su_qd D A post w1) args s cells slots A) (F0 m pc ls [.double v]) :=
  W.dret hx hb hr (fun t ht hW => ⟨⟨v, u, rfl, hp, by rw [su_wo, ht]; exact ⟨hP, hD⟩⟩, hS.F ht⟩) hS.2.2 hdg hlocks
theorem su_sameC {tys : List (ClassId × FieldType)} {t0 : Nat} {cA cB : ClassId} {ty : FieldType} (hty : ∀ C, ty ≠ .object C) (hK : va_K D vwCl (tys ++ [(cB, ty)]) s) (ht : tys[t0]? = some (cA, ty)) : cB = cA := by
  have h1 := (hK.2 tys.length (cB, ty) (by rw [List.getElem?_append_right (Nat.le_refl _), Nat.sub_self]; rfl)).2
  have h2 := (hK.2 t0 (cA, ty) (by rw [List.getElem?_append_left (List.getElem?_eq_some_iff.mp ht).1]; exact ht)).2
  cases ty <;> first | exact absurd rfl (hty _) | exact Option.some.inj (Eq.trans (Eq.symm h1) h2)
/-- a new int array, its class one that is known -/
theorem su_newI (hx : p.tables.exec = Jvm.exec) (hb : c.code = cc) (harr : (Cond.arrayClass .int).before args s = true) (hK : va_K D vwCl tys s) (hP : va_P D vwCl ws H) (hD : va_D A ws) (hS : va_S A s.heap H locs) (hA : ∀ q, s.heap.size ≤ q → A q) (t0 : Nat) {cA : ClassId} (ht : tys[t0]? = some (cA, .int))
    {n : Nat} (hn : n < 2 ^ 20) (hcells : cells + 1 ≤ R.cells) (hslots : slots + n ≤ R.slots) (hdg : decode cc pc = .ok (.newarray .int, 2))
    (kk : ∀ (q : Nat) (H1 : Heap), va_P D vwCl (ws ++ [(q, .inl (cA, n, .inl (fN (fun _ => 0))))]) H1 → va_D A (ws ++ [(q, .inl (cA, n, .inl (fN (fun _ => 0))))]) → va_S A s.heap H1 locs →
      W p l e R s m args below meth c H1 locs (cells + 1) (slots + n) Q (F0 m (pc + 2) ls (.ref q :: rest))) : W p l e R s m args below meth c H locs cells slots Q (F0 m pc ls (.int (nI n) :: rest)) := by
  refine va_newa (atype := .int) (ty := .int) hx hb harr rfl hK hP hD hS hA (N' := n) (a0 := (n, .inl (fN (fun _ => 0)))) (fun cA => by rw [vp_cell_i]; exact su_arrV (fun i _ => rfl)) (nI_pos (by omega)) (nI_clamp (by omega)) (by show n * 4 ≤ 536870912; omega) hcells hslots hdg (fun q cB H1 hK2 hP2 hD2 hS2 => ?_)
  cases su_sameC (fun C => by intro h; cases h) hK2 ht
  exact kk q H1 hP2 hD2 hS2
end SUB3
/-! no NaN -/
theorem su_n32 {r : UInt32} (h : Jvm.FP.Core.val32 r ≠ Jvm.FP.Core.Datum.nan) : vf_n32 r := by
  unfold vf_n32
  rw [UInt32.le_iff_toNat_le, UInt32.toNat_and]
  show r.toNat &&& (2 ^ 31 - 1) ≤ 2139095040
  rw [Nat.and_two_pow_sub_one_eq_mod]
  have hr : r.toNat < 2 ^ 32 := r.toNat_lt
  by_cases q : r.toNat % 2 ^ 31 ≤ 2139095040
  · exact q
  · exfalso
    apply h
    have e1 : Jvm.FP.Core.fieldE Jvm.FP.Core.b32 r.toNat = Jvm.FP.Core.b32.exps - 1 := by show r.toNat / 2 ^ 23 % 2 ^ 8 = 255; omega
    have e2 : Jvm.FP.Core.fieldT Jvm.FP.Core.b32 r.toNat ≠ 0 := by show r.toNat % 2 ^ 23 ≠ 0; omega
    unfold Jvm.FP.Core.val32 Jvm.FP.Core.decode
    rw [if_pos e1, if_neg e2]
theorem su_n64 {r : UInt64} (h : Jvm.FP.Core.val64 r ≠ Jvm.FP.Core.Datum.nan) : vf_n64 r := by
  unfold vf_n64
  rw [UInt64.le_iff_toNat_le, UInt64.toNat_and]
  show r.toNat &&& (2 ^ 63 - 1) ≤ 9218868437227405312
  rw [Nat.and_two_pow_sub_one_eq_mod]
  have hr : r.toNat < 2 ^ 64 := r.toNat_lt
  by_cases q : r.toNat % 2 ^ 63 ≤ 9218868437227405312
  · exact q
  · exfalso
    apply h
    have e1 : Jvm.FP.Core.fieldE Jvm.FP.Core.b64 r.toNat = Jvm.FP.Core.b64.exps - 1 := by show r.toNat / 2 ^ 52 % 2 ^ 11 = 2047; omega
    have e2 : Jvm.FP.Core.fieldT Jvm.FP.Core.b64 r.toNat ≠ 0 := by show r.toNat % 2 ^ 52 ≠ 0; omega
    unfold Jvm.FP.Core.val64 Jvm.FP.Core.decode
    rw [if_pos e1, if_neg e2]
def su_isF : Jvm.FP.Core.Datum → Bool
  | .fin _ _ _ => true
  | _ => false
def su_isP : Jvm.FP.Core.Datum → Bool
  | .fin _ c _ => decide (c ≠ 0)
  | _ => false
theorem su_qn {f : Jvm.FP.Core.Fmt} {x y : Jvm.FP.Core.Datum} (hx : su_isF x = true) (hy : su_isP y = true) : Jvm.FP.Core.quotient f x y ≠ .nan := by
  cases x with
  | nan => cases hx
  | inf s => cases hx
  | fin s c q =>
    cases y with
    | nan => cases hy
    | inf s => cases hy
    | fin t d r =>
      have hd : d ≠ 0 := of_decide_eq_true hy
      show (if d = 0 then (if c = 0 then Jvm.FP.Core.Datum.nan else .inf (s != t)) else Jvm.FP.Core.roundRatio f (s != t) c d (q - r)) ≠ .nan
      rw [if_neg hd]
      exact Jvm.FP.Core.roundRatio_ne_nan _ _ _ _ _
theorem su_i2fF : ∀ a, a < 302 → su_isF (Jvm.FP.Core.val32 (FP.i2f (nI a))) = true := by decide +kernel
theorem su_i2fP : ∀ a, a < 301 → su_isP (Jvm.FP.Core.val32 (FP.i2f (nI (a + 1)))) = true := by decide +kernel
theorem su_i2dP : ∀ a, a < 301 → su_isP (Jvm.FP.Core.val64 (FP.i2d (nI (a + 1)))) = true := by decide +kernel
theorem su_i2dF : ∀ a, a < 21 → su_isF (Jvm.FP.Core.val64 (FP.i2d (nI (2 ^ a)))) = true := by decide +kernel
theorem su_fd0 {a b : Nat} (ha : a ≤ 301) (hb1 : 1 ≤ b) (hb : b ≤ 301) : Jvm.FP.Core.val32 (FP.fdiv (FP.i2f (nI a)) (FP.i2f (nI b))) ≠ .nan := by
  obtain ⟨k, rfl⟩ : ∃ k, b = k + 1 := ⟨b - 1, by omega⟩
  intro h
  exact su_qn (f := Jvm.FP.Core.b32) (su_i2fF a (by omega)) (su_i2fP k (by omega)) ((Jvm.FP.Core.val32_fdiv _ _).symm.trans h)
theorem su_fd {a b : Nat} (ha : a ≤ 301) (hb1 : 1 ≤ b) (hb : b ≤ 301) : vf_n32 (FP.fdiv (FP.i2f (nI a)) (FP.i2f (nI b))) := su_n32 (su_fd0 ha hb1 hb)
theorem su_f2dn {r : UInt32} (h : Jvm.FP.Core.val32 r ≠ .nan) : vf_n64 (FP.f2d r) := su_n64 (fun q => h ((Jvm.FP.Core.fIsNaN_iff r).mp (by
  have h1 : Jvm.FP.dIsNaN (FP.f2d r) = true := (Jvm.FP.Core.dIsNaN_iff _).mpr q
  rw [Jvm.FP.f2d_nan] at h1; exact h1)))
theorem su_dd {n b : Nat} (hn : n ≤ 20) (hb1 : 1 ≤ b) (hb : b ≤ 301) : vf_n64 (FP.ddiv (FP.i2d (nI (2 ^ n))) (FP.i2d (nI b))) := by
  obtain ⟨k, rfl⟩ : ∃ k, b = k + 1 := ⟨b - 1, by omega⟩
  refine su_n64 (fun h => ?_)
  exact su_qn (f := Jvm.FP.Core.b64) (su_i2dF n (by omega)) (su_i2dP k (by omega)) ((Jvm.FP.Core.val64_ddiv _ _).symm.trans h)
/-! exchange -/
theorem su_exI {s b v : Nat} (hs : s ≤ 300) (hb : b ≤ s) (hv : v ≤ 300) : nI s + (nI v - nI b) = nI (s - b + v) := by
  apply Int32.toInt_inj.mp
  rw [Int32.toInt_add, Int32.toInt_sub, nI_toInt (show s < 2 ^ 31 by omega), nI_toInt (show v < 2 ^ 31 by omega), nI_toInt (show b < 2 ^ 31 by omega), nI_toInt (show s - b + v < 2 ^ 31 by omega)]
  rw [Int.bmod_eq_of_le (n := (v : Int) - b) (by omega) (by omega), Int.bmod_eq_of_le (by omega) (by omega)]
  omega
theorem up_hg2 {g : Nat → Nat} {n q v : Nat} {P : Nat → Prop} (hv : P v) (hg : ∀ k, k < n → P (g k)) : ∀ k, k < n → P (va_up g q v k) := by
  intro k hk
  unfold va_up
  by_cases h : k = q
  · rw [if_pos h]; exact hv
  · rw [if_neg h]; exact hg k hk
/-! move -/
theorem su_shD0 {g : Nat → Nat} {q : Nat} (k : Nat) : fN g k = fN (su_sh g q q) k := su_sh0 k
/-- counts don't see the order -/
theorem cW_perm {g g1 : Nat → Nat} {n n1 s : Nat} (h : List.Perm (su_lst g1 n1) (su_lst g n)) (hs : s ≤ 300) : cW g1 n1 s = cW g n s := by
  rw [cW_L g1 n1 s hs, cW_L g n s hs]; exact cL_perm h s
theorem su_mvU {g : Nat → Nat} {n q v : Nat} (hqv : q < v) (hv : v < n) : ∀ k, k < n → va_up (su_rm g q v) v (g q) k = su_ins (su_rm g q (n - 1)) (n - 1) v (g q) k := by
  intro k hk
  simp only [su_ins, va_up, su_sh, su_rm]
  by_cases h1 : k = v
  · rw [if_pos h1, if_pos h1]
  · rw [if_neg h1, if_neg h1]
    by_cases h2 : v < k
    · rw [if_neg (show ¬ (q ≤ k ∧ k < v) by omega), if_pos (show v < k ∧ k ≤ n - 1 by omega), if_pos (show q ≤ k - 1 ∧ k - 1 < n - 1 by omega), Nat.sub_add_cancel (by omega)]
    · rw [if_neg (show ¬ (v < k ∧ k ≤ n - 1) by omega)]
      by_cases h3 : q ≤ k
      · rw [if_pos (by omega), if_pos (by omega)]
      · rw [if_neg (by omega), if_neg (by omega)]
theorem su_mvD {g : Nat → Nat} {n q v : Nat} (hqv : v ≤ q) (hv : q < n) : ∀ k, k < n → va_up (su_sh g q v) v (g q) k = su_ins (su_rm g q (n - 1)) (n - 1) v (g q) k := by
  intro k hk
  simp only [su_ins, va_up, su_sh, su_rm]
  by_cases h1 : k = v
  · rw [if_pos h1, if_pos h1]
  · rw [if_neg h1, if_neg h1]
    by_cases h2 : v < k
    · rw [if_pos (show v < k ∧ k ≤ n - 1 by omega)]
      by_cases h3 : k ≤ q
      · rw [if_pos ⟨h2, h3⟩, if_neg (by omega)]
      · rw [if_neg (by omega), if_pos (by omega), Nat.sub_add_cancel (by omega)]
    · rw [if_neg (by omega), if_neg (by omega), if_neg (by omega)]
theorem su_mv_perm {g : Nat → Nat} {n q v : Nat} (hq : q < n) (hv : v < n) : List.Perm (su_lst (su_ins (su_rm g q (n - 1)) (n - 1) v (g q)) n) (su_lst g n) := by
  have h1 := su_ins_perm (su_rm g q (n - 1)) v (g q) (n - 1) (by omega)
  rw [show n - 1 + 1 = n by omega] at h1
  exact h1.trans (su_rm_perm g q n hq).symm
/-! some's sums by bits of a natural number -/
theorem ctP_z {g : Nat → Nat} : ∀ {n : Nat}, ctP g 0 n = f0W
  | 0 => rfl
  | n + 1 => by rw [ctP_0 (Nat.zero_testBit n), ctP_z]
theorem ctP_low {g : Nat → Nat} {j : Nat} : ∀ {n : Nat}, j ≤ n → ctP g (2 ^ j - 1) n = fiD opW f0W g j := by
  intro n h
  obtain ⟨d, rfl⟩ : ∃ d, n = j + d := ⟨n - j, by omega⟩
  clear h
  induction d with
  | zero => exact ctP_top g j
  | succ d ih => rw [← Nat.add_assoc, ctP_0 (by rw [Nat.testBit_two_pow_sub_one]; exact decide_eq_false (by omega)), ih]
theorem sAt_sA {g : Nat → Nat} {v : Nat} : ∀ {n : Nat}, n ≤ 32 → sAt g v n = su_sA g n (nI v)
  | 0, _ => rfl
  | n + 1, h => by rw [sAt, su_sA, sAt_sA (by omega), bt_nI v (by omega)]
/-! in order: the reference's way -/
def ovl (g : Nat → Nat) (L : List Nat) : Nat → Nat := fun k => L.getD k (g k)
theorem ovl_nil (g : Nat → Nat) (k : Nat) : fN g k = fN (ovl g []) k := rfl
theorem ovl_S {g : Nat → Nat} {L : List Nat} {v : Nat} (k : Nat) : fN (va_up (ovl g L) L.length v) k = fN (ovl g (L ++ [v])) k := by
  unfold fN ovl va_up
  congr 1
  by_cases h : k = L.length
  · subst h; rw [if_pos rfl]; simp
  · rw [if_neg h]
    show L.getD k (g k) = (L ++ [v]).getD k (g k)
    rcases Nat.lt_or_ge k L.length with q | q
    · rw [List.getD_eq_getElem?_getD, List.getD_eq_getElem?_getD, List.getElem?_append_left q]
    · rw [List.getD_eq_getElem?_getD, List.getD_eq_getElem?_getD, List.getElem?_append_right q, List.getElem?_eq_none (by omega), List.getElem?_eq_none (by simp; omega)]
theorem ovl_lst {g : Nat → Nat} {L : List Nat} : su_lst (ovl g L) L.length = L := by
  apply List.ext_getElem?
  intro k
  rcases Nat.lt_or_ge k L.length with q | q
  · rw [su_lst_get _ _ k q]; unfold ovl
    rw [List.getD_eq_getElem?_getD, List.getElem?_eq_getElem q]; rfl
  · rw [List.getElem?_eq_none (by rw [su_lst_len]; exact q), List.getElem?_eq_none q]
def srt (L : List Nat) : Nat → List Nat
  | 0 => []
  | m + 1 => srt L m ++ L.filter (fun y => decide (y = m + 1))
def srj (g : Nat → Nat) (n i j : Nat) : List Nat := srt (su_lst g n) (i - 1) ++ (su_lst g j).filter (fun y => decide (y = i))
theorem srt_perm (L : List Nat) (h1 : ∀ y, y ∈ L → 1 ≤ y) : ∀ m, List.Perm (srt L m) (L.filter (fun y => decide (y ≤ m)))
  | 0 => by
    rw [List.filter_eq_nil_iff.mpr (fun y hy => by have := h1 y hy; simp; omega)]; exact List.Perm.refl _
  | m + 1 => by
    have ih := srt_perm L h1 m
    rw [srt]
    refine (List.Perm.append_right _ ih).trans ?_
    clear ih h1
    induction L with
    | nil => exact List.Perm.refl _
    | cons y L ih =>
      by_cases a : y ≤ m
      · rw [List.filter_cons_of_pos (by simpa using a), List.filter_cons_of_neg (by simp; omega), List.filter_cons_of_pos (by simp; omega), List.cons_append]
        exact List.Perm.cons _ ih
      · by_cases b : y = m + 1
        · rw [List.filter_cons_of_neg (by simpa using a), List.filter_cons_of_pos (by simpa using b), List.filter_cons_of_pos (by simp; omega)]
          exact List.perm_middle.trans (List.Perm.cons _ ih)
        · rw [List.filter_cons_of_neg (by simpa using a), List.filter_cons_of_neg (by simpa using b), List.filter_cons_of_neg (by simp; omega)]
          exact ih
theorem srt_all {L : List Nat} (h1 : ∀ y, y ∈ L → 1 ≤ y ∧ y ≤ 120) : List.Perm (srt L 120) L := by
  have h := srt_perm L (fun y hy => (h1 y hy).1) 120
  rwa [List.filter_eq_self.mpr (fun y hy => by simpa using (h1 y hy).2)] at h
theorem srt_le {L : List Nat} : ∀ {m y : Nat}, y ∈ srt L m → y ≤ m
  | 0, y, h => absurd h List.not_mem_nil
  | m + 1, y, h => by
    rcases List.mem_append.mp h with q | q
    · have := srt_le q; omega
    · have := (List.mem_filter.mp q).2; simp at this; omega
theorem srt_so (L : List Nat) : ∀ m, (srt L m).Pairwise (· ≤ ·)
  | 0 => List.Pairwise.nil
  | m + 1 => by
    rw [srt, List.pairwise_append]
    refine ⟨srt_so L m, ?_, fun a ha b hb => ?_⟩
    · have hc : ∀ l : List Nat, (∀ y, y ∈ l → y = m + 1) → l.Pairwise (· ≤ ·) := by
        intro l
        induction l with
        | nil => intro _; exact List.Pairwise.nil
        | cons y l ih =>
          intro h
          refine List.Pairwise.cons (fun z hz => ?_) (ih (fun z hz => h z (List.mem_cons_of_mem _ hz)))
          have e1 := h y List.mem_cons_self
          have e2 := h z (List.mem_cons_of_mem _ hz)
          omega
      exact hc _ (fun y hy => by have := (List.mem_filter.mp hy).2; simpa using this)
    · have e1 := srt_le ha
      have := (List.mem_filter.mp hb).2
      simp at this; omega
theorem srj_0 {g : Nat → Nat} {n : Nat} : srj g n 1 0 = [] := rfl
theorem srj_S {g : Nat → Nat} {n i j : Nat} (h : g j = i) : srj g n i (j + 1) = srj g n i j ++ [i] := by
  unfold srj
  rw [su_lst, List.filter_append, List.filter_cons_of_pos (by simpa using h), List.filter_nil, List.append_assoc, h]
theorem srj_N {g : Nat → Nat} {n i j : Nat} (h : g j ≠ i) : srj g n i (j + 1) = srj g n i j := by
  unfold srj
  rw [su_lst, List.filter_append, List.filter_cons_of_neg (by simpa using h), List.filter_nil, List.append_nil]
theorem srj_E {g : Nat → Nat} {n i : Nat} (h : 1 ≤ i) : srj g n i n = srj g n (i + 1) 0 := by
  unfold srj
  rw [show i + 1 - 1 = (i - 1) + 1 by omega, srt, show i - 1 + 1 = i by omega]
  show _ = _ ++ [].filter _
  rw [List.filter_nil, List.append_nil]
theorem srj_len {g : Nat → Nat} {n i j : Nat} (hg : ∀ k, k < n → 1 ≤ g k) (hi : 1 ≤ i) (hj : j ≤ n) : (srj g n i j).length ≤ n := by
  have h1 : (srj g n i j).length ≤ (srj g n i n).length := by
    unfold srj
    rw [List.length_append, List.length_append]
    refine Nat.add_le_add_left ?_ _
    obtain ⟨d, rfl⟩ : ∃ d, n = j + d := ⟨n - j, by omega⟩
    clear hj hg
    have key : ∀ d, ((su_lst g j).filter (fun y => decide (y = i))).length ≤ ((su_lst g (j + d)).filter (fun y => decide (y = i))).length := by
      intro d
      induction d with
      | zero => exact Nat.le_refl _
      | succ d ih =>
        rw [← Nat.add_assoc, su_lst, List.filter_append, List.length_append]
        omega
    exact key d
  have h2 : srj g n i n = srt (su_lst g n) i := by
    rw [srj_E hi]; unfold srj
    show srt (su_lst g n) (i + 1 - 1) ++ [].filter _ = _
    rw [List.filter_nil, List.append_nil, Nat.add_sub_cancel]
  have h3 := (srt_perm (su_lst g n) (fun y hy => by obtain ⟨k, hk, e⟩ := lst_mem g n y hy; rw [e]; exact hg k hk) i).length_eq
  have h4 := List.length_filter_le (fun y => decide (y ≤ i)) (su_lst g n)
  rw [su_lst_len] at h4
  rw [h2, h3] at h1
  omega
theorem srj_lt {g : Nat → Nat} {n i j : Nat} (hg : ∀ k, k < n → 1 ≤ g k) (hi : 1 ≤ i) (hj : j < n) (h : g j = i) : (srj g n i j).length < n := by
  have := srj_len (g := g) (n := n) hg hi (show j + 1 ≤ n by omega)
  rw [srj_S h, List.length_append] at this
  simp at this; omega
theorem srj_end {g : Nat → Nat} {n : Nat} : srj g n 121 0 = srt (su_lst g n) 120 := by
  unfold srj
  show srt (su_lst g n) 120 ++ [].filter _ = _
  rw [List.filter_nil, List.append_nil]
theorem srt_len {g : Nat → Nat} {n : Nat} (h1 : ∀ k, k < n → 1 ≤ g k ∧ g k ≤ 120) : (srt (su_lst g n) 120).length = n := by
  rw [(srt_all (fun y hy => by obtain ⟨k, hk, e⟩ := lst_mem g n y hy; rw [e]; exact h1 k hk)).length_eq, su_lst_len]
theorem so_pw {g : Nat → Nat} : ∀ {n : Nat}, so g n → (su_lst g n).Pairwise (· ≤ ·)
  | 0, _ => List.Pairwise.nil
  | n + 1, h => by
    rw [su_lst, List.pairwise_append]
    refine ⟨so_pw (fun a b h1 h2 => h a b h1 (by omega)), List.pairwise_singleton _ _, fun a ha b hb => ?_⟩
    obtain ⟨k, hk, e⟩ := lst_mem g n a ha
    rw [List.mem_singleton.mp hb, e]
    exact h k n hk (by omega)
theorem so_uniq {g g1 : Nat → Nat} {n : Nat} (hg : ∀ k, k < n → 1 ≤ g k ∧ g k ≤ 120) (h1 : so g1 n) (h2 : List.Perm (su_lst g1 n) (su_lst g n)) : su_lst g1 n = srt (su_lst g n) 120 :=
  List.Perm.eq_of_pairwise (le := (· ≤ ·)) (fun a b _ _ q1 q2 => Nat.le_antisymm q1 q2) (so_pw h1) (srt_so _ _) (h2.trans (srt_all (fun y hy => by obtain ⟨k, hk, e⟩ := lst_mem g n y hy; rw [e]; exact hg k hk)).symm)
/-! joined -/
def jnG (ga gb : Nat → Nat) (na : Nat) : Nat → Nat := fun k => if k < na then ga k else gb (k - na)
theorem jnG_lst {ga gb : Nat → Nat} {na : Nat} : ∀ nb, su_lst (jnG ga gb na) (na + nb) = su_lst ga na ++ su_lst gb nb
  | 0 => by
    rw [su_lst.eq_1 gb, List.append_nil, Nat.add_zero]
    exact su_lst_cong (fun k hk => by unfold jnG; rw [if_pos hk])
  | nb + 1 => by
    rw [← Nat.add_assoc, su_lst, jnG_lst nb, su_lst.eq_2 gb nb, List.append_assoc]
    congr 3
    unfold jnG
    rw [if_neg (by omega), Nat.add_sub_cancel_left]
theorem jnG_1 {ga gb : Nat → Nat} {na i : Nat} (h : i < na) : ga i = jnG ga gb na i := by unfold jnG; rw [if_pos h]
theorem jnG_2 {ga gb : Nat → Nat} {na i : Nat} (h : na ≤ i) : gb (i - na) = jnG ga gb na i := by unfold jnG; rw [if_neg (by omega)]
theorem jnG_hg {ga gb : Nat → Nat} {na nb : Nat} {P : Nat → Prop} (h1 : ∀ k, k < na → P (ga k)) (h2 : ∀ k, k < nb → P (gb k)) : ∀ k, k < na + nb → P (jnG ga gb na k) := by
  intro k hk
  unfold jnG
  by_cases h : k < na
  · rw [if_pos h]; exact h1 k h
  · rw [if_neg h]; exact h2 _ (by omega)
theorem su_flJ {g h : Nat → Nat} {i : Nat} (j : Nat) : va_up (su_fl h g i) i (h i) j = su_fl h g (i + 1) j := su_flS rfl j
theorem su_fli {f g : Nat → Nat} {n : Nat} : ∀ k, k < n → su_fl f g n k = f k := fun k hk => su_flN hk
/-! the rest -/
theorem su_mxS {f : Nat → Nat} {j : Nat} (h : f (su_mx f j) < f (j + 1)) : j + 1 = su_mx f (j + 1) := by rw [su_mx, if_pos h]
theorem su_mxN {f : Nat → Nat} {j : Nat} (h : ¬ f (su_mx f j) < f (j + 1)) : su_mx f j = su_mx f (j + 1) := by rw [su_mx, if_neg h]
theorem su_lcgt {a b : Nat} (ha : a < 2 ^ 63) (hb : b < 2 ^ 63) : lg_cmp (lN a) (lN b) ≤ 0 ↔ ¬ b < a := by rw [su_lcle ha hb]; omega
theorem su_frS {f : Nat → Bool} {a m : Nat} (h : f m = true) (h2 : su_ab a (2 * m) < su_fr f a m) : su_ab a (2 * m) = su_fr f a (m + 1) := by rw [su_fr, if_pos h, Nat.min_eq_right (by omega)]
theorem su_frN {f : Nat → Bool} {a m : Nat} (h : f m = true) (h2 : ¬ su_ab a (2 * m) < su_fr f a m) : su_fr f a m = su_fr f a (m + 1) := by rw [su_fr, if_pos h, Nat.min_eq_left (by omega)]
theorem su_frM {f : Nat → Bool} {a m : Nat} (h : f m = false) : su_fr f a m = su_fr f a (m + 1) := by rw [su_fr, h, if_neg (by decide)]
theorem su_ab1 {a m : Nat} (h : m + m < a) : a - m - m = su_ab a (2 * m) := by unfold su_ab; omega
theorem su_ab2 {a m : Nat} (h : a ≤ m + m) : m + m - a = su_ab a (2 * m) := by unfold su_ab; omega
theorem su_ctB {f : Nat → Bool} {i : Nat} : su_ct f i + (if f i = true then 1 else 0) = su_ct f (i + 1) := by rw [su_ct]
theorem bI_nI (b : Bool) : bI b = nI (if b = true then 1 else 0) := by cases b <;> rfl
theorem su_mvUp {g : Nat → Nat} {n q v : Nat} (hqv : q < v) (hv : v < n) : List.Perm (su_lst (va_up (su_rm g q v) v (g q)) n) (su_lst g n) := by
  rw [su_lst_cong (su_mvU hqv hv)]; exact su_mv_perm (by omega) hv
theorem su_mvDp {g : Nat → Nat} {n q v : Nat} (hqv : v ≤ q) (hq : q < n) : List.Perm (su_lst (va_up (su_sh g q v) v (g q)) n) (su_lst g n) := by
  rw [su_lst_cong (su_mvD hqv hq)]; exact su_mv_perm hq (by omega)
theorem srt_ov {g : Nat → Nat} {n : Nat} (h1 : ∀ k, k < n → 1 ≤ g k ∧ g k ≤ 120) : su_lst (ovl g (srt (su_lst g n) 120)) n = srt (su_lst g n) 120 := by
  have h := ovl_lst (g := g) (L := srt (su_lst g n) 120)
  rwa [srt_len h1] at h
theorem srt_lp {g : Nat → Nat} {n : Nat} (h1 : ∀ k, k < n → 1 ≤ g k ∧ g k ≤ 120) : List.Perm (su_lst (ovl g (srt (su_lst g n) 120)) n) (su_lst g n) := by
  rw [srt_ov h1]
  exact srt_all (fun y hy => by obtain ⟨k, hk, e⟩ := lst_mem g n y hy; rw [e]; exact h1 k hk)
theorem tg_1 {g gb : Nat → Nat} {n nb u k : Nat} (h : k ≤ u) (h1 : mkD g n k = true) (h2 : mkD gb nb (u - k) = true) : tgV g gb n nb u k = true := by unfold tgV; rw [decide_eq_true h, h1, h2]; rfl
theorem tg_0a {g gb : Nat → Nat} {n nb u k : Nat} (h1 : mkD g n k = false) : tgV g gb n nb u k = false := by unfold tgV; rw [h1, Bool.false_and, Bool.and_false]
theorem tg_0b {g gb : Nat → Nat} {n nb u k : Nat} (h2 : mkD gb nb (u - k) = false) : tgV g gb n nb u k = false := by unfold tgV; rw [h2, Bool.and_false, Bool.and_false]
theorem su_ct_top {f : Nat → Bool} {m : Nat} : ∀ d, (∀ s, m ≤ s → f s = false) → su_ct f (m + d) = su_ct f m
  | 0, _ => rfl
  | d + 1, h => by rw [← Nat.add_assoc, su_ct, h (m + d) (by omega), if_neg (by decide), Nat.add_zero, su_ct_top d h]
theorem tg_end {g gb : Nat → Nat} {n nb u : Nat} (hu : u ≤ 300) : su_ct (tgV g gb n nb u) (u + 1) = su_ct (tgV g gb n nb u) 301 := by
  have h := su_ct_top (f := tgV g gb n nb u) (m := u + 1) (300 - u) (fun s hs => by unfold tgV; rw [decide_eq_false (by omega), Bool.false_and])
  rw [show u + 1 + (300 - u) = 301 by omega] at h
  exact h.symm
theorem lk_1 {g gb : Nat → Nat} {n nb : Nat} (hT : su_sm g n ≤ 300) (hTb : su_sm gb nb ≤ 300) (h : ∀ s, s < 301 → mkD g n s = mkD gb nb s) : nI 1 = bI (decide (shV g n = shV gb nb)) := by
  rw [decide_eq_true ((lk_iff hT hTb).mpr (fun s hs => h s (by omega)))]; rfl
theorem lk_0 {g gb : Nat → Nat} {n nb i : Nat} (hT : su_sm g n ≤ 300) (hTb : su_sm gb nb ≤ 300) (hi : i ≤ 300) (h : mkD g n i ≠ mkD gb nb i) : nI 0 = bI (decide (shV g n = shV gb nb)) := by
  rw [decide_eq_false (fun q => h ((lk_iff hT hTb).mp q i hi))]; rfl
theorem srj_le {g : Nat → Nat} {n k : Nat} (h1 : ∀ k, k < n → 1 ≤ g k ∧ g k ≤ 120) (hk : k < n) : ovl g (srj g n 121 0) k ≤ 120 := by
  rw [srj_end]
  exact perm_hg (P := fun y => y ≤ 120) (fun y hy => (srt_lp h1).mem_iff.mp hy) (fun k hk => (h1 k hk).2) k hk
