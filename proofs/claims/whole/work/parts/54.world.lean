/-! the worlds as wholes -/
/-- the class' state: hoards' numbers and sizes; what its long and its other arrays hold -/
abbrev CS : Type := (Nat → Nat → Nat) × (Nat → Nat) × (Nat → Nat → Int64) × (Nat → Nat → Int32)
def clsW (ad : Nat → Nat) (cI cL cZ : ClassId) (S : CS) : va_W :=
  [(ad 0, .inr (9, [.ref (ad 1), .ref (ad 3), .ref (ad 5), .ref (ad 7), .ref (ad 14), .ref (ad 21), .ref (ad 23), .ref (ad 25), .ref (ad 27)])),
   (ad 1, .inr (3, [.ref (ad 2), .int (nI (S.2.1 0))])),
   (ad 2, .inl (cI, 20, .inl (fN (S.1 0)))),
   (ad 3, .inr (3, [.ref (ad 4), .int (nI (S.2.1 1))])),
   (ad 4, .inl (cI, 20, .inl (fN (S.1 1)))),
   (ad 5, .inr (3, [.ref (ad 6), .int (nI (S.2.1 2))])),
   (ad 6, .inl (cI, 20, .inl (fN (S.1 2)))),
   (ad 7, .inr (6, [.ref (ad 8), .ref (ad 11)])),
   (ad 8, .inr (0, [.ref (ad 9), .ref (ad 10)])),
   (ad 9, .inl (cL, 5, .inr (.inl (S.2.2.1 0)))),
   (ad 10, .inl (cL, 5, .inr (.inl (S.2.2.1 1)))),
   (ad 11, .inr (0, [.ref (ad 12), .ref (ad 13)])),
   (ad 12, .inl (cL, 5, .inr (.inl (bW (2 ^ 301 - 1))))),
   (ad 13, .inl (cL, 5, .inr (.inl (S.2.2.1 2)))),
   (ad 14, .inr (6, [.ref (ad 15), .ref (ad 18)])),
   (ad 15, .inr (0, [.ref (ad 16), .ref (ad 17)])),
   (ad 16, .inl (cL, 5, .inr (.inl (S.2.2.1 3)))),
   (ad 17, .inl (cL, 5, .inr (.inl (S.2.2.1 4)))),
   (ad 18, .inr (0, [.ref (ad 19), .ref (ad 20)])),
   (ad 19, .inl (cL, 5, .inr (.inl (bW (2 ^ 301 - 1))))),
   (ad 20, .inl (cL, 5, .inr (.inl (S.2.2.1 5)))),
   (ad 21, .inr (8, [.ref (ad 22)])),
   (ad 22, .inl (cL, 301, .inr (.inl (S.2.2.1 6)))),
   (ad 23, .inr (2, [.ref (ad 24)])),
   (ad 24, .inl (cI, 301, .inl (S.2.2.2 0))),
   (ad 25, .inr (4, [.ref (ad 26)])),
   (ad 26, .inl (cI, 301, .inl (S.2.2.2 1))),
   (ad 27, .inr (7, [.ref (ad 28), .ref (ad 30), .ref (ad 32), .ref (ad 39), .ref (ad 46), .ref (ad 48), .ref (ad 50), .ref (ad 55), .ref (ad 60), .ref (ad 65), .ref (ad 68)])),
   (ad 28, .inr (3, [.ref (ad 29), .int (nI (S.2.1 3))])),
   (ad 29, .inl (cI, 20, .inl (fN (S.1 3)))),
   (ad 30, .inr (3, [.ref (ad 31), .int (nI (S.2.1 4))])),
   (ad 31, .inl (cI, 20, .inl (fN (S.1 4)))),
   (ad 32, .inr (6, [.ref (ad 33), .ref (ad 36)])),
   (ad 33, .inr (0, [.ref (ad 34), .ref (ad 35)])),
   (ad 34, .inl (cL, 5, .inr (.inl (S.2.2.1 7)))),
   (ad 35, .inl (cL, 5, .inr (.inl (S.2.2.1 8)))),
   (ad 36, .inr (0, [.ref (ad 37), .ref (ad 38)])),
   (ad 37, .inl (cL, 5, .inr (.inl (bW (2 ^ 301 - 1))))),
   (ad 38, .inl (cL, 5, .inr (.inl (S.2.2.1 9)))),
   (ad 39, .inr (6, [.ref (ad 40), .ref (ad 43)])),
   (ad 40, .inr (0, [.ref (ad 41), .ref (ad 42)])),
   (ad 41, .inl (cL, 5, .inr (.inl (S.2.2.1 10)))),
   (ad 42, .inl (cL, 5, .inr (.inl (S.2.2.1 11)))),
   (ad 43, .inr (0, [.ref (ad 44), .ref (ad 45)])),
   (ad 44, .inl (cL, 5, .inr (.inl (bW (2 ^ 301 - 1))))),
   (ad 45, .inl (cL, 5, .inr (.inl (S.2.2.1 12)))),
   (ad 46, .inr (5, [.ref (ad 47)])),
   (ad 47, .inl (cZ, 301, .inl (S.2.2.2 2))),
   (ad 48, .inr (8, [.ref (ad 49)])),
   (ad 49, .inl (cL, 301, .inr (.inl (S.2.2.1 13)))),
   (ad 50, .inr (1, [.ref (ad 51), .ref (ad 54)])),
   (ad 51, .inr (0, [.ref (ad 52), .ref (ad 53)])),
   (ad 52, .inl (cL, 99, .inr (.inl (S.2.2.1 14)))),
   (ad 53, .inl (cL, 99, .inr (.inl (S.2.2.1 15)))),
   (ad 54, .inl (cL, 301, .inr (.inl (S.2.2.1 16)))),
   (ad 55, .inr (1, [.ref (ad 56), .ref (ad 59)])),
   (ad 56, .inr (0, [.ref (ad 57), .ref (ad 58)])),
   (ad 57, .inl (cL, 99, .inr (.inl (S.2.2.1 17)))),
   (ad 58, .inl (cL, 99, .inr (.inl (S.2.2.1 18)))),
   (ad 59, .inl (cL, 301, .inr (.inl (S.2.2.1 19)))),
   (ad 60, .inr (1, [.ref (ad 61), .ref (ad 64)])),
   (ad 61, .inr (0, [.ref (ad 62), .ref (ad 63)])),
   (ad 62, .inl (cL, 99, .inr (.inl (S.2.2.1 20)))),
   (ad 63, .inl (cL, 99, .inr (.inl (S.2.2.1 21)))),
   (ad 64, .inl (cL, 301, .inr (.inl (S.2.2.1 22)))),
   (ad 65, .inr (0, [.ref (ad 66), .ref (ad 67)])),
   (ad 66, .inl (cL, 5, .inr (.inl (S.2.2.1 23)))),
   (ad 67, .inl (cL, 5, .inr (.inl (S.2.2.1 24)))),
   (ad 68, .inl (cL, 301, .inr (.inl (S.2.2.1 25))))]
/-- the reference's state: numbers and sizes, thrown, the rows of sums -/
abbrev MS : Type := (Nat → Nat) × Nat × (Nat → Nat) × Nat × Int32 × (Nat → Int64) × (Nat → Int32)
def mdlW (ad : Nat → Nat) (cI cL cA cB : ClassId) (S : MS) : va_W :=
  [(ad 0, .inr (10, [.ref (ad 1), .ref (ad 4), .ref (ad 5), .ref (ad 8), .ref (ad 9), .int S.2.2.2.2.1])),
   (ad 1, .inl (cA, 2, .inr (.inr (.inr (.inr (rf2 (ad 2) (ad 3))))))),
   (ad 2, .inl (cI, 20, .inl (fN S.1))),
   (ad 3, .inl (cI, 20, .inl (fN S.2.2.1))),
   (ad 4, .inl (cI, 2, .inl (fN (sz2 S.2.1 S.2.2.2.1)))),
   (ad 5, .inl (cB, 2, .inr (.inr (.inr (.inr (rf2 (ad 6) (ad 7))))))),
   (ad 6, .inl (cL, 301, .inr (.inl (fL (fiD opW f0W S.1 S.2.1))))),
   (ad 7, .inl (cL, 301, .inr (.inl (fL (fiD opW f0W S.2.2.1 S.2.2.2.1))))),
   (ad 8, .inl (cL, 301, .inr (.inl S.2.2.2.2.2.1))),
   (ad 9, .inl (cI, 301, .inl S.2.2.2.2.2.2))]
def su_u {α : Type} (f : Nat → α) (k : Nat) (v : α) : Nat → α := fun j => bif Nat.beq j k then v else f j
abbrev suRm : Room := { frames := 8, cells := 1, slots := 6, locals := 280 }
abbrev suRmM : Room := { frames := 8, cells := 1, slots := 20, locals := 280 }
theorem su_in1 {α : Type} {a : α} {L : List α} : a ∈ a :: L := List.mem_cons_self
theorem su_in2 {α : Type} {a b : α} {L : List α} : a ∈ b :: a :: L := List.mem_cons_of_mem _ List.mem_cons_self
theorem su_in3 {α : Type} {a b c : α} {L : List α} : a ∈ b :: c :: a :: L := List.mem_cons_of_mem _ su_in2
def su_h1 {α : Type} (RT : (Nat → Nat) → Nat → Nat → α → List Nat → Prop) (g : Nat → Nat) (n : Nat) (gb : Nat → Nat) (nb : Nat) (x : Int32) (kk : Nat) (v : α) (L0 L1 : List Nat) : Prop :=
  (x = nI 0 ∧ RT g n kk v L0 ∧ L1 = su_lst gb nb) ∨ (x = nI 1 ∧ RT gb nb kk v L1 ∧ L0 = su_lst g n) ∨ (x ≠ 0 ∧ x ≠ nI 1 ∧ inI x (nI 0) (nI 1) = false ∧ kk = 1 ∧ L0 = su_lst g n ∧ L1 = su_lst gb nb)
theorem su_h1_tot {α : Type} (d : α) {RT : (Nat → Nat) → Nat → Nat → α → List Nat → Prop} (hT : ∀ g n, okL (su_lst g n) → ∃ kk v L, RT g n kk v L ∧ okL L ∧ kk < 4) {g : Nat → Nat} {n : Nat} {gb : Nat → Nat} {nb : Nat} (h0 : okL (su_lst g n)) (h1 : okL (su_lst gb nb)) (x : Int32) :
    ∃ kk v L0 L1, su_h1 RT g n gb nb x kk v L0 L1 ∧ okL L0 ∧ okL L1 ∧ kk < 4 := by
  rcases ho_or x with rfl | rfl | ⟨q1, q2, q3⟩
  · obtain ⟨kk, v, L, a, b, c⟩ := hT g n h0; exact ⟨kk, v, L, _, Or.inl ⟨rfl, a, rfl⟩, b, h1, c⟩
  · obtain ⟨kk, v, L, a, b, c⟩ := hT gb nb h1; exact ⟨kk, v, _, L, Or.inr (Or.inl ⟨rfl, a, rfl⟩), h0, b, c⟩
  · exact ⟨1, d, _, _, Or.inr (Or.inr ⟨q1, q2, q3, rfl, rfl, rfl⟩), h0, h1, by decide⟩
theorem aL {g g2 : Nat → Nat} {n w : Nat} (h : su_lst g2 n = su_lst g n) : su_lst (va_up g2 n w) (n + 1) = su_lst (su_ins g n n w) (n + 1) := su_lst_cong (fun k hk => by
  have hi := su_lst_inj h
  unfold su_ins va_up su_sh
  by_cases e : k = n
  · rw [if_pos e, if_pos e]
  · rw [if_neg e, if_neg e, if_neg (by omega)]; exact hi k (by omega))
theorem iL {g g2 : Nat → Nat} {n q w : Nat} (hq : q ≤ n) (h : su_lst g2 n = su_lst g n) : su_lst (su_ins g2 n q w) (n + 1) = su_lst (su_ins g n q w) (n + 1) := su_lst_cong (fun k hk => by
  have hi := su_lst_inj h
  unfold su_ins va_up su_sh
  by_cases e : k = q
  · rw [if_pos e, if_pos e]
  · rw [if_neg e, if_neg e]
    by_cases e2 : q < k ∧ k ≤ n
    · rw [if_pos e2, if_pos e2]; exact hi (k - 1) (by omega)
    · rw [if_neg e2, if_neg e2]; exact hi k (by omega))
theorem rL {g g2 : Nat → Nat} {n q : Nat} (hq : q < n) (h : su_lst g2 n = su_lst g n) : su_lst (su_rm g2 q (n - 1)) (n - 1) = su_lst (su_rm g q (n - 1)) (n - 1) := su_lst_cong (fun k hk => by
  have hi := su_lst_inj h
  unfold su_rm
  by_cases e2 : q ≤ k ∧ k < n - 1
  · rw [if_pos e2, if_pos e2]; exact hi (k + 1) (by omega)
  · rw [if_neg e2, if_neg e2]; exact hi k (by omega))
theorem uL {g g2 : Nat → Nat} {n q w : Nat} (h : su_lst g2 n = su_lst g n) : su_lst (va_up g2 q w) n = su_lst (va_up g q w) n := su_lst_cong (fun k hk => by
  have hi := su_lst_inj h
  unfold va_up
  by_cases e : k = q
  · rw [if_pos e, if_pos e]
  · rw [if_neg e, if_neg e]; exact hi k hk)
theorem mvL {g g2 : Nat → Nat} {n q w : Nat} (hq : q < n) (hw : w < n) (h : su_lst g2 n = su_lst g n) : su_lst (su_ins (su_rm g2 q (n - 1)) (n - 1) w (g2 q)) n = su_lst (su_ins (su_rm g q (n - 1)) (n - 1) w (g q)) n := by
  obtain ⟨m, rfl⟩ : ∃ m, n = m + 1 := ⟨n - 1, by omega⟩
  have h1 := rL hq h
  rw [su_lst_inj h q hq]
  exact iL (g := su_rm g q (m + 1 - 1)) (g2 := su_rm g2 q (m + 1 - 1)) (n := m) (by omega) h1
theorem mUL {g g2 : Nat → Nat} {n q w : Nat} (hqv : q < w) (hw : w < n) (h : su_lst g2 n = su_lst g n) : su_lst (va_up (su_rm g2 q w) w (g2 q)) n = su_lst (su_ins (su_rm g q (n - 1)) (n - 1) w (g q)) n := by
  rw [su_lst_cong (su_mvU hqv hw)]; exact mvL (by omega) hw h
theorem mDL {g g2 : Nat → Nat} {n q w : Nat} (hqv : w ≤ q) (hq : q < n) (h : su_lst g2 n = su_lst g n) : su_lst (va_up (su_sh g2 q w) w (g2 q)) n = su_lst (su_ins (su_rm g q (n - 1)) (n - 1) w (g q)) n := by
  rw [su_lst_cong (su_mvD hqv hq)]; exact mvL hq (by omega) h
theorem soV {g v1 : Nat → Nat} {n : Nat} (hq : ∀ k, k < n → 1 ≤ g k ∧ g k ≤ 120) (h1 : so v1 n) (h2 : List.Perm (su_lst v1 n) (su_lst g n)) : nI (su_ct (fun k => !decide (v1 k = g k)) n) = nI (su_ct (fun k => !decide (ovl g (srt (su_lst g n) 120) k = g k)) n) := by
  have e := (so_uniq hq h1 h2).trans (srt_ov hq).symm
  exact congrArg nI (su_ct_cong (fun k hk => by rw [su_lst_inj e k hk]))
theorem soM {g g2 : Nat → Nat} {n : Nat} (h : su_lst g2 n = su_lst g n) : nI (su_ct (fun y => !decide (g2 y = ovl g2 (srt (su_lst g2 n) 120) y)) n) = nI (su_ct (fun k => !decide (ovl g (srt (su_lst g n) 120) k = g k)) n) := by
  refine congrArg nI (su_ct_cong (fun k hk => ?_))
  have hi := su_lst_inj h k hk
  have e : ovl g2 (srt (su_lst g2 n) 120) k = ovl g (srt (su_lst g n) 120) k := by unfold ovl; rw [h, hi]
  rw [e, hi]
  exact congrArg Bool.not (decide_eq_decide.mpr eq_comm)
theorem mkU_0 {g : Nat → Nat} {n : Nat} (hg : ∀ k, k < n → 1 ≤ g k ∧ g k ≤ 300) : mkU g n 0 = true := by
  rw [← mk_FU hg (by omega)]
  exact decide_eq_true (by rw [oF_0 g n (fun k hk => (hg k hk).1)]; decide)
theorem ch_or (x : Int32) {n : Nat} (hn : n ≤ 20) : inI x (nI 0) (nI (2 ^ n - 1)) = false ∨ ∃ w, x = nI w ∧ w < 2 ^ n := by
  have h1 : 2 ^ n ≤ 2 ^ 20 := Nat.pow_le_pow_right (by decide) hn
  have h2 : 0 < 2 ^ n := Nat.two_pow_pos n
  rcases inI_or x 0 (2 ^ n - 1) (by decide) (by omega) with h | ⟨u, e, -, hu⟩
  · exact Or.inl h
  · exact Or.inr ⟨u, e, by omega⟩
theorem pkV {g v1 : Nat → Nat} {n v2 : Nat} {x : Int32} (h : su_lst v1 v2 = su_pk g n x) : nI (nS v1 v2) = nI (su_ct (fun s => decide (0 < cL (su_pk g n x) s)) 301) := by
  unfold nS mkD
  exact congrArg nI (su_ct_cong (fun s hs => by rw [cW_L v1 v2 s (by omega), h]))
theorem lL_cW {g g2 : Nat → Nat} {n n2 : Nat} (h : su_lst g2 n2 = su_lst g n) : cW g2 n2 = cW g n := lL_fiD h
theorem nSL {v1 : Nat → Nat} {v2 : Nat} {L : List Nat} (h : su_lst v1 v2 = L) : nI (nS v1 v2) = nI (su_ct (fun s => decide (0 < cL L s)) 301) := by
  unfold nS mkD
  exact congrArg nI (su_ct_cong (fun s hs => by rw [cW_L v1 v2 s (by omega), h]))
theorem jnL {ga gb gc : Nat → Nat} (na nb : Nat) : su_lst (su_fl (jnG ga gb na) gc (na + nb)) (na + nb) = su_lst ga na ++ su_lst gb nb := by
  rw [su_lst_cong (fun k hk => su_fli k hk), jnG_lst]
theorem pkM {g g2 : Nat → Nat} {n v : Nat} (hn : n ≤ 20) (h : su_lst g2 n = su_lst g n) : nI (su_ct (fun s => decide (0 < ctP g2 v n s)) 301) = nI (su_ct (fun s => decide (0 < cL (su_pk g n (nI v)) s)) 301) :=
  congrArg nI (su_ct_cong (fun s hs => by rw [ctP_pk (by omega) s (by omega), lL_pk h]))
def su_Ki (l : Launch) (y : MethodName) (cw : List Cond) (D : va_G) (cI cL cZ : ClassId) (sz : Nat) (ad : Nat → Nat) (S : CS) (av : List Value) (XL : List (String × Nat)) (kk : Nat) (v : Int32) (L0 L1 : List Nat) : Prop :=
  vx_Met l y cw suRm (su_prx D (su_T cI cL cZ) sz (clsW ad cI cL cZ S) av) (su_qi D (va_A (clsW ad cI cL cZ S) sz) (fun r S' => (kk = 0 ∧ r = v) ∧ su_lst (S'.1 0) (S'.2.1 0) = L0 ∧ su_lst (S'.1 1) (S'.2.1 1) = L1) (clsW ad cI cL cZ))
    (su_xo D (va_A (clsW ad cI cL cZ S) sz) (fun E S' => (E, kk) ∈ XL ∧ su_lst (S'.1 0) (S'.2.1 0) = L0 ∧ su_lst (S'.1 1) (S'.2.1 1) = L1) (clsW ad cI cL cZ)) 1 6 (va_A (clsW ad cI cL cZ S) sz)
def su_Mi (l : Launch) (y : MethodName) (cw : List Cond) (D : va_G) (cI cL cZ cA cB : ClassId) (sz : Nat) (ad : Nat → Nat) (S : MS) (av : List Value) (kk : Nat) (v : Int32) (L0 L1 : List Nat) : Prop :=
  Met l y cw suRmM (su_pre D (su_T5 cI cL cZ cA cB) sz (mdlW ad cI cL cA cB S) av) (su_qi D (va_A (mdlW ad cI cL cA cB S) sz) (fun r S' => S'.2.2.2.2.1 = nI kk ∧ (kk = 0 → r = v) ∧ su_lst S'.1 S'.2.1 = L0 ∧ su_lst S'.2.2.1 S'.2.2.2.1 = L1) (mdlW ad cI cL cA cB)) 1 20 (va_A (mdlW ad cI cL cA cB S) sz)
def su_Kl (l : Launch) (y : MethodName) (cw : List Cond) (D : va_G) (cI cL cZ : ClassId) (sz : Nat) (ad : Nat → Nat) (S : CS) (av : List Value) (XL : List (String × Nat)) (kk : Nat) (v : Int64) (L0 L1 : List Nat) : Prop :=
  vx_Met l y cw suRm (su_prx D (su_T cI cL cZ) sz (clsW ad cI cL cZ S) av) (su_ql D (va_A (clsW ad cI cL cZ S) sz) (fun r S' => (kk = 0 ∧ r = v) ∧ su_lst (S'.1 0) (S'.2.1 0) = L0 ∧ su_lst (S'.1 1) (S'.2.1 1) = L1) (clsW ad cI cL cZ))
    (su_xo D (va_A (clsW ad cI cL cZ S) sz) (fun E S' => (E, kk) ∈ XL ∧ su_lst (S'.1 0) (S'.2.1 0) = L0 ∧ su_lst (S'.1 1) (S'.2.1 1) = L1) (clsW ad cI cL cZ)) 1 6 (va_A (clsW ad cI cL cZ S) sz)
def su_Ml (l : Launch) (y : MethodName) (cw : List Cond) (D : va_G) (cI cL cZ cA cB : ClassId) (sz : Nat) (ad : Nat → Nat) (S : MS) (av : List Value) (kk : Nat) (v : Int64) (L0 L1 : List Nat) : Prop :=
  Met l y cw suRmM (su_pre D (su_T5 cI cL cZ cA cB) sz (mdlW ad cI cL cA cB S) av) (su_ql D (va_A (mdlW ad cI cL cA cB S) sz) (fun r S' => S'.2.2.2.2.1 = nI kk ∧ (kk = 0 → r = v) ∧ su_lst S'.1 S'.2.1 = L0 ∧ su_lst S'.2.2.1 S'.2.2.2.1 = L1) (mdlW ad cI cL cA cB)) 1 20 (va_A (mdlW ad cI cL cA cB S) sz)
def su_Kf (l : Launch) (y : MethodName) (cw : List Cond) (D : va_G) (cI cL cZ : ClassId) (sz : Nat) (ad : Nat → Nat) (S : CS) (av : List Value) (XL : List (String × Nat)) (kk : Nat) (v : UInt32) (L0 L1 : List Nat) : Prop :=
  vx_Met l y cw suRm (su_prx D (su_T cI cL cZ) sz (clsW ad cI cL cZ S) av) (su_qf D (va_A (clsW ad cI cL cZ S) sz) (fun r S' => (kk = 0 ∧ r = v) ∧ su_lst (S'.1 0) (S'.2.1 0) = L0 ∧ su_lst (S'.1 1) (S'.2.1 1) = L1) (clsW ad cI cL cZ))
    (su_xo D (va_A (clsW ad cI cL cZ S) sz) (fun E S' => (E, kk) ∈ XL ∧ su_lst (S'.1 0) (S'.2.1 0) = L0 ∧ su_lst (S'.1 1) (S'.2.1 1) = L1) (clsW ad cI cL cZ)) 1 6 (va_A (clsW ad cI cL cZ S) sz)
def su_Mf (l : Launch) (y : MethodName) (cw : List Cond) (D : va_G) (cI cL cZ cA cB : ClassId) (sz : Nat) (ad : Nat → Nat) (S : MS) (av : List Value) (kk : Nat) (v : UInt32) (L0 L1 : List Nat) : Prop :=
  Met l y cw suRmM (su_pre D (su_T5 cI cL cZ cA cB) sz (mdlW ad cI cL cA cB S) av) (su_qf D (va_A (mdlW ad cI cL cA cB S) sz) (fun r S' => S'.2.2.2.2.1 = nI kk ∧ (kk = 0 → r = v) ∧ su_lst S'.1 S'.2.1 = L0 ∧ su_lst S'.2.2.1 S'.2.2.2.1 = L1) (mdlW ad cI cL cA cB)) 1 20 (va_A (mdlW ad cI cL cA cB S) sz)
def su_Kd (l : Launch) (y : MethodName) (cw : List Cond) (D : va_G) (cI cL cZ : ClassId) (sz : Nat) (ad : Nat → Nat) (S : CS) (av : List Value) (XL : List (String × Nat)) (kk : Nat) (v : UInt64) (L0 L1 : List Nat) : Prop :=
  vx_Met l y cw suRm (su_prx D (su_T cI cL cZ) sz (clsW ad cI cL cZ S) av) (su_qd D (va_A (clsW ad cI cL cZ S) sz) (fun r S' => (kk = 0 ∧ r = v) ∧ su_lst (S'.1 0) (S'.2.1 0) = L0 ∧ su_lst (S'.1 1) (S'.2.1 1) = L1) (clsW ad cI cL cZ))
    (su_xo D (va_A (clsW ad cI cL cZ S) sz) (fun E S' => (E, kk) ∈ XL ∧ su_lst (S'.1 0) (S'.2.1 0) = L0 ∧ su_lst (S'.1 1) (S'.2.1 1) = L1) (clsW ad cI cL cZ)) 1 6 (va_A (clsW ad cI cL cZ S) sz)
def su_Md (l : Launch) (y : MethodName) (cw : List Cond) (D : va_G) (cI cL cZ cA cB : ClassId) (sz : Nat) (ad : Nat → Nat) (S : MS) (av : List Value) (kk : Nat) (v : UInt64) (L0 L1 : List Nat) : Prop :=
  Met l y cw suRmM (su_pre D (su_T5 cI cL cZ cA cB) sz (mdlW ad cI cL cA cB S) av) (su_qd D (va_A (mdlW ad cI cL cA cB S) sz) (fun r S' => S'.2.2.2.2.1 = nI kk ∧ (kk = 0 → r = v) ∧ su_lst S'.1 S'.2.1 = L0 ∧ su_lst S'.2.2.1 S'.2.2.2.1 = L1) (mdlW ad cI cL cA cB)) 1 20 (va_A (mdlW ad cI cL cA cB S) sz)
/-! what each call says of a hoard that is named -/
def R_add (g : Nat → Nat) (n : Nat) (y : Int32) (kk : Nat) (v : Int32) (L : List Nat) : Prop :=
  (inI y (nI 1) (nI 120) = false ∧ kk = 2 ∧ L = su_lst g n) ∨
  (∃ w : Nat, y = nI w ∧ 1 ≤ w ∧ w ≤ 120 ∧ (20 < n + 1 ∨ 300 < su_sm g n + w) ∧ kk = 3 ∧ L = su_lst g n) ∨
  (∃ w : Nat, y = nI w ∧ 1 ≤ w ∧ w ≤ 120 ∧ n < 20 ∧ su_sm g n + w ≤ 300 ∧ kk = 0 ∧ v = nI (nS (su_ins g n n w) (n + 1)) ∧ L = su_lst (su_ins g n n w) (n + 1))
abbrev XL_add : List (String × Nat) := [("java/lang/IndexOutOfBoundsException", 1), ("java/lang/IllegalArgumentException", 2), ("java/lang/IllegalStateException", 3)]
theorem T_add (g : Nat → Nat) (n : Nat) (y : Int32) (ok : okL (su_lst g n)) : ∃ kk v L, R_add g n y kk v L ∧ okL L ∧ kk < 4 := by
  have hn := ok_n ok
  rcases inI_or y 1 120 (by decide) (by decide) with h | ⟨w, rfl, h1, h2⟩
  · exact ⟨2, 0, _, Or.inl ⟨h, rfl, rfl⟩, ok, by decide⟩
  · by_cases hb : 20 < n + 1 ∨ 300 < su_sm g n + w
    · exact ⟨3, 0, _, Or.inr (Or.inl ⟨w, rfl, h1, h2, hb, rfl, rfl⟩), ok, by decide⟩
    · exact ⟨0, _, _, Or.inr (Or.inr ⟨w, rfl, h1, h2, by omega, by omega, rfl, rfl, rfl⟩), ok_ins ok (by omega) (Nat.le_refl _) h1 h2 (by omega), by decide⟩
def R_insert (g : Nat → Nat) (n : Nat) (y : Int32) (z : Int32) (kk : Nat) (v : Int32) (L : List Nat) : Prop :=
  (inI y (nI 0) (nI n) = false ∧ kk = 1 ∧ L = su_lst g n) ∨
  (∃ q : Nat, y = nI q ∧ q ≤ n ∧ inI z (nI 1) (nI 120) = false ∧ kk = 2 ∧ L = su_lst g n) ∨
  (∃ q w : Nat, y = nI q ∧ z = nI w ∧ q ≤ n ∧ 1 ≤ w ∧ w ≤ 120 ∧ (20 < n + 1 ∨ 300 < su_sm g n + w) ∧ kk = 3 ∧ L = su_lst g n) ∨
  (∃ q w : Nat, y = nI q ∧ z = nI w ∧ q ≤ n ∧ 1 ≤ w ∧ w ≤ 120 ∧ n < 20 ∧ su_sm g n + w ≤ 300 ∧ kk = 0 ∧ v = nI (nS (su_ins g n q w) (n + 1)) ∧ L = su_lst (su_ins g n q w) (n + 1))
abbrev XL_insert : List (String × Nat) := [("java/lang/IndexOutOfBoundsException", 1), ("java/lang/IllegalArgumentException", 2), ("java/lang/IllegalStateException", 3)]
theorem T_insert (g : Nat → Nat) (n : Nat) (y : Int32) (z : Int32) (ok : okL (su_lst g n)) : ∃ kk v L, R_insert g n y z kk v L ∧ okL L ∧ kk < 4 := by
  have hn := ok_n ok
  rcases inI_or y 0 n (by decide) (by omega) with h | ⟨q, rfl, -, hq⟩
  · exact ⟨1, 0, _, Or.inl ⟨h, rfl, rfl⟩, ok, by decide⟩
  · rcases inI_or z 1 120 (by decide) (by decide) with h | ⟨w, rfl, h1, h2⟩
    · exact ⟨2, 0, _, Or.inr (Or.inl ⟨q, rfl, hq, h, rfl, rfl⟩), ok, by decide⟩
    · by_cases hb : 20 < n + 1 ∨ 300 < su_sm g n + w
      · exact ⟨3, 0, _, Or.inr (Or.inr (Or.inl ⟨q, w, rfl, rfl, hq, h1, h2, hb, rfl, rfl⟩)), ok, by decide⟩
      · exact ⟨0, _, _, Or.inr (Or.inr (Or.inr ⟨q, w, rfl, rfl, hq, h1, h2, by omega, by omega, rfl, rfl, rfl⟩)), ok_ins ok (by omega) hq h1 h2 (by omega), by decide⟩
def R_takeOut (g : Nat → Nat) (n : Nat) (y : Int32) (kk : Nat) (v : Int32) (L : List Nat) : Prop :=
  (hp y n = false ∧ kk = 1 ∧ L = su_lst g n) ∨
  (∃ q : Nat, y = nI q ∧ q < n ∧ kk = 0 ∧ v = nI (nS g n) - nI (nS (su_rm g q (n - 1)) (n - 1)) ∧ L = su_lst (su_rm g q (n - 1)) (n - 1))
abbrev XL_takeOut : List (String × Nat) := [("java/lang/IndexOutOfBoundsException", 1)]
theorem T_takeOut (g : Nat → Nat) (n : Nat) (y : Int32) (ok : okL (su_lst g n)) : ∃ kk v L, R_takeOut g n y kk v L ∧ okL L ∧ kk < 4 := by
  have hn := ok_n ok
  rcases hp_or y hn with h | ⟨q, rfl, hq⟩
  · exact ⟨1, 0, _, Or.inl ⟨h, rfl, rfl⟩, ok, by decide⟩
  · exact ⟨0, _, _, Or.inr ⟨q, rfl, hq, rfl, rfl, rfl⟩, ok_rm ok hq, by decide⟩
def R_exchange (g : Nat → Nat) (n : Nat) (y : Int32) (z : Int32) (kk : Nat) (v : Int32) (L : List Nat) : Prop :=
  (hp y n = false ∧ kk = 1 ∧ L = su_lst g n) ∨
  (∃ q : Nat, y = nI q ∧ q < n ∧ inI z (nI 1) (nI 120) = false ∧ kk = 2 ∧ L = su_lst g n) ∨
  (∃ q w : Nat, y = nI q ∧ z = nI w ∧ q < n ∧ 1 ≤ w ∧ w ≤ 120 ∧ 300 < su_sm g n - g q + w ∧ kk = 3 ∧ L = su_lst g n) ∨
  (∃ q w : Nat, y = nI q ∧ z = nI w ∧ q < n ∧ 1 ≤ w ∧ w ≤ 120 ∧ su_sm g n - g q + w ≤ 300 ∧ kk = 0 ∧ v = nI (g q) ∧ L = su_lst (va_up g q w) n)
abbrev XL_exchange : List (String × Nat) := [("java/lang/IndexOutOfBoundsException", 1), ("java/lang/IllegalArgumentException", 2), ("java/lang/IllegalStateException", 3)]
theorem T_exchange (g : Nat → Nat) (n : Nat) (y : Int32) (z : Int32) (ok : okL (su_lst g n)) : ∃ kk v L, R_exchange g n y z kk v L ∧ okL L ∧ kk < 4 := by
  have hn := ok_n ok
  rcases hp_or y hn with h | ⟨q, rfl, hq⟩
  · exact ⟨1, 0, _, Or.inl ⟨h, rfl, rfl⟩, ok, by decide⟩
  · rcases inI_or z 1 120 (by decide) (by decide) with h | ⟨w, rfl, h1, h2⟩
    · exact ⟨2, 0, _, Or.inr (Or.inl ⟨q, rfl, hq, h, rfl, rfl⟩), ok, by decide⟩
    · by_cases hb : 300 < su_sm g n - g q + w
      · exact ⟨3, 0, _, Or.inr (Or.inr (Or.inl ⟨q, w, rfl, rfl, hq, h1, h2, hb, rfl, rfl⟩)), ok, by decide⟩
      · exact ⟨0, _, _, Or.inr (Or.inr (Or.inr ⟨q, w, rfl, rfl, hq, h1, h2, by omega, rfl, rfl, rfl⟩)), ok_up ok hq h1 h2 (by omega), by decide⟩
def R_move (g : Nat → Nat) (n : Nat) (y : Int32) (z : Int32) (kk : Nat) (v : Int32) (L : List Nat) : Prop :=
  (hp y n = false ∧ kk = 1 ∧ L = su_lst g n) ∨
  (∃ q : Nat, y = nI q ∧ q < n ∧ hp z n = false ∧ kk = 1 ∧ L = su_lst g n) ∨
  (∃ q w : Nat, y = nI q ∧ z = nI w ∧ q < w ∧ w < n ∧ kk = 0 ∧ v = nI (g q) ∧ L = su_lst (su_ins (su_rm g q (n - 1)) (n - 1) w (g q)) n) ∨
  (∃ q w : Nat, y = nI q ∧ z = nI w ∧ w ≤ q ∧ q < n ∧ kk = 0 ∧ v = nI (g q) ∧ L = su_lst (su_ins (su_rm g q (n - 1)) (n - 1) w (g q)) n)
abbrev XL_move : List (String × Nat) := [("java/lang/IndexOutOfBoundsException", 1)]
theorem T_move (g : Nat → Nat) (n : Nat) (y : Int32) (z : Int32) (ok : okL (su_lst g n)) : ∃ kk v L, R_move g n y z kk v L ∧ okL L ∧ kk < 4 := by
  have hn := ok_n ok
  rcases hp_or y hn with h | ⟨q, rfl, hq⟩
  · exact ⟨1, 0, _, Or.inl ⟨h, rfl, rfl⟩, ok, by decide⟩
  · rcases hp_or z hn with h | ⟨w, rfl, hw⟩
    · exact ⟨1, 0, _, Or.inr (Or.inl ⟨q, rfl, hq, h, rfl, rfl⟩), ok, by decide⟩
    · have hp := ok_perm (su_mv_perm hq hw) ok
      by_cases h : q < w
      · exact ⟨0, _, _, Or.inr (Or.inr (Or.inl ⟨q, w, rfl, rfl, h, hw, rfl, rfl, rfl⟩)), hp, by decide⟩
      · exact ⟨0, _, _, Or.inr (Or.inr (Or.inr ⟨q, w, rfl, rfl, by omega, hq, rfl, rfl, rfl⟩)), hp, by decide⟩
def R_sort (g : Nat → Nat) (n : Nat) (kk : Nat) (v : Int32) (L : List Nat) : Prop :=
  (kk = 0 ∧ v = nI (su_ct (fun k => !decide (ovl g (srt (su_lst g n) 120) k = g k)) n) ∧ L = srt (su_lst g n) 120)
abbrev XL_sort : List (String × Nat) := [("java/lang/IndexOutOfBoundsException", 1)]
theorem T_sort (g : Nat → Nat) (n : Nat) (ok : okL (su_lst g n)) : ∃ kk v L, R_sort g n kk v L ∧ okL L ∧ kk < 4 := by
  have hn := ok_n ok
  exact ⟨0, _, _, ⟨rfl, rfl, rfl⟩, ok_perm (srt_all ok.2.2) ok, by decide⟩
def R_clear (g : Nat → Nat) (n : Nat) (kk : Nat) (v : Int32) (L : List Nat) : Prop :=
  (kk = 0 ∧ v = nI n ∧ L = [])
abbrev XL_clear : List (String × Nat) := [("java/lang/IndexOutOfBoundsException", 1)]
theorem T_clear (g : Nat → Nat) (n : Nat) (ok : okL (su_lst g n)) : ∃ kk v L, R_clear g n kk v L ∧ okL L ∧ kk < 4 := by
  have hn := ok_n ok
  exact ⟨0, _, _, ⟨rfl, rfl, rfl⟩, ok_nil, by decide⟩
def R_size (g : Nat → Nat) (n : Nat) (kk : Nat) (v : Int32) (L : List Nat) : Prop :=
  (kk = 0 ∧ v = nI n ∧ L = su_lst g n)
abbrev XL_size : List (String × Nat) := [("java/lang/IndexOutOfBoundsException", 1)]
theorem T_size (g : Nat → Nat) (n : Nat) (ok : okL (su_lst g n)) : ∃ kk v L, R_size g n kk v L ∧ okL L ∧ kk < 4 := by
  have hn := ok_n ok
  exact ⟨0, _, _, ⟨rfl, rfl, rfl⟩, ok, by decide⟩
def R_number (g : Nat → Nat) (n : Nat) (y : Int32) (kk : Nat) (v : Int32) (L : List Nat) : Prop :=
  (hp y n = false ∧ kk = 1 ∧ L = su_lst g n) ∨
  (∃ q : Nat, y = nI q ∧ q < n ∧ kk = 0 ∧ v = nI (g q) ∧ L = su_lst g n)
abbrev XL_number : List (String × Nat) := [("java/lang/IndexOutOfBoundsException", 1)]
theorem T_number (g : Nat → Nat) (n : Nat) (y : Int32) (ok : okL (su_lst g n)) : ∃ kk v L, R_number g n y kk v L ∧ okL L ∧ kk < 4 := by
  have hn := ok_n ok
  rcases hp_or y hn with h | ⟨q, rfl, hq⟩
  · exact ⟨1, 0, _, Or.inl ⟨h, rfl, rfl⟩, ok, by decide⟩
  · exact ⟨0, _, _, Or.inr ⟨q, rfl, hq, rfl, rfl, rfl⟩, ok, by decide⟩
def R_total (g : Nat → Nat) (n : Nat) (kk : Nat) (v : Int32) (L : List Nat) : Prop :=
  (kk = 0 ∧ v = nI (su_sm g n) ∧ L = su_lst g n)
abbrev XL_total : List (String × Nat) := [("java/lang/IndexOutOfBoundsException", 1)]
theorem T_total (g : Nat → Nat) (n : Nat) (ok : okL (su_lst g n)) : ∃ kk v L, R_total g n kk v L ∧ okL L ∧ kk < 4 := by
  have hn := ok_n ok
  exact ⟨0, _, _, ⟨rfl, rfl, rfl⟩, ok, by decide⟩
def R_isSum (g : Nat → Nat) (n : Nat) (y : Int32) (b : Bool) (kk : Nat) (v : Int32) (L : List Nat) : Prop :=
  (inI y (nI 0) (nI 300) = false ∧ kk = 2 ∧ L = su_lst g n) ∨
  (∃ u : Nat, y = nI u ∧ b = false ∧ u ≤ 300 ∧ kk = 0 ∧ v = bI (mkD g n u) ∧ L = su_lst g n) ∨
  (∃ u : Nat, y = nI u ∧ b = true ∧ u ≤ 300 ∧ kk = 0 ∧ v = bI (mkU g n u) ∧ L = su_lst g n)
abbrev XL_isSum : List (String × Nat) := [("java/lang/IndexOutOfBoundsException", 1), ("java/lang/IllegalArgumentException", 2)]
theorem T_isSum (g : Nat → Nat) (n : Nat) (y : Int32) (b : Bool) (ok : okL (su_lst g n)) : ∃ kk v L, R_isSum g n y b kk v L ∧ okL L ∧ kk < 4 := by
  have hn := ok_n ok
  rcases inI_or y 0 300 (by decide) (by decide) with h | ⟨u, rfl, -, hu⟩
  · exact ⟨2, 0, _, Or.inl ⟨h, rfl, rfl⟩, ok, by decide⟩
  · cases b
    · exact ⟨0, _, _, Or.inr (Or.inl ⟨u, rfl, rfl, hu, rfl, rfl, rfl⟩), ok, by decide⟩
    · exact ⟨0, _, _, Or.inr (Or.inr ⟨u, rfl, rfl, hu, rfl, rfl, rfl⟩), ok, by decide⟩
def R_sums (g : Nat → Nat) (n : Nat) (b : Bool) (kk : Nat) (v : Int32) (L : List Nat) : Prop :=
  (b = false ∧ kk = 0 ∧ v = nI (su_ct (mkD g n) 301) ∧ L = su_lst g n) ∨
  (b = true ∧ kk = 0 ∧ v = nI (su_ct (mkU g n) 301) ∧ L = su_lst g n)
abbrev XL_sums : List (String × Nat) := [("java/lang/IndexOutOfBoundsException", 1)]
theorem T_sums (g : Nat → Nat) (n : Nat) (b : Bool) (ok : okL (su_lst g n)) : ∃ kk v L, R_sums g n b kk v L ∧ okL L ∧ kk < 4 := by
  have hn := ok_n ok
  cases b
  · exact ⟨0, _, _, Or.inl ⟨rfl, rfl, rfl, rfl⟩, ok, by decide⟩
  · exact ⟨0, _, _, Or.inr ⟨rfl, rfl, rfl, rfl⟩, ok, by decide⟩
def R_next (g : Nat → Nat) (n : Nat) (y : Int32) (b : Bool) (kk : Nat) (v : Int32) (L : List Nat) : Prop :=
  (inI y (nI 0) (nI 300) = false ∧ kk = 2 ∧ L = su_lst g n) ∨
  (∃ u w : Nat, y = nI u ∧ b = false ∧ u ≤ 300 ∧ u ≤ w ∧ w ≤ 300 ∧ mkD g n w = true ∧ (∀ s, u ≤ s → s < w → mkD g n s = !true) ∧ kk = 0 ∧ v = nI w ∧ L = su_lst g n) ∨
  (∃ u : Nat, y = nI u ∧ b = false ∧ u ≤ 300 ∧ (∀ s, u ≤ s → s ≤ 300 → mkD g n s = !true) ∧ kk = 3 ∧ L = su_lst g n) ∨
  (∃ u w : Nat, y = nI u ∧ b = true ∧ u ≤ 300 ∧ u ≤ w ∧ w ≤ 300 ∧ mkU g n w = true ∧ (∀ s, u ≤ s → s < w → mkU g n s = !true) ∧ kk = 0 ∧ v = nI w ∧ L = su_lst g n) ∨
  (∃ u : Nat, y = nI u ∧ b = true ∧ u ≤ 300 ∧ (∀ s, u ≤ s → s ≤ 300 → mkU g n s = !true) ∧ kk = 3 ∧ L = su_lst g n)
abbrev XL_next : List (String × Nat) := [("java/lang/IndexOutOfBoundsException", 1), ("java/lang/IllegalArgumentException", 2), ("java/util/NoSuchElementException", 3)]
theorem T_next (g : Nat → Nat) (n : Nat) (y : Int32) (b : Bool) (ok : okL (su_lst g n)) : ∃ kk v L, R_next g n y b kk v L ∧ okL L ∧ kk < 4 := by
  have hn := ok_n ok
  rcases inI_or y 0 300 (by decide) (by decide) with h | ⟨u, rfl, -, hu⟩
  · exact ⟨2, 0, _, Or.inl ⟨h, rfl, rfl⟩, ok, by decide⟩
  · cases b
    · rcases fup (mkD g n) true u with ⟨w, q1, q2, q3, q4⟩ | q1
      · exact ⟨0, _, _, Or.inr (Or.inl ⟨u, w, rfl, rfl, hu, q1, q2, q3, q4, rfl, rfl, rfl⟩), ok, by decide⟩
      · exact ⟨3, 0, _, Or.inr (Or.inr (Or.inl ⟨u, rfl, rfl, hu, q1, rfl, rfl⟩)), ok, by decide⟩
    · rcases fup (mkU g n) true u with ⟨w, q1, q2, q3, q4⟩ | q1
      · exact ⟨0, _, _, Or.inr (Or.inr (Or.inr (Or.inl ⟨u, w, rfl, rfl, hu, q1, q2, q3, q4, rfl, rfl, rfl⟩))), ok, by decide⟩
      · exact ⟨3, 0, _, Or.inr (Or.inr (Or.inr (Or.inr ⟨u, rfl, rfl, hu, q1, rfl, rfl⟩))), ok, by decide⟩
def R_previous (g : Nat → Nat) (n : Nat) (y : Int32) (b : Bool) (kk : Nat) (v : Int32) (L : List Nat) : Prop :=
  (inI y (nI 0) (nI 300) = false ∧ kk = 2 ∧ L = su_lst g n) ∨
  (∃ u w : Nat, y = nI u ∧ b = false ∧ u ≤ 300 ∧ w ≤ u ∧ mkD g n w = true ∧ (∀ s, s ≤ u → w < s → mkD g n s = !true) ∧ kk = 0 ∧ v = nI w ∧ L = su_lst g n) ∨
  (∃ u w : Nat, y = nI u ∧ b = true ∧ u ≤ 300 ∧ w ≤ u ∧ mkU g n w = true ∧ (∀ s, s ≤ u → w < s → mkU g n s = !true) ∧ kk = 0 ∧ v = nI w ∧ L = su_lst g n)
abbrev XL_previous : List (String × Nat) := [("java/lang/IndexOutOfBoundsException", 1), ("java/lang/IllegalArgumentException", 2)]
theorem T_previous (g : Nat → Nat) (n : Nat) (y : Int32) (b : Bool) (ok : okL (su_lst g n)) : ∃ kk v L, R_previous g n y b kk v L ∧ okL L ∧ kk < 4 := by
  have hn := ok_n ok
  rcases inI_or y 0 300 (by decide) (by decide) with h | ⟨u, rfl, -, hu⟩
  · exact ⟨2, 0, _, Or.inl ⟨h, rfl, rfl⟩, ok, by decide⟩
  · cases b
    · rcases fdn (mkD g n) true u with ⟨w, q1, q3, q4⟩ | q1
      · exact ⟨0, _, _, Or.inr (Or.inl ⟨u, w, rfl, rfl, hu, q1, q3, q4, rfl, rfl, rfl⟩), ok, by decide⟩
      · exact absurd ((q1 0 (Nat.zero_le _)).symm.trans (mkD_0 g n)) (by decide)
    · rcases fdn (mkU g n) true u with ⟨w, q1, q3, q4⟩ | q1
      · exact ⟨0, _, _, Or.inr (Or.inr ⟨u, w, rfl, rfl, hu, q1, q3, q4, rfl, rfl, rfl⟩), ok, by decide⟩
      · exact absurd ((q1 0 (Nat.zero_le _)).symm.trans (mkU_0 (ok_h ok))) (by decide)
def R_gap (g : Nat → Nat) (n : Nat) (y : Int32) (b : Bool) (kk : Nat) (v : Int32) (L : List Nat) : Prop :=
  (inI y (nI 0) (nI 300) = false ∧ kk = 2 ∧ L = su_lst g n) ∨
  (∃ u w : Nat, y = nI u ∧ b = false ∧ u ≤ 300 ∧ u ≤ w ∧ w ≤ 300 ∧ mkD g n w = false ∧ (∀ s, u ≤ s → s < w → mkD g n s = !false) ∧ kk = 0 ∧ v = nI w ∧ L = su_lst g n) ∨
  (∃ u : Nat, y = nI u ∧ b = false ∧ u ≤ 300 ∧ (∀ s, u ≤ s → s ≤ 300 → mkD g n s = !false) ∧ kk = 3 ∧ L = su_lst g n) ∨
  (∃ u w : Nat, y = nI u ∧ b = true ∧ u ≤ 300 ∧ u ≤ w ∧ w ≤ 300 ∧ mkU g n w = false ∧ (∀ s, u ≤ s → s < w → mkU g n s = !false) ∧ kk = 0 ∧ v = nI w ∧ L = su_lst g n) ∨
  (∃ u : Nat, y = nI u ∧ b = true ∧ u ≤ 300 ∧ (∀ s, u ≤ s → s ≤ 300 → mkU g n s = !false) ∧ kk = 3 ∧ L = su_lst g n)
abbrev XL_gap : List (String × Nat) := [("java/lang/IndexOutOfBoundsException", 1), ("java/lang/IllegalArgumentException", 2), ("java/util/NoSuchElementException", 3)]
theorem T_gap (g : Nat → Nat) (n : Nat) (y : Int32) (b : Bool) (ok : okL (su_lst g n)) : ∃ kk v L, R_gap g n y b kk v L ∧ okL L ∧ kk < 4 := by
  have hn := ok_n ok
  rcases inI_or y 0 300 (by decide) (by decide) with h | ⟨u, rfl, -, hu⟩
  · exact ⟨2, 0, _, Or.inl ⟨h, rfl, rfl⟩, ok, by decide⟩
  · cases b
    · rcases fup (mkD g n) false u with ⟨w, q1, q2, q3, q4⟩ | q1
      · exact ⟨0, _, _, Or.inr (Or.inl ⟨u, w, rfl, rfl, hu, q1, q2, q3, q4, rfl, rfl, rfl⟩), ok, by decide⟩
      · exact ⟨3, 0, _, Or.inr (Or.inr (Or.inl ⟨u, rfl, rfl, hu, q1, rfl, rfl⟩)), ok, by decide⟩
    · rcases fup (mkU g n) false u with ⟨w, q1, q2, q3, q4⟩ | q1
      · exact ⟨0, _, _, Or.inr (Or.inr (Or.inr (Or.inl ⟨u, w, rfl, rfl, hu, q1, q2, q3, q4, rfl, rfl, rfl⟩))), ok, by decide⟩
      · exact ⟨3, 0, _, Or.inr (Or.inr (Or.inr (Or.inr ⟨u, rfl, rfl, hu, q1, rfl, rfl⟩))), ok, by decide⟩
def R_lastGap (g : Nat → Nat) (n : Nat) (b : Bool) (kk : Nat) (v : Int32) (L : List Nat) : Prop :=
  (∃ w : Nat, b = false ∧ w ≤ 300 ∧ mkD g n w = false ∧ (∀ s, s ≤ 300 → w < s → mkD g n s = !false) ∧ kk = 0 ∧ v = nI w ∧ L = su_lst g n) ∨
  (b = false ∧ (∀ s, s ≤ 300 → mkD g n s = !false) ∧ kk = 2 ∧ L = su_lst g n) ∨
  (∃ w : Nat, b = true ∧ w ≤ 300 ∧ mkU g n w = false ∧ (∀ s, s ≤ 300 → w < s → mkU g n s = !false) ∧ kk = 0 ∧ v = nI w ∧ L = su_lst g n) ∨
  (b = true ∧ (∀ s, s ≤ 300 → mkU g n s = !false) ∧ kk = 2 ∧ L = su_lst g n)
abbrev XL_lastGap : List (String × Nat) := [("java/lang/IndexOutOfBoundsException", 1), ("java/util/NoSuchElementException", 2)]
theorem T_lastGap (g : Nat → Nat) (n : Nat) (b : Bool) (ok : okL (su_lst g n)) : ∃ kk v L, R_lastGap g n b kk v L ∧ okL L ∧ kk < 4 := by
  have hn := ok_n ok
  cases b
  · rcases fdn (mkD g n) false 300 with ⟨w, q1, q3, q4⟩ | q1
    · exact ⟨0, _, _, Or.inl ⟨w, rfl, q1, q3, q4, rfl, rfl, rfl⟩, ok, by decide⟩
    · exact ⟨2, 0, _, Or.inr (Or.inl ⟨rfl, q1, rfl, rfl⟩), ok, by decide⟩
  · rcases fdn (mkU g n) false 300 with ⟨w, q1, q3, q4⟩ | q1
    · exact ⟨0, _, _, Or.inr (Or.inr (Or.inl ⟨w, rfl, q1, q3, q4, rfl, rfl, rfl⟩)), ok, by decide⟩
    · exact ⟨2, 0, _, Or.inr (Or.inr (Or.inr ⟨rfl, q1, rfl, rfl⟩)), ok, by decide⟩
def R_ways (g : Nat → Nat) (n : Nat) (y : Int32) (b : Bool) (kk : Nat) (v : Int64) (L : List Nat) : Prop :=
  (inI y (nI 0) (nI 300) = false ∧ kk = 2 ∧ L = su_lst g n) ∨
  (∃ u : Nat, y = nI u ∧ b = false ∧ u ≤ 300 ∧ kk = 0 ∧ v = lN (fiD opW f0W g n u) ∧ L = su_lst g n) ∨
  (∃ u : Nat, y = nI u ∧ b = true ∧ u ≤ 300 ∧ kk = 0 ∧ v = lN (fiU opW f0W g n u) ∧ L = su_lst g n)
abbrev XL_ways : List (String × Nat) := [("java/lang/IndexOutOfBoundsException", 1), ("java/lang/IllegalArgumentException", 2)]
theorem T_ways (g : Nat → Nat) (n : Nat) (y : Int32) (b : Bool) (ok : okL (su_lst g n)) : ∃ kk v L, R_ways g n y b kk v L ∧ okL L ∧ kk < 4 := by
  have hn := ok_n ok
  rcases inI_or y 0 300 (by decide) (by decide) with h | ⟨u, rfl, -, hu⟩
  · exact ⟨2, 0, _, Or.inl ⟨h, rfl, rfl⟩, ok, by decide⟩
  · cases b
    · exact ⟨0, _, _, Or.inr (Or.inl ⟨u, rfl, rfl, hu, rfl, rfl, rfl⟩), ok, by decide⟩
    · exact ⟨0, _, _, Or.inr (Or.inr ⟨u, rfl, rfl, hu, rfl, rfl, rfl⟩), ok, by decide⟩
def R_most (g : Nat → Nat) (n : Nat) (kk : Nat) (v : Int32) (L : List Nat) : Prop :=
  (kk = 0 ∧ v = nI (su_mx (cW g n) 300) ∧ L = su_lst g n)
abbrev XL_most : List (String × Nat) := [("java/lang/IndexOutOfBoundsException", 1)]
theorem T_most (g : Nat → Nat) (n : Nat) (ok : okL (su_lst g n)) : ∃ kk v L, R_most g n kk v L ∧ okL L ∧ kk < 4 := by
  have hn := ok_n ok
  exact ⟨0, _, _, ⟨rfl, rfl, rfl⟩, ok, by decide⟩
def R_fewest (g : Nat → Nat) (n : Nat) (y : Int32) (b : Bool) (kk : Nat) (v : Int32) (L : List Nat) : Prop :=
  (inI y (nI 0) (nI 300) = false ∧ kk = 2 ∧ L = su_lst g n) ∨
  (∃ u : Nat, y = nI u ∧ b = false ∧ u ≤ 300 ∧ fiD opF f0F g n u < 301 ∧ kk = 0 ∧ v = nI (fiD opF f0F g n u) ∧ L = su_lst g n) ∨
  (∃ u : Nat, y = nI u ∧ b = false ∧ u ≤ 300 ∧ ¬ fiD opF f0F g n u < 301 ∧ kk = 3 ∧ L = su_lst g n) ∨
  (∃ u : Nat, y = nI u ∧ b = true ∧ u ≤ 300 ∧ fiU opF f0F g n u < 301 ∧ kk = 0 ∧ v = nI (fiU opF f0F g n u) ∧ L = su_lst g n) ∨
  (∃ u : Nat, y = nI u ∧ b = true ∧ u ≤ 300 ∧ ¬ fiU opF f0F g n u < 301 ∧ kk = 3 ∧ L = su_lst g n)
abbrev XL_fewest : List (String × Nat) := [("java/lang/IndexOutOfBoundsException", 1), ("java/lang/IllegalArgumentException", 2), ("java/util/NoSuchElementException", 3)]
theorem T_fewest (g : Nat → Nat) (n : Nat) (y : Int32) (b : Bool) (ok : okL (su_lst g n)) : ∃ kk v L, R_fewest g n y b kk v L ∧ okL L ∧ kk < 4 := by
  have hn := ok_n ok
  rcases inI_or y 0 300 (by decide) (by decide) with h | ⟨u, rfl, -, hu⟩
  · exact ⟨2, 0, _, Or.inl ⟨h, rfl, rfl⟩, ok, by decide⟩
  · cases b
    · by_cases hm : fiD opF f0F g n u < 301
      · exact ⟨0, _, _, Or.inr (Or.inl ⟨u, rfl, rfl, hu, hm, rfl, rfl, rfl⟩), ok, by decide⟩
      · exact ⟨3, 0, _, Or.inr (Or.inr (Or.inl ⟨u, rfl, rfl, hu, hm, rfl, rfl⟩)), ok, by decide⟩
    · by_cases hm : fiU opF f0F g n u < 301
      · exact ⟨0, _, _, Or.inr (Or.inr (Or.inr (Or.inl ⟨u, rfl, rfl, hu, hm, rfl, rfl, rfl⟩))), ok, by decide⟩
      · exact ⟨3, 0, _, Or.inr (Or.inr (Or.inr (Or.inr ⟨u, rfl, rfl, hu, hm, rfl, rfl⟩))), ok, by decide⟩
def R_withMany (g : Nat → Nat) (n : Nat) (y : Int32) (kk : Nat) (v : Int32) (L : List Nat) : Prop :=
  (inI y (nI 0) (nI 20) = false ∧ kk = 2 ∧ L = su_lst g n) ∨
  (∃ w : Nat, y = nI w ∧ w ≤ 20 ∧ kk = 0 ∧ v = nI (su_ct (wmF g n w) 301) ∧ L = su_lst g n)
abbrev XL_withMany : List (String × Nat) := [("java/lang/IndexOutOfBoundsException", 1), ("java/lang/IllegalArgumentException", 2)]
theorem T_withMany (g : Nat → Nat) (n : Nat) (y : Int32) (ok : okL (su_lst g n)) : ∃ kk v L, R_withMany g n y kk v L ∧ okL L ∧ kk < 4 := by
  have hn := ok_n ok
  rcases inI_or y 0 20 (by decide) (by decide) with h | ⟨u, rfl, -, hu⟩
  · exact ⟨2, 0, _, Or.inl ⟨h, rfl, rfl⟩, ok, by decide⟩
  · exact ⟨0, _, _, Or.inr ⟨u, rfl, hu, rfl, rfl, rfl⟩, ok, by decide⟩
def R_fair (g : Nat → Nat) (n : Nat) (kk : Nat) (v : Int32) (L : List Nat) : Prop :=
  (kk = 0 ∧ v = nI (su_fr (mkD g n) (su_sm g n) (su_sm g n + 1)) ∧ L = su_lst g n)
abbrev XL_fair : List (String × Nat) := [("java/lang/IndexOutOfBoundsException", 1)]
theorem T_fair (g : Nat → Nat) (n : Nat) (ok : okL (su_lst g n)) : ∃ kk v L, R_fair g n kk v L ∧ okL L ∧ kk < 4 := by
  have hn := ok_n ok
  exact ⟨0, _, _, ⟨rfl, rfl, rfl⟩, ok, by decide⟩
def R_share (g : Nat → Nat) (n : Nat) (kk : Nat) (v : UInt32) (L : List Nat) : Prop :=
  (kk = 0 ∧ v = FP.fdiv (FP.i2f (nI (nS g n))) (FP.i2f (nI (su_sm g n + 1))) ∧ L = su_lst g n)
abbrev XL_share : List (String × Nat) := [("java/lang/IndexOutOfBoundsException", 1)]
theorem T_share (g : Nat → Nat) (n : Nat) (ok : okL (su_lst g n)) : ∃ kk v L, R_share g n kk v L ∧ okL L ∧ kk < 4 := by
  have hn := ok_n ok
  exact ⟨0, _, _, ⟨rfl, rfl, rfl⟩, ok, by decide⟩
def R_meanWays (g : Nat → Nat) (n : Nat) (kk : Nat) (v : UInt64) (L : List Nat) : Prop :=
  (kk = 0 ∧ v = FP.ddiv (FP.i2d (nI (2 ^ n))) (FP.i2d (nI (nS g n))) ∧ L = su_lst g n)
abbrev XL_meanWays : List (String × Nat) := [("java/lang/IndexOutOfBoundsException", 1)]
theorem T_meanWays (g : Nat → Nat) (n : Nat) (ok : okL (su_lst g n)) : ∃ kk v L, R_meanWays g n kk v L ∧ okL L ∧ kk < 4 := by
  have hn := ok_n ok
  exact ⟨0, _, _, ⟨rfl, rfl, rfl⟩, ok, by decide⟩
def R_choice (g : Nat → Nat) (n : Nat) (y : Int32) (z : Int32) (kk : Nat) (v : Int32) (L : List Nat) : Prop :=
  (inI y (nI 0) (nI 300) = false ∧ kk = 2 ∧ L = su_lst g n) ∨
  (∃ u : Nat, y = nI u ∧ u ≤ 300 ∧ z < 0 ∧ kk = 3 ∧ L = su_lst g n) ∨
  (∃ u w : Nat, y = nI u ∧ z = nI w ∧ u ≤ 300 ∧ w < 2 ^ 31 ∧ cW g n u ≤ w ∧ kk = 3 ∧ L = su_lst g n) ∨
  (∃ u w : Nat, y = nI u ∧ z = nI w ∧ u ≤ 300 ∧ w < 2 ^ 31 ∧ w < cW g n u ∧ kk = 0 ∧ v = nI (chR g n u w) ∧ L = su_lst g n)
abbrev XL_choice : List (String × Nat) := [("java/lang/IndexOutOfBoundsException", 1), ("java/lang/IllegalArgumentException", 2), ("java/util/NoSuchElementException", 3)]
theorem T_choice (g : Nat → Nat) (n : Nat) (y : Int32) (z : Int32) (ok : okL (su_lst g n)) : ∃ kk v L, R_choice g n y z kk v L ∧ okL L ∧ kk < 4 := by
  have hn := ok_n ok
  rcases inI_or y 0 300 (by decide) (by decide) with h | ⟨u, rfl, -, hu⟩
  · exact ⟨2, 0, _, Or.inl ⟨h, rfl, rfl⟩, ok, by decide⟩
  · rcases i32_or z with hz | ⟨w, rfl, hw⟩
    · exact ⟨3, 0, _, Or.inr (Or.inl ⟨u, rfl, hu, hz, rfl, rfl⟩), ok, by decide⟩
    · by_cases hc : cW g n u ≤ w
      · exact ⟨3, 0, _, Or.inr (Or.inr (Or.inl ⟨u, w, rfl, rfl, hu, hw, hc, rfl, rfl⟩)), ok, by decide⟩
      · exact ⟨0, _, _, Or.inr (Or.inr (Or.inr ⟨u, w, rfl, rfl, hu, hw, by omega, rfl, rfl, rfl⟩)), ok, by decide⟩
def R_rank (g : Nat → Nat) (n : Nat) (y : Int32) (kk : Nat) (v : Int32) (L : List Nat) : Prop :=
  (inI y (nI 0) (nI (2 ^ n - 1)) = false ∧ kk = 2 ∧ L = su_lst g n) ∨
  (∃ w : Nat, y = nI w ∧ w < 2 ^ n ∧ kk = 0 ∧ v = nI (rkR g (nI w) n (su_sA g n (nI w))) ∧ L = su_lst g n)
abbrev XL_rank : List (String × Nat) := [("java/lang/IndexOutOfBoundsException", 1), ("java/lang/IllegalArgumentException", 2)]
theorem T_rank (g : Nat → Nat) (n : Nat) (y : Int32) (ok : okL (su_lst g n)) : ∃ kk v L, R_rank g n y kk v L ∧ okL L ∧ kk < 4 := by
  have hn := ok_n ok
  rcases ch_or y hn with h | ⟨w, rfl, hw⟩
  · exact ⟨2, 0, _, Or.inl ⟨h, rfl, rfl⟩, ok, by decide⟩
  · exact ⟨0, _, _, Or.inr ⟨w, rfl, hw, rfl, rfl, rfl⟩, ok, by decide⟩
def R_sumOf (g : Nat → Nat) (n : Nat) (y : Int32) (kk : Nat) (v : Int32) (L : List Nat) : Prop :=
  (inI y (nI 0) (nI (2 ^ n - 1)) = false ∧ kk = 2 ∧ L = su_lst g n) ∨
  (∃ w : Nat, y = nI w ∧ w < 2 ^ n ∧ kk = 0 ∧ v = nI (su_sA g n (nI w)) ∧ L = su_lst g n)
abbrev XL_sumOf : List (String × Nat) := [("java/lang/IndexOutOfBoundsException", 1), ("java/lang/IllegalArgumentException", 2)]
theorem T_sumOf (g : Nat → Nat) (n : Nat) (y : Int32) (ok : okL (su_lst g n)) : ∃ kk v L, R_sumOf g n y kk v L ∧ okL L ∧ kk < 4 := by
  have hn := ok_n ok
  rcases ch_or y hn with h | ⟨w, rfl, hw⟩
  · exact ⟨2, 0, _, Or.inl ⟨h, rfl, rfl⟩, ok, by decide⟩
  · exact ⟨0, _, _, Or.inr ⟨w, rfl, hw, rfl, rfl, rfl⟩, ok, by decide⟩
def R_partSums (g : Nat → Nat) (n : Nat) (y : Int32) (kk : Nat) (v : Int32) (L : List Nat) : Prop :=
  (inI y (nI 0) (nI (2 ^ n - 1)) = false ∧ kk = 2 ∧ L = su_lst g n) ∨
  (∃ w : Nat, y = nI w ∧ w < 2 ^ n ∧ kk = 0 ∧ v = nI (su_ct (fun s => decide (0 < cL (su_pk g n (nI w)) s)) 301) ∧ L = su_lst g n)
abbrev XL_partSums : List (String × Nat) := [("java/lang/IndexOutOfBoundsException", 1), ("java/lang/IllegalArgumentException", 2)]
theorem T_partSums (g : Nat → Nat) (n : Nat) (y : Int32) (ok : okL (su_lst g n)) : ∃ kk v L, R_partSums g n y kk v L ∧ okL L ∧ kk < 4 := by
  have hn := ok_n ok
  rcases ch_or y hn with h | ⟨w, rfl, hw⟩
  · exact ⟨2, 0, _, Or.inl ⟨h, rfl, rfl⟩, ok, by decide⟩
  · exact ⟨0, _, _, Or.inr ⟨w, rfl, hw, rfl, rfl, rfl⟩, ok, by decide⟩
def R_isParted (g : Nat → Nat) (n : Nat) (y : Int32) (kk : Nat) (v : Int32) (L : List Nat) : Prop :=
  (inI y (nI 0) (nI (2 ^ n - 1)) = false ∧ kk = 2 ∧ L = su_lst g n) ∨
  (∃ w : Nat, y = nI w ∧ w < 2 ^ n ∧ kk = 0 ∧ v = bI true ∧ L = su_lst g n)
abbrev XL_isParted : List (String × Nat) := [("java/lang/IndexOutOfBoundsException", 1), ("java/lang/IllegalArgumentException", 2)]
theorem T_isParted (g : Nat → Nat) (n : Nat) (y : Int32) (ok : okL (su_lst g n)) : ∃ kk v L, R_isParted g n y kk v L ∧ okL L ∧ kk < 4 := by
  have hn := ok_n ok
  rcases ch_or y hn with h | ⟨w, rfl, hw⟩
  · exact ⟨2, 0, _, Or.inl ⟨h, rfl, rfl⟩, ok, by decide⟩
  · exact ⟨0, _, _, Or.inr ⟨w, rfl, hw, rfl, rfl, rfl⟩, ok, by decide⟩
def R_isAll (g : Nat → Nat) (n : Nat) (y : Int32) (kk : Nat) (v : Int32) (L : List Nat) : Prop :=
  (inI y (nI 0) (nI (2 ^ n - 1)) = false ∧ kk = 2 ∧ L = su_lst g n) ∨
  (∃ w : Nat, y = nI w ∧ w < 2 ^ n ∧ 8 < su_pc w 20 ∧ kk = 3 ∧ L = su_lst g n) ∨
  (∃ w : Nat, y = nI w ∧ w < 2 ^ n ∧ su_pc w 20 ≤ 8 ∧ kk = 0 ∧ v = bI true ∧ L = su_lst g n)
abbrev XL_isAll : List (String × Nat) := [("java/lang/IndexOutOfBoundsException", 1), ("java/lang/IllegalArgumentException", 2), ("java/lang/IllegalStateException", 3)]
theorem T_isAll (g : Nat → Nat) (n : Nat) (y : Int32) (ok : okL (su_lst g n)) : ∃ kk v L, R_isAll g n y kk v L ∧ okL L ∧ kk < 4 := by
  have hn := ok_n ok
  rcases ch_or y hn with h | ⟨w, rfl, hw⟩
  · exact ⟨2, 0, _, Or.inl ⟨h, rfl, rfl⟩, ok, by decide⟩
  · by_cases hp : su_pc w 20 ≤ 8
    · exact ⟨0, _, _, Or.inr (Or.inr ⟨w, rfl, hw, hp, rfl, rfl, rfl⟩), ok, by decide⟩
    · exact ⟨3, 0, _, Or.inr (Or.inl ⟨w, rfl, hw, by omega, rfl, rfl⟩), ok, by decide⟩
def R_isLeft (g : Nat → Nat) (n : Nat) (y : Int32) (kk : Nat) (v : Int32) (L : List Nat) : Prop :=
  (hp y n = false ∧ kk = 1 ∧ L = su_lst g n) ∨
  (∃ q : Nat, y = nI q ∧ q < n ∧ kk = 0 ∧ v = bI true ∧ L = su_lst g n)
abbrev XL_isLeft : List (String × Nat) := [("java/lang/IndexOutOfBoundsException", 1)]
theorem T_isLeft (g : Nat → Nat) (n : Nat) (y : Int32) (ok : okL (su_lst g n)) : ∃ kk v L, R_isLeft g n y kk v L ∧ okL L ∧ kk < 4 := by
  have hn := ok_n ok
  rcases hp_or y hn with h | ⟨q, rfl, hq⟩
  · exact ⟨1, 0, _, Or.inl ⟨h, rfl, rfl⟩, ok, by decide⟩
  · exact ⟨0, _, _, Or.inr ⟨q, rfl, hq, rfl, rfl, rfl⟩, ok, by decide⟩
def R_isOftenAlike (g : Nat → Nat) (n : Nat) (kk : Nat) (v : Int32) (L : List Nat) : Prop :=
  (kk = 0 ∧ v = bI true ∧ L = su_lst g n)
abbrev XL_isOftenAlike : List (String × Nat) := [("java/lang/IndexOutOfBoundsException", 1)]
theorem T_isOftenAlike (g : Nat → Nat) (n : Nat) (ok : okL (su_lst g n)) : ∃ kk v L, R_isOftenAlike g n kk v L ∧ okL L ∧ kk < 4 := by
  have hn := ok_n ok
  exact ⟨0, _, _, ⟨rfl, rfl, rfl⟩, ok, by decide⟩
/-! of two hoards -/
def R_compare (g : Nat → Nat) (n : Nat) (gb : Nat → Nat) (nb : Nat) (x : Int32) (y : Int32) (z : Int32) (kk : Nat) (v : Int32) (L0 L1 : List Nat) : Prop :=
  (x ≠ 0 ∧ x ≠ nI 1 ∧ inI x (nI 0) (nI 1) = false ∧ kk = 1 ∧ L0 = su_lst g n ∧ L1 = su_lst gb nb) ∨
  (x = nI 0 ∧ y ≠ 0 ∧ y ≠ nI 1 ∧ inI y (nI 0) (nI 1) = false ∧ kk = 1 ∧ L0 = su_lst g n ∧ L1 = su_lst gb nb) ∨
  (x = nI 0 ∧ y = nI 0 ∧ z ≠ nI 38 ∧ z ≠ nI 124 ∧ z ≠ nI 94 ∧ z ≠ nI 45 ∧ kk = 2 ∧ L0 = su_lst g n ∧ L1 = su_lst gb nb) ∨
  (x = nI 0 ∧ y = nI 0 ∧ z = nI 38 ∧ kk = 0 ∧ v = nI (su_ct (cmF 0 (mkD g n) (mkD g n)) 301) ∧ L0 = su_lst g n ∧ L1 = su_lst gb nb) ∨
  (x = nI 0 ∧ y = nI 0 ∧ z = nI 124 ∧ kk = 0 ∧ v = nI (su_ct (cmF 1 (mkD g n) (mkD g n)) 301) ∧ L0 = su_lst g n ∧ L1 = su_lst gb nb) ∨
  (x = nI 0 ∧ y = nI 0 ∧ z = nI 94 ∧ kk = 0 ∧ v = nI (su_ct (cmF 2 (mkD g n) (mkD g n)) 301) ∧ L0 = su_lst g n ∧ L1 = su_lst gb nb) ∨
  (x = nI 0 ∧ y = nI 0 ∧ z = nI 45 ∧ kk = 0 ∧ v = nI (su_ct (cmF 3 (mkD g n) (mkD g n)) 301) ∧ L0 = su_lst g n ∧ L1 = su_lst gb nb) ∨
  (x = nI 0 ∧ y = nI 1 ∧ z ≠ nI 38 ∧ z ≠ nI 124 ∧ z ≠ nI 94 ∧ z ≠ nI 45 ∧ kk = 2 ∧ L0 = su_lst g n ∧ L1 = su_lst gb nb) ∨
  (x = nI 0 ∧ y = nI 1 ∧ z = nI 38 ∧ kk = 0 ∧ v = nI (su_ct (cmF 0 (mkD g n) (mkD gb nb)) 301) ∧ L0 = su_lst g n ∧ L1 = su_lst gb nb) ∨
  (x = nI 0 ∧ y = nI 1 ∧ z = nI 124 ∧ kk = 0 ∧ v = nI (su_ct (cmF 1 (mkD g n) (mkD gb nb)) 301) ∧ L0 = su_lst g n ∧ L1 = su_lst gb nb) ∨
  (x = nI 0 ∧ y = nI 1 ∧ z = nI 94 ∧ kk = 0 ∧ v = nI (su_ct (cmF 2 (mkD g n) (mkD gb nb)) 301) ∧ L0 = su_lst g n ∧ L1 = su_lst gb nb) ∨
  (x = nI 0 ∧ y = nI 1 ∧ z = nI 45 ∧ kk = 0 ∧ v = nI (su_ct (cmF 3 (mkD g n) (mkD gb nb)) 301) ∧ L0 = su_lst g n ∧ L1 = su_lst gb nb) ∨
  (x = nI 1 ∧ y ≠ 0 ∧ y ≠ nI 1 ∧ inI y (nI 0) (nI 1) = false ∧ kk = 1 ∧ L0 = su_lst g n ∧ L1 = su_lst gb nb) ∨
  (x = nI 1 ∧ y = nI 0 ∧ z ≠ nI 38 ∧ z ≠ nI 124 ∧ z ≠ nI 94 ∧ z ≠ nI 45 ∧ kk = 2 ∧ L0 = su_lst g n ∧ L1 = su_lst gb nb) ∨
  (x = nI 1 ∧ y = nI 0 ∧ z = nI 38 ∧ kk = 0 ∧ v = nI (su_ct (cmF 0 (mkD gb nb) (mkD g n)) 301) ∧ L0 = su_lst g n ∧ L1 = su_lst gb nb) ∨
  (x = nI 1 ∧ y = nI 0 ∧ z = nI 124 ∧ kk = 0 ∧ v = nI (su_ct (cmF 1 (mkD gb nb) (mkD g n)) 301) ∧ L0 = su_lst g n ∧ L1 = su_lst gb nb) ∨
  (x = nI 1 ∧ y = nI 0 ∧ z = nI 94 ∧ kk = 0 ∧ v = nI (su_ct (cmF 2 (mkD gb nb) (mkD g n)) 301) ∧ L0 = su_lst g n ∧ L1 = su_lst gb nb) ∨
  (x = nI 1 ∧ y = nI 0 ∧ z = nI 45 ∧ kk = 0 ∧ v = nI (su_ct (cmF 3 (mkD gb nb) (mkD g n)) 301) ∧ L0 = su_lst g n ∧ L1 = su_lst gb nb) ∨
  (x = nI 1 ∧ y = nI 1 ∧ z ≠ nI 38 ∧ z ≠ nI 124 ∧ z ≠ nI 94 ∧ z ≠ nI 45 ∧ kk = 2 ∧ L0 = su_lst g n ∧ L1 = su_lst gb nb) ∨
  (x = nI 1 ∧ y = nI 1 ∧ z = nI 38 ∧ kk = 0 ∧ v = nI (su_ct (cmF 0 (mkD gb nb) (mkD gb nb)) 301) ∧ L0 = su_lst g n ∧ L1 = su_lst gb nb) ∨
  (x = nI 1 ∧ y = nI 1 ∧ z = nI 124 ∧ kk = 0 ∧ v = nI (su_ct (cmF 1 (mkD gb nb) (mkD gb nb)) 301) ∧ L0 = su_lst g n ∧ L1 = su_lst gb nb) ∨
  (x = nI 1 ∧ y = nI 1 ∧ z = nI 94 ∧ kk = 0 ∧ v = nI (su_ct (cmF 2 (mkD gb nb) (mkD gb nb)) 301) ∧ L0 = su_lst g n ∧ L1 = su_lst gb nb) ∨
  (x = nI 1 ∧ y = nI 1 ∧ z = nI 45 ∧ kk = 0 ∧ v = nI (su_ct (cmF 3 (mkD gb nb) (mkD gb nb)) 301) ∧ L0 = su_lst g n ∧ L1 = su_lst gb nb)
abbrev XL_compare : List (String × Nat) := [("java/lang/IndexOutOfBoundsException", 1), ("java/lang/IllegalArgumentException", 2)]
theorem T_compare (g : Nat → Nat) (n : Nat) (gb : Nat → Nat) (nb : Nat) (x : Int32) (y : Int32) (z : Int32) (h0 : okL (su_lst g n)) (h1 : okL (su_lst gb nb)) : ∃ kk v L0 L1, R_compare g n gb nb x y z kk v L0 L1 ∧ okL L0 ∧ okL L1 ∧ kk < 4 := by
  rcases ho_or x with rfl | rfl | ⟨q1, q2, q3⟩
  · rcases ho_or y with rfl | rfl | ⟨q1, q2, q3⟩
    · by_cases c0 : z = nI 38
      · subst c0; exact ⟨0, _, _, _, Or.inr (Or.inr (Or.inr (Or.inl ⟨rfl, rfl, rfl, rfl, rfl, rfl, rfl⟩))), h0, h1, by decide⟩
      · by_cases c1 : z = nI 124
        · subst c1; exact ⟨0, _, _, _, Or.inr (Or.inr (Or.inr (Or.inr (Or.inl ⟨rfl, rfl, rfl, rfl, rfl, rfl, rfl⟩)))), h0, h1, by decide⟩
        · by_cases c2 : z = nI 94
          · subst c2; exact ⟨0, _, _, _, Or.inr (Or.inr (Or.inr (Or.inr (Or.inr (Or.inl ⟨rfl, rfl, rfl, rfl, rfl, rfl, rfl⟩))))), h0, h1, by decide⟩
          · by_cases c3 : z = nI 45
            · subst c3; exact ⟨0, _, _, _, Or.inr (Or.inr (Or.inr (Or.inr (Or.inr (Or.inr (Or.inl ⟨rfl, rfl, rfl, rfl, rfl, rfl, rfl⟩)))))), h0, h1, by decide⟩
            · exact ⟨2, 0, _, _, Or.inr (Or.inr (Or.inl ⟨rfl, rfl, c0, c1, c2, c3, rfl, rfl, rfl⟩)), h0, h1, by decide⟩
    · by_cases c0 : z = nI 38
      · subst c0; exact ⟨0, _, _, _, Or.inr (Or.inr (Or.inr (Or.inr (Or.inr (Or.inr (Or.inr (Or.inr (Or.inl ⟨rfl, rfl, rfl, rfl, rfl, rfl, rfl⟩)))))))), h0, h1, by decide⟩
      · by_cases c1 : z = nI 124
        · subst c1; exact ⟨0, _, _, _, Or.inr (Or.inr (Or.inr (Or.inr (Or.inr (Or.inr (Or.inr (Or.inr (Or.inr (Or.inl ⟨rfl, rfl, rfl, rfl, rfl, rfl, rfl⟩))))))))), h0, h1, by decide⟩
        · by_cases c2 : z = nI 94
          · subst c2; exact ⟨0, _, _, _, Or.inr (Or.inr (Or.inr (Or.inr (Or.inr (Or.inr (Or.inr (Or.inr (Or.inr (Or.inr (Or.inl ⟨rfl, rfl, rfl, rfl, rfl, rfl, rfl⟩)))))))))), h0, h1, by decide⟩
          · by_cases c3 : z = nI 45
            · subst c3; exact ⟨0, _, _, _, Or.inr (Or.inr (Or.inr (Or.inr (Or.inr (Or.inr (Or.inr (Or.inr (Or.inr (Or.inr (Or.inr (Or.inl ⟨rfl, rfl, rfl, rfl, rfl, rfl, rfl⟩))))))))))), h0, h1, by decide⟩
            · exact ⟨2, 0, _, _, Or.inr (Or.inr (Or.inr (Or.inr (Or.inr (Or.inr (Or.inr (Or.inl ⟨rfl, rfl, c0, c1, c2, c3, rfl, rfl, rfl⟩))))))), h0, h1, by decide⟩
    · exact ⟨1, 0, _, _, Or.inr (Or.inl ⟨rfl, q1, q2, q3, rfl, rfl, rfl⟩), h0, h1, by decide⟩
  · rcases ho_or y with rfl | rfl | ⟨q1, q2, q3⟩
    · by_cases c0 : z = nI 38
      · subst c0; exact ⟨0, _, _, _, Or.inr (Or.inr (Or.inr (Or.inr (Or.inr (Or.inr (Or.inr (Or.inr (Or.inr (Or.inr (Or.inr (Or.inr (Or.inr (Or.inr (Or.inl ⟨rfl, rfl, rfl, rfl, rfl, rfl, rfl⟩)))))))))))))), h0, h1, by decide⟩
      · by_cases c1 : z = nI 124
        · subst c1; exact ⟨0, _, _, _, Or.inr (Or.inr (Or.inr (Or.inr (Or.inr (Or.inr (Or.inr (Or.inr (Or.inr (Or.inr (Or.inr (Or.inr (Or.inr (Or.inr (Or.inr (Or.inl ⟨rfl, rfl, rfl, rfl, rfl, rfl, rfl⟩))))))))))))))), h0, h1, by decide⟩
        · by_cases c2 : z = nI 94
          · subst c2; exact ⟨0, _, _, _, Or.inr (Or.inr (Or.inr (Or.inr (Or.inr (Or.inr (Or.inr (Or.inr (Or.inr (Or.inr (Or.inr (Or.inr (Or.inr (Or.inr (Or.inr (Or.inr (Or.inl ⟨rfl, rfl, rfl, rfl, rfl, rfl, rfl⟩)))))))))))))))), h0, h1, by decide⟩
          · by_cases c3 : z = nI 45
            · subst c3; exact ⟨0, _, _, _, Or.inr (Or.inr (Or.inr (Or.inr (Or.inr (Or.inr (Or.inr (Or.inr (Or.inr (Or.inr (Or.inr (Or.inr (Or.inr (Or.inr (Or.inr (Or.inr (Or.inr (Or.inl ⟨rfl, rfl, rfl, rfl, rfl, rfl, rfl⟩))))))))))))))))), h0, h1, by decide⟩
            · exact ⟨2, 0, _, _, Or.inr (Or.inr (Or.inr (Or.inr (Or.inr (Or.inr (Or.inr (Or.inr (Or.inr (Or.inr (Or.inr (Or.inr (Or.inr (Or.inl ⟨rfl, rfl, c0, c1, c2, c3, rfl, rfl, rfl⟩))))))))))))), h0, h1, by decide⟩
    · by_cases c0 : z = nI 38
      · subst c0; exact ⟨0, _, _, _, Or.inr (Or.inr (Or.inr (Or.inr (Or.inr (Or.inr (Or.inr (Or.inr (Or.inr (Or.inr (Or.inr (Or.inr (Or.inr (Or.inr (Or.inr (Or.inr (Or.inr (Or.inr (Or.inr (Or.inl ⟨rfl, rfl, rfl, rfl, rfl, rfl, rfl⟩))))))))))))))))))), h0, h1, by decide⟩
      · by_cases c1 : z = nI 124
        · subst c1; exact ⟨0, _, _, _, Or.inr (Or.inr (Or.inr (Or.inr (Or.inr (Or.inr (Or.inr (Or.inr (Or.inr (Or.inr (Or.inr (Or.inr (Or.inr (Or.inr (Or.inr (Or.inr (Or.inr (Or.inr (Or.inr (Or.inr (Or.inl ⟨rfl, rfl, rfl, rfl, rfl, rfl, rfl⟩)))))))))))))))))))), h0, h1, by decide⟩
        · by_cases c2 : z = nI 94
          · subst c2; exact ⟨0, _, _, _, Or.inr (Or.inr (Or.inr (Or.inr (Or.inr (Or.inr (Or.inr (Or.inr (Or.inr (Or.inr (Or.inr (Or.inr (Or.inr (Or.inr (Or.inr (Or.inr (Or.inr (Or.inr (Or.inr (Or.inr (Or.inr (Or.inl ⟨rfl, rfl, rfl, rfl, rfl, rfl, rfl⟩))))))))))))))))))))), h0, h1, by decide⟩
          · by_cases c3 : z = nI 45
            · subst c3; exact ⟨0, _, _, _, Or.inr (Or.inr (Or.inr (Or.inr (Or.inr (Or.inr (Or.inr (Or.inr (Or.inr (Or.inr (Or.inr (Or.inr (Or.inr (Or.inr (Or.inr (Or.inr (Or.inr (Or.inr (Or.inr (Or.inr (Or.inr (Or.inr (⟨rfl, rfl, rfl, rfl, rfl, rfl, rfl⟩)))))))))))))))))))))), h0, h1, by decide⟩
            · exact ⟨2, 0, _, _, Or.inr (Or.inr (Or.inr (Or.inr (Or.inr (Or.inr (Or.inr (Or.inr (Or.inr (Or.inr (Or.inr (Or.inr (Or.inr (Or.inr (Or.inr (Or.inr (Or.inr (Or.inr (Or.inl ⟨rfl, rfl, c0, c1, c2, c3, rfl, rfl, rfl⟩)))))))))))))))))), h0, h1, by decide⟩
    · exact ⟨1, 0, _, _, Or.inr (Or.inr (Or.inr (Or.inr (Or.inr (Or.inr (Or.inr (Or.inr (Or.inr (Or.inr (Or.inr (Or.inr (Or.inl ⟨rfl, q1, q2, q3, rfl, rfl, rfl⟩)))))))))))), h0, h1, by decide⟩
  · exact ⟨1, 0, _, _, Or.inl ⟨q1, q2, q3, rfl, rfl, rfl⟩, h0, h1, by decide⟩
def R_isLike (g : Nat → Nat) (n : Nat) (gb : Nat → Nat) (nb : Nat) (x : Int32) (y : Int32) (kk : Nat) (v : Int32) (L0 L1 : List Nat) : Prop :=
  (x ≠ 0 ∧ x ≠ nI 1 ∧ inI x (nI 0) (nI 1) = false ∧ kk = 1 ∧ L0 = su_lst g n ∧ L1 = su_lst gb nb) ∨
  (x = nI 0 ∧ y ≠ 0 ∧ y ≠ nI 1 ∧ inI y (nI 0) (nI 1) = false ∧ kk = 1 ∧ L0 = su_lst g n ∧ L1 = su_lst gb nb) ∨
  (x = nI 0 ∧ y = nI 0 ∧ kk = 0 ∧ v = bI (decide (shV g n = shV g n)) ∧ L0 = su_lst g n ∧ L1 = su_lst gb nb) ∨
  (x = nI 0 ∧ y = nI 1 ∧ kk = 0 ∧ v = bI (decide (shV g n = shV gb nb)) ∧ L0 = su_lst g n ∧ L1 = su_lst gb nb) ∨
  (x = nI 1 ∧ y ≠ 0 ∧ y ≠ nI 1 ∧ inI y (nI 0) (nI 1) = false ∧ kk = 1 ∧ L0 = su_lst g n ∧ L1 = su_lst gb nb) ∨
  (x = nI 1 ∧ y = nI 0 ∧ kk = 0 ∧ v = bI (decide (shV gb nb = shV g n)) ∧ L0 = su_lst g n ∧ L1 = su_lst gb nb) ∨
  (x = nI 1 ∧ y = nI 1 ∧ kk = 0 ∧ v = bI (decide (shV gb nb = shV gb nb)) ∧ L0 = su_lst g n ∧ L1 = su_lst gb nb)
abbrev XL_isLike : List (String × Nat) := [("java/lang/IndexOutOfBoundsException", 1)]
theorem T_isLike (g : Nat → Nat) (n : Nat) (gb : Nat → Nat) (nb : Nat) (x : Int32) (y : Int32) (h0 : okL (su_lst g n)) (h1 : okL (su_lst gb nb)) : ∃ kk v L0 L1, R_isLike g n gb nb x y kk v L0 L1 ∧ okL L0 ∧ okL L1 ∧ kk < 4 := by
  rcases ho_or x with rfl | rfl | ⟨q1, q2, q3⟩
  · rcases ho_or y with rfl | rfl | ⟨q1, q2, q3⟩
    · exact ⟨0, _, _, _, Or.inr (Or.inr (Or.inl ⟨rfl, rfl, rfl, rfl, rfl, rfl⟩)), h0, h1, by decide⟩
    · exact ⟨0, _, _, _, Or.inr (Or.inr (Or.inr (Or.inl ⟨rfl, rfl, rfl, rfl, rfl, rfl⟩))), h0, h1, by decide⟩
    · exact ⟨1, 0, _, _, Or.inr (Or.inl ⟨rfl, q1, q2, q3, rfl, rfl, rfl⟩), h0, h1, by decide⟩
  · rcases ho_or y with rfl | rfl | ⟨q1, q2, q3⟩
    · exact ⟨0, _, _, _, Or.inr (Or.inr (Or.inr (Or.inr (Or.inr (Or.inl ⟨rfl, rfl, rfl, rfl, rfl, rfl⟩))))), h0, h1, by decide⟩
    · exact ⟨0, _, _, _, Or.inr (Or.inr (Or.inr (Or.inr (Or.inr (Or.inr (⟨rfl, rfl, rfl, rfl, rfl, rfl⟩)))))), h0, h1, by decide⟩
    · exact ⟨1, 0, _, _, Or.inr (Or.inr (Or.inr (Or.inr (Or.inl ⟨rfl, q1, q2, q3, rfl, rfl, rfl⟩)))), h0, h1, by decide⟩
  · exact ⟨1, 0, _, _, Or.inl ⟨q1, q2, q3, rfl, rfl, rfl⟩, h0, h1, by decide⟩
def R_together (g : Nat → Nat) (n : Nat) (gb : Nat → Nat) (nb : Nat) (x : Int32) (y : Int32) (z : Int32) (kk : Nat) (v : Int32) (L0 L1 : List Nat) : Prop :=
  (x ≠ 0 ∧ x ≠ nI 1 ∧ inI x (nI 0) (nI 1) = false ∧ kk = 1 ∧ L0 = su_lst g n ∧ L1 = su_lst gb nb) ∨
  (x = nI 0 ∧ y ≠ 0 ∧ y ≠ nI 1 ∧ inI y (nI 0) (nI 1) = false ∧ kk = 1 ∧ L0 = su_lst g n ∧ L1 = su_lst gb nb) ∨
  (x = nI 0 ∧ y = nI 0 ∧ inI z (nI 0) (nI 300) = false ∧ kk = 2 ∧ L0 = su_lst g n ∧ L1 = su_lst gb nb) ∨
  (∃ u : Nat, x = nI 0 ∧ y = nI 0 ∧ z = nI u ∧ u ≤ 300 ∧ kk = 0 ∧ v = nI (su_ct (tgV g g n n u) 301) ∧ L0 = su_lst g n ∧ L1 = su_lst gb nb) ∨
  (x = nI 0 ∧ y = nI 1 ∧ inI z (nI 0) (nI 300) = false ∧ kk = 2 ∧ L0 = su_lst g n ∧ L1 = su_lst gb nb) ∨
  (∃ u : Nat, x = nI 0 ∧ y = nI 1 ∧ z = nI u ∧ u ≤ 300 ∧ kk = 0 ∧ v = nI (su_ct (tgV g gb n nb u) 301) ∧ L0 = su_lst g n ∧ L1 = su_lst gb nb) ∨
  (x = nI 1 ∧ y ≠ 0 ∧ y ≠ nI 1 ∧ inI y (nI 0) (nI 1) = false ∧ kk = 1 ∧ L0 = su_lst g n ∧ L1 = su_lst gb nb) ∨
  (x = nI 1 ∧ y = nI 0 ∧ inI z (nI 0) (nI 300) = false ∧ kk = 2 ∧ L0 = su_lst g n ∧ L1 = su_lst gb nb) ∨
  (∃ u : Nat, x = nI 1 ∧ y = nI 0 ∧ z = nI u ∧ u ≤ 300 ∧ kk = 0 ∧ v = nI (su_ct (tgV gb g nb n u) 301) ∧ L0 = su_lst g n ∧ L1 = su_lst gb nb) ∨
  (x = nI 1 ∧ y = nI 1 ∧ inI z (nI 0) (nI 300) = false ∧ kk = 2 ∧ L0 = su_lst g n ∧ L1 = su_lst gb nb) ∨
  (∃ u : Nat, x = nI 1 ∧ y = nI 1 ∧ z = nI u ∧ u ≤ 300 ∧ kk = 0 ∧ v = nI (su_ct (tgV gb gb nb nb u) 301) ∧ L0 = su_lst g n ∧ L1 = su_lst gb nb)
abbrev XL_together : List (String × Nat) := [("java/lang/IndexOutOfBoundsException", 1), ("java/lang/IllegalArgumentException", 2)]
theorem T_together (g : Nat → Nat) (n : Nat) (gb : Nat → Nat) (nb : Nat) (x : Int32) (y : Int32) (z : Int32) (h0 : okL (su_lst g n)) (h1 : okL (su_lst gb nb)) : ∃ kk v L0 L1, R_together g n gb nb x y z kk v L0 L1 ∧ okL L0 ∧ okL L1 ∧ kk < 4 := by
  rcases ho_or x with rfl | rfl | ⟨q1, q2, q3⟩
  · rcases ho_or y with rfl | rfl | ⟨q1, q2, q3⟩
    · rcases inI_or z 0 300 (by decide) (by decide) with h | ⟨u, rfl, -, hu⟩
      · exact ⟨2, 0, _, _, Or.inr (Or.inr (Or.inl ⟨rfl, rfl, h, rfl, rfl, rfl⟩)), h0, h1, by decide⟩
      · exact ⟨0, _, _, _, Or.inr (Or.inr (Or.inr (Or.inl ⟨u, rfl, rfl, rfl, hu, rfl, rfl, rfl, rfl⟩))), h0, h1, by decide⟩
    · rcases inI_or z 0 300 (by decide) (by decide) with h | ⟨u, rfl, -, hu⟩
      · exact ⟨2, 0, _, _, Or.inr (Or.inr (Or.inr (Or.inr (Or.inl ⟨rfl, rfl, h, rfl, rfl, rfl⟩)))), h0, h1, by decide⟩
      · exact ⟨0, _, _, _, Or.inr (Or.inr (Or.inr (Or.inr (Or.inr (Or.inl ⟨u, rfl, rfl, rfl, hu, rfl, rfl, rfl, rfl⟩))))), h0, h1, by decide⟩
    · exact ⟨1, 0, _, _, Or.inr (Or.inl ⟨rfl, q1, q2, q3, rfl, rfl, rfl⟩), h0, h1, by decide⟩
  · rcases ho_or y with rfl | rfl | ⟨q1, q2, q3⟩
    · rcases inI_or z 0 300 (by decide) (by decide) with h | ⟨u, rfl, -, hu⟩
      · exact ⟨2, 0, _, _, Or.inr (Or.inr (Or.inr (Or.inr (Or.inr (Or.inr (Or.inr (Or.inl ⟨rfl, rfl, h, rfl, rfl, rfl⟩))))))), h0, h1, by decide⟩
      · exact ⟨0, _, _, _, Or.inr (Or.inr (Or.inr (Or.inr (Or.inr (Or.inr (Or.inr (Or.inr (Or.inl ⟨u, rfl, rfl, rfl, hu, rfl, rfl, rfl, rfl⟩)))))))), h0, h1, by decide⟩
    · rcases inI_or z 0 300 (by decide) (by decide) with h | ⟨u, rfl, -, hu⟩
      · exact ⟨2, 0, _, _, Or.inr (Or.inr (Or.inr (Or.inr (Or.inr (Or.inr (Or.inr (Or.inr (Or.inr (Or.inl ⟨rfl, rfl, h, rfl, rfl, rfl⟩))))))))), h0, h1, by decide⟩
      · exact ⟨0, _, _, _, Or.inr (Or.inr (Or.inr (Or.inr (Or.inr (Or.inr (Or.inr (Or.inr (Or.inr (Or.inr (⟨u, rfl, rfl, rfl, hu, rfl, rfl, rfl, rfl⟩)))))))))), h0, h1, by decide⟩
    · exact ⟨1, 0, _, _, Or.inr (Or.inr (Or.inr (Or.inr (Or.inr (Or.inr (Or.inl ⟨rfl, q1, q2, q3, rfl, rfl, rfl⟩)))))), h0, h1, by decide⟩
  · exact ⟨1, 0, _, _, Or.inl ⟨q1, q2, q3, rfl, rfl, rfl⟩, h0, h1, by decide⟩
def R_join (g : Nat → Nat) (n : Nat) (gb : Nat → Nat) (nb : Nat) (x : Int32) (y : Int32) (z : Int32) (kk : Nat) (v : Int32) (L0 L1 : List Nat) : Prop :=
  (x ≠ 0 ∧ x ≠ nI 1 ∧ inI x (nI 0) (nI 1) = false ∧ kk = 1 ∧ L0 = su_lst g n ∧ L1 = su_lst gb nb) ∨
  (x = nI 0 ∧ y ≠ 0 ∧ y ≠ nI 1 ∧ inI y (nI 0) (nI 1) = false ∧ kk = 1 ∧ L0 = su_lst g n ∧ L1 = su_lst gb nb) ∨
  (x = nI 0 ∧ y = nI 0 ∧ z ≠ 0 ∧ z ≠ nI 1 ∧ inI z (nI 0) (nI 1) = false ∧ kk = 1 ∧ L0 = su_lst g n ∧ L1 = su_lst gb nb) ∨
  (x = nI 0 ∧ y = nI 0 ∧ z = nI 0 ∧ (20 < n + n ∨ 300 < su_sm g n + su_sm g n) ∧ kk = 2 ∧ L0 = su_lst g n ∧ L1 = su_lst gb nb) ∨
  (x = nI 0 ∧ y = nI 0 ∧ z = nI 0 ∧ n + n ≤ 20 ∧ su_sm g n + su_sm g n ≤ 300 ∧ kk = 0 ∧ v = nI (su_ct (fun s => decide (0 < cL (su_lst g n ++ su_lst g n) s)) 301) ∧ L0 = su_lst g n ++ su_lst g n ∧ L1 = su_lst gb nb) ∨
  (x = nI 0 ∧ y = nI 0 ∧ z = nI 1 ∧ (20 < n + n ∨ 300 < su_sm g n + su_sm g n) ∧ kk = 2 ∧ L0 = su_lst g n ∧ L1 = su_lst gb nb) ∨
  (x = nI 0 ∧ y = nI 0 ∧ z = nI 1 ∧ n + n ≤ 20 ∧ su_sm g n + su_sm g n ≤ 300 ∧ kk = 0 ∧ v = nI (su_ct (fun s => decide (0 < cL (su_lst g n ++ su_lst g n) s)) 301) ∧ L0 = su_lst g n ∧ L1 = su_lst g n ++ su_lst g n) ∨
  (x = nI 0 ∧ y = nI 1 ∧ z ≠ 0 ∧ z ≠ nI 1 ∧ inI z (nI 0) (nI 1) = false ∧ kk = 1 ∧ L0 = su_lst g n ∧ L1 = su_lst gb nb) ∨
  (x = nI 0 ∧ y = nI 1 ∧ z = nI 0 ∧ (20 < n + nb ∨ 300 < su_sm g n + su_sm gb nb) ∧ kk = 2 ∧ L0 = su_lst g n ∧ L1 = su_lst gb nb) ∨
  (x = nI 0 ∧ y = nI 1 ∧ z = nI 0 ∧ n + nb ≤ 20 ∧ su_sm g n + su_sm gb nb ≤ 300 ∧ kk = 0 ∧ v = nI (su_ct (fun s => decide (0 < cL (su_lst g n ++ su_lst gb nb) s)) 301) ∧ L0 = su_lst g n ++ su_lst gb nb ∧ L1 = su_lst gb nb) ∨
  (x = nI 0 ∧ y = nI 1 ∧ z = nI 1 ∧ (20 < n + nb ∨ 300 < su_sm g n + su_sm gb nb) ∧ kk = 2 ∧ L0 = su_lst g n ∧ L1 = su_lst gb nb) ∨
  (x = nI 0 ∧ y = nI 1 ∧ z = nI 1 ∧ n + nb ≤ 20 ∧ su_sm g n + su_sm gb nb ≤ 300 ∧ kk = 0 ∧ v = nI (su_ct (fun s => decide (0 < cL (su_lst g n ++ su_lst gb nb) s)) 301) ∧ L0 = su_lst g n ∧ L1 = su_lst g n ++ su_lst gb nb) ∨
  (x = nI 1 ∧ y ≠ 0 ∧ y ≠ nI 1 ∧ inI y (nI 0) (nI 1) = false ∧ kk = 1 ∧ L0 = su_lst g n ∧ L1 = su_lst gb nb) ∨
  (x = nI 1 ∧ y = nI 0 ∧ z ≠ 0 ∧ z ≠ nI 1 ∧ inI z (nI 0) (nI 1) = false ∧ kk = 1 ∧ L0 = su_lst g n ∧ L1 = su_lst gb nb) ∨
  (x = nI 1 ∧ y = nI 0 ∧ z = nI 0 ∧ (20 < nb + n ∨ 300 < su_sm gb nb + su_sm g n) ∧ kk = 2 ∧ L0 = su_lst g n ∧ L1 = su_lst gb nb) ∨
  (x = nI 1 ∧ y = nI 0 ∧ z = nI 0 ∧ nb + n ≤ 20 ∧ su_sm gb nb + su_sm g n ≤ 300 ∧ kk = 0 ∧ v = nI (su_ct (fun s => decide (0 < cL (su_lst gb nb ++ su_lst g n) s)) 301) ∧ L0 = su_lst gb nb ++ su_lst g n ∧ L1 = su_lst gb nb) ∨
  (x = nI 1 ∧ y = nI 0 ∧ z = nI 1 ∧ (20 < nb + n ∨ 300 < su_sm gb nb + su_sm g n) ∧ kk = 2 ∧ L0 = su_lst g n ∧ L1 = su_lst gb nb) ∨
  (x = nI 1 ∧ y = nI 0 ∧ z = nI 1 ∧ nb + n ≤ 20 ∧ su_sm gb nb + su_sm g n ≤ 300 ∧ kk = 0 ∧ v = nI (su_ct (fun s => decide (0 < cL (su_lst gb nb ++ su_lst g n) s)) 301) ∧ L0 = su_lst g n ∧ L1 = su_lst gb nb ++ su_lst g n) ∨
  (x = nI 1 ∧ y = nI 1 ∧ z ≠ 0 ∧ z ≠ nI 1 ∧ inI z (nI 0) (nI 1) = false ∧ kk = 1 ∧ L0 = su_lst g n ∧ L1 = su_lst gb nb) ∨
  (x = nI 1 ∧ y = nI 1 ∧ z = nI 0 ∧ (20 < nb + nb ∨ 300 < su_sm gb nb + su_sm gb nb) ∧ kk = 2 ∧ L0 = su_lst g n ∧ L1 = su_lst gb nb) ∨
  (x = nI 1 ∧ y = nI 1 ∧ z = nI 0 ∧ nb + nb ≤ 20 ∧ su_sm gb nb + su_sm gb nb ≤ 300 ∧ kk = 0 ∧ v = nI (su_ct (fun s => decide (0 < cL (su_lst gb nb ++ su_lst gb nb) s)) 301) ∧ L0 = su_lst gb nb ++ su_lst gb nb ∧ L1 = su_lst gb nb) ∨
  (x = nI 1 ∧ y = nI 1 ∧ z = nI 1 ∧ (20 < nb + nb ∨ 300 < su_sm gb nb + su_sm gb nb) ∧ kk = 2 ∧ L0 = su_lst g n ∧ L1 = su_lst gb nb) ∨
  (x = nI 1 ∧ y = nI 1 ∧ z = nI 1 ∧ nb + nb ≤ 20 ∧ su_sm gb nb + su_sm gb nb ≤ 300 ∧ kk = 0 ∧ v = nI (su_ct (fun s => decide (0 < cL (su_lst gb nb ++ su_lst gb nb) s)) 301) ∧ L0 = su_lst g n ∧ L1 = su_lst gb nb ++ su_lst gb nb)
abbrev XL_join : List (String × Nat) := [("java/lang/IndexOutOfBoundsException", 1), ("java/lang/IllegalStateException", 2)]
theorem T_join (g : Nat → Nat) (n : Nat) (gb : Nat → Nat) (nb : Nat) (x : Int32) (y : Int32) (z : Int32) (h0 : okL (su_lst g n)) (h1 : okL (su_lst gb nb)) : ∃ kk v L0 L1, R_join g n gb nb x y z kk v L0 L1 ∧ okL L0 ∧ okL L1 ∧ kk < 4 := by
  rcases ho_or x with rfl | rfl | ⟨q1, q2, q3⟩
  · rcases ho_or y with rfl | rfl | ⟨q1, q2, q3⟩
    · rcases ho_or z with rfl | rfl | ⟨q1, q2, q3⟩
      · by_cases hb : 20 < n + n ∨ 300 < su_sm g n + su_sm g n
        · exact ⟨2, 0, _, _, Or.inr (Or.inr (Or.inr (Or.inl ⟨rfl, rfl, rfl, hb, rfl, rfl, rfl⟩))), h0, h1, by decide⟩
        · exact ⟨0, _, _, _, Or.inr (Or.inr (Or.inr (Or.inr (Or.inl ⟨rfl, rfl, rfl, by omega, by omega, rfl, rfl, rfl, rfl⟩)))), ok_app h0 h0 (by simp only [su_lst_len]; omega) (by simp only [← su_sm_L]; omega), h1, by decide⟩
      · by_cases hb : 20 < n + n ∨ 300 < su_sm g n + su_sm g n
        · exact ⟨2, 0, _, _, Or.inr (Or.inr (Or.inr (Or.inr (Or.inr (Or.inl ⟨rfl, rfl, rfl, hb, rfl, rfl, rfl⟩))))), h0, h1, by decide⟩
        · exact ⟨0, _, _, _, Or.inr (Or.inr (Or.inr (Or.inr (Or.inr (Or.inr (Or.inl ⟨rfl, rfl, rfl, by omega, by omega, rfl, rfl, rfl, rfl⟩)))))), h0, ok_app h0 h0 (by simp only [su_lst_len]; omega) (by simp only [← su_sm_L]; omega), by decide⟩
      · exact ⟨1, 0, _, _, Or.inr (Or.inr (Or.inl ⟨rfl, rfl, q1, q2, q3, rfl, rfl, rfl⟩)), h0, h1, by decide⟩
    · rcases ho_or z with rfl | rfl | ⟨q1, q2, q3⟩
      · by_cases hb : 20 < n + nb ∨ 300 < su_sm g n + su_sm gb nb
        · exact ⟨2, 0, _, _, Or.inr (Or.inr (Or.inr (Or.inr (Or.inr (Or.inr (Or.inr (Or.inr (Or.inl ⟨rfl, rfl, rfl, hb, rfl, rfl, rfl⟩)))))))), h0, h1, by decide⟩
        · exact ⟨0, _, _, _, Or.inr (Or.inr (Or.inr (Or.inr (Or.inr (Or.inr (Or.inr (Or.inr (Or.inr (Or.inl ⟨rfl, rfl, rfl, by omega, by omega, rfl, rfl, rfl, rfl⟩))))))))), ok_app h0 h1 (by simp only [su_lst_len]; omega) (by simp only [← su_sm_L]; omega), h1, by decide⟩
      · by_cases hb : 20 < n + nb ∨ 300 < su_sm g n + su_sm gb nb
        · exact ⟨2, 0, _, _, Or.inr (Or.inr (Or.inr (Or.inr (Or.inr (Or.inr (Or.inr (Or.inr (Or.inr (Or.inr (Or.inl ⟨rfl, rfl, rfl, hb, rfl, rfl, rfl⟩)))))))))), h0, h1, by decide⟩
        · exact ⟨0, _, _, _, Or.inr (Or.inr (Or.inr (Or.inr (Or.inr (Or.inr (Or.inr (Or.inr (Or.inr (Or.inr (Or.inr (Or.inl ⟨rfl, rfl, rfl, by omega, by omega, rfl, rfl, rfl, rfl⟩))))))))))), h0, ok_app h0 h1 (by simp only [su_lst_len]; omega) (by simp only [← su_sm_L]; omega), by decide⟩
      · exact ⟨1, 0, _, _, Or.inr (Or.inr (Or.inr (Or.inr (Or.inr (Or.inr (Or.inr (Or.inl ⟨rfl, rfl, q1, q2, q3, rfl, rfl, rfl⟩))))))), h0, h1, by decide⟩
    · exact ⟨1, 0, _, _, Or.inr (Or.inl ⟨rfl, q1, q2, q3, rfl, rfl, rfl⟩), h0, h1, by decide⟩
  · rcases ho_or y with rfl | rfl | ⟨q1, q2, q3⟩
    · rcases ho_or z with rfl | rfl | ⟨q1, q2, q3⟩
      · by_cases hb : 20 < nb + n ∨ 300 < su_sm gb nb + su_sm g n
        · exact ⟨2, 0, _, _, Or.inr (Or.inr (Or.inr (Or.inr (Or.inr (Or.inr (Or.inr (Or.inr (Or.inr (Or.inr (Or.inr (Or.inr (Or.inr (Or.inr (Or.inl ⟨rfl, rfl, rfl, hb, rfl, rfl, rfl⟩)))))))))))))), h0, h1, by decide⟩
        · exact ⟨0, _, _, _, Or.inr (Or.inr (Or.inr (Or.inr (Or.inr (Or.inr (Or.inr (Or.inr (Or.inr (Or.inr (Or.inr (Or.inr (Or.inr (Or.inr (Or.inr (Or.inl ⟨rfl, rfl, rfl, by omega, by omega, rfl, rfl, rfl, rfl⟩))))))))))))))), ok_app h1 h0 (by simp only [su_lst_len]; omega) (by simp only [← su_sm_L]; omega), h1, by decide⟩
      · by_cases hb : 20 < nb + n ∨ 300 < su_sm gb nb + su_sm g n
        · exact ⟨2, 0, _, _, Or.inr (Or.inr (Or.inr (Or.inr (Or.inr (Or.inr (Or.inr (Or.inr (Or.inr (Or.inr (Or.inr (Or.inr (Or.inr (Or.inr (Or.inr (Or.inr (Or.inl ⟨rfl, rfl, rfl, hb, rfl, rfl, rfl⟩)))))))))))))))), h0, h1, by decide⟩
        · exact ⟨0, _, _, _, Or.inr (Or.inr (Or.inr (Or.inr (Or.inr (Or.inr (Or.inr (Or.inr (Or.inr (Or.inr (Or.inr (Or.inr (Or.inr (Or.inr (Or.inr (Or.inr (Or.inr (Or.inl ⟨rfl, rfl, rfl, by omega, by omega, rfl, rfl, rfl, rfl⟩))))))))))))))))), h0, ok_app h1 h0 (by simp only [su_lst_len]; omega) (by simp only [← su_sm_L]; omega), by decide⟩
      · exact ⟨1, 0, _, _, Or.inr (Or.inr (Or.inr (Or.inr (Or.inr (Or.inr (Or.inr (Or.inr (Or.inr (Or.inr (Or.inr (Or.inr (Or.inr (Or.inl ⟨rfl, rfl, q1, q2, q3, rfl, rfl, rfl⟩))))))))))))), h0, h1, by decide⟩
    · rcases ho_or z with rfl | rfl | ⟨q1, q2, q3⟩
      · by_cases hb : 20 < nb + nb ∨ 300 < su_sm gb nb + su_sm gb nb
        · exact ⟨2, 0, _, _, Or.inr (Or.inr (Or.inr (Or.inr (Or.inr (Or.inr (Or.inr (Or.inr (Or.inr (Or.inr (Or.inr (Or.inr (Or.inr (Or.inr (Or.inr (Or.inr (Or.inr (Or.inr (Or.inr (Or.inl ⟨rfl, rfl, rfl, hb, rfl, rfl, rfl⟩))))))))))))))))))), h0, h1, by decide⟩
        · exact ⟨0, _, _, _, Or.inr (Or.inr (Or.inr (Or.inr (Or.inr (Or.inr (Or.inr (Or.inr (Or.inr (Or.inr (Or.inr (Or.inr (Or.inr (Or.inr (Or.inr (Or.inr (Or.inr (Or.inr (Or.inr (Or.inr (Or.inl ⟨rfl, rfl, rfl, by omega, by omega, rfl, rfl, rfl, rfl⟩)))))))))))))))))))), ok_app h1 h1 (by simp only [su_lst_len]; omega) (by simp only [← su_sm_L]; omega), h1, by decide⟩
      · by_cases hb : 20 < nb + nb ∨ 300 < su_sm gb nb + su_sm gb nb
        · exact ⟨2, 0, _, _, Or.inr (Or.inr (Or.inr (Or.inr (Or.inr (Or.inr (Or.inr (Or.inr (Or.inr (Or.inr (Or.inr (Or.inr (Or.inr (Or.inr (Or.inr (Or.inr (Or.inr (Or.inr (Or.inr (Or.inr (Or.inr (Or.inl ⟨rfl, rfl, rfl, hb, rfl, rfl, rfl⟩))))))))))))))))))))), h0, h1, by decide⟩
        · exact ⟨0, _, _, _, Or.inr (Or.inr (Or.inr (Or.inr (Or.inr (Or.inr (Or.inr (Or.inr (Or.inr (Or.inr (Or.inr (Or.inr (Or.inr (Or.inr (Or.inr (Or.inr (Or.inr (Or.inr (Or.inr (Or.inr (Or.inr (Or.inr (⟨rfl, rfl, rfl, by omega, by omega, rfl, rfl, rfl, rfl⟩)))))))))))))))))))))), h0, ok_app h1 h1 (by simp only [su_lst_len]; omega) (by simp only [← su_sm_L]; omega), by decide⟩
      · exact ⟨1, 0, _, _, Or.inr (Or.inr (Or.inr (Or.inr (Or.inr (Or.inr (Or.inr (Or.inr (Or.inr (Or.inr (Or.inr (Or.inr (Or.inr (Or.inr (Or.inr (Or.inr (Or.inr (Or.inr (Or.inl ⟨rfl, rfl, q1, q2, q3, rfl, rfl, rfl⟩)))))))))))))))))), h0, h1, by decide⟩
    · exact ⟨1, 0, _, _, Or.inr (Or.inr (Or.inr (Or.inr (Or.inr (Or.inr (Or.inr (Or.inr (Or.inr (Or.inr (Or.inr (Or.inr (Or.inl ⟨rfl, q1, q2, q3, rfl, rfl, rfl⟩)))))))))))), h0, h1, by decide⟩
  · exact ⟨1, 0, _, _, Or.inl ⟨q1, q2, q3, rfl, rfl, rfl⟩, h0, h1, by decide⟩
