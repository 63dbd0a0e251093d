/-! choices and their ranks; two hoards; the checksum -/
theorem dnW (g : Nat → Nat) (k : Nat) : fiD opW f0W g (k + 1) = dnT opW (g k) (fiD opW f0W g k) := rfl
theorem cW_S {g : Nat → Nat} {k s : Nat} (hs : s ≤ 300) : cW g (k + 1) s = cW g k s + (if g k ≤ s then cW g k (s - g k) else 0) := by
  show (if g k ≤ s ∧ s ≤ 300 then opW (cW g k s) (cW g k (s - g k)) else cW g k s) = _
  by_cases h : g k ≤ s
  · rw [if_pos ⟨h, hs⟩, if_pos h]; rfl
  · rw [if_neg (fun q => h q.1), if_neg h, Nat.add_zero]
/-- what is left of a choice's rank, from the highest place down -/
def chR (g : Nat → Nat) : Nat → Nat → Nat → Nat
  | 0, _, _ => 0
  | k + 1, left, a => if cW g k left ≤ a then 2 ^ k + chR g k (left - g k) (a - cW g k left) else chR g k left a
theorem chR_lt (g : Nat → Nat) : ∀ k l a, chR g k l a < 2 ^ k
  | 0, _, _ => Nat.one_pos
  | k + 1, l, a => by
    rw [chR, Nat.pow_succ]
    have h1 := chR_lt g k (l - g k) (a - cW g k l)
    have h2 := chR_lt g k l a
    split <;> omega
theorem ch_left {g : Nat → Nat} {k l a : Nat} (hl : l ≤ 300) (ha : a < cW g (k + 1) l) (h : cW g k l ≤ a) : g k ≤ l ∧ a - cW g k l < cW g k (l - g k) := by
  rw [cW_S hl] at ha
  split at ha
  · exact ⟨by assumption, by omega⟩
  · omega
theorem su_or2 {c k : Nat} (hk : k < 31) (h : c % 2 ^ (k + 1) = 0) : nI c ||| nI (2 ^ k) = nI (c + 2 ^ k) := by
  rw [su_or32]
  congr 1
  have e : c = 2 ^ (k + 1) * (c / 2 ^ (k + 1)) := by have := Nat.div_add_mod c (2 ^ (k + 1)); omega
  have h2 : 2 ^ k < 2 ^ (k + 1) := Nat.pow_lt_pow_right (by decide) (by omega)
  rw [e, ← Nat.two_pow_add_eq_or_of_lt h2]
theorem su_or2m {c k : Nat} (h : c % 2 ^ (k + 1) = 0) : (c + 2 ^ k) % 2 ^ k = 0 ∧ c % 2 ^ k = 0 := by
  have h1 : c % 2 ^ k = 0 := by
    have : c % 2 ^ (k + 1) % 2 ^ k = c % 2 ^ k := Nat.mod_mod_of_dvd c (Nat.pow_dvd_pow 2 (by omega))
    rw [← this, h, Nat.zero_mod]
  exact ⟨by rw [Nat.add_mod_right]; exact h1, h1⟩
/-- the rank of a choice -/
def rkR (g : Nat → Nat) (x : Int32) : Nat → Nat → Nat
  | 0, _ => 0
  | k + 1, left => if bt x k = true then cW g k left + rkR g x k (left - g k) else rkR g x k left
theorem su_sA_S {g : Nat → Nat} {k : Nat} {x : Int32} (h : bt x k = true) : su_sA g (k + 1) x - g k = su_sA g k x ∧ g k ≤ su_sA g (k + 1) x := by
  rw [su_sA, h, if_pos rfl]; omega
theorem su_sA_N {g : Nat → Nat} {k : Nat} {x : Int32} (h : bt x k = false) : su_sA g (k + 1) x = su_sA g k x := by
  rw [su_sA, h, if_neg (by decide)]; omega
theorem chR_1 {g : Nat → Nat} {k l a : Nat} (hk : 0 < k) (h : cW g (k - 1) l ≤ a) : chR g k l a = 2 ^ (k - 1) + chR g (k - 1) (l - g (k - 1)) (a - cW g (k - 1) l) := by
  obtain ⟨m, rfl⟩ : ∃ m, k = m + 1 := ⟨k - 1, by omega⟩
  rw [Nat.add_sub_cancel] at *
  rw [chR, if_pos h]
theorem chR_0 {g : Nat → Nat} {k l a : Nat} (hk : 0 < k) (h : a < cW g (k - 1) l) : chR g k l a = chR g (k - 1) l a := by
  obtain ⟨m, rfl⟩ : ∃ m, k = m + 1 := ⟨k - 1, by omega⟩
  rw [Nat.add_sub_cancel] at *
  rw [chR, if_neg (by omega)]
theorem rkR_1 {g : Nat → Nat} {x : Int32} {k l : Nat} (hk : 0 < k) (h : bt x (k - 1) = true) : rkR g x k l = cW g (k - 1) l + rkR g x (k - 1) (l - g (k - 1)) := by
  obtain ⟨m, rfl⟩ : ∃ m, k = m + 1 := ⟨k - 1, by omega⟩
  rw [Nat.add_sub_cancel] at *
  rw [rkR, if_pos h]
theorem rkR_0 {g : Nat → Nat} {x : Int32} {k l : Nat} (hk : 0 < k) (h : bt x (k - 1) = false) : rkR g x k l = rkR g x (k - 1) l := by
  obtain ⟨m, rfl⟩ : ∃ m, k = m + 1 := ⟨k - 1, by omega⟩
  rw [Nat.add_sub_cancel] at *
  rw [rkR, h, if_neg (by decide)]
theorem su_sA_1 {g : Nat → Nat} {k : Nat} {x : Int32} (hk : 0 < k) (h : bt x (k - 1) = true) : su_sA g k x - g (k - 1) = su_sA g (k - 1) x ∧ g (k - 1) ≤ su_sA g k x := by
  obtain ⟨m, rfl⟩ : ∃ m, k = m + 1 := ⟨k - 1, by omega⟩
  rw [Nat.add_sub_cancel] at *
  exact su_sA_S h
theorem su_sA_0 {g : Nat → Nat} {k : Nat} {x : Int32} (hk : 0 < k) (h : bt x (k - 1) = false) : su_sA g k x = su_sA g (k - 1) x := by
  obtain ⟨m, rfl⟩ : ∃ m, k = m + 1 := ⟨k - 1, by omega⟩
  rw [Nat.add_sub_cancel] at *
  exact su_sA_N h
theorem dnW1 {g : Nat → Nat} {k : Nat} (hk : 0 < k) : fiD opW f0W g k = dnT opW (g (k - 1)) (fiD opW f0W g (k - 1)) := by
  obtain ⟨m, rfl⟩ : ∃ m, k = m + 1 := ⟨k - 1, by omega⟩
  rw [Nat.add_sub_cancel] at *
  exact dnW g m
theorem ch_left1 {g : Nat → Nat} {k l a : Nat} (hk : 0 < k) (hl : l ≤ 300) (ha : a < cW g k l) (h : cW g (k - 1) l ≤ a) : g (k - 1) ≤ l ∧ a - cW g (k - 1) l < cW g (k - 1) (l - g (k - 1)) := by
  obtain ⟨m, rfl⟩ : ∃ m, k = m + 1 := ⟨k - 1, by omega⟩
  rw [Nat.add_sub_cancel] at *
  exact ch_left hl ha h
theorem su_or21 {c k : Nat} (hk : 0 < k) (hk2 : k < 31) (h : c % 2 ^ k = 0) : nI c ||| nI (2 ^ (k - 1)) = nI (c + 2 ^ (k - 1)) ∧ (c + 2 ^ (k - 1)) % 2 ^ (k - 1) = 0 ∧ c % 2 ^ (k - 1) = 0 := by
  obtain ⟨m, rfl⟩ : ∃ m, k = m + 1 := ⟨k - 1, by omega⟩
  rw [Nat.add_sub_cancel] at *
  exact ⟨su_or2 (by omega) h, (su_or2m h).1, (su_or2m h).2⟩
/-- the checksum's parts -/
def ckN (g : Nat → Nat) (c : Nat) : Nat → Nat
  | 0 => c
  | k + 1 => 31 * ckN g c k + g k
/-- together -/
def tgV (g gb : Nat → Nat) (n nb u : Nat) : Nat → Bool := fun s => decide (s ≤ u) && (mkD g n s && mkD gb nb (u - s))
theorem tg_bit {g gb : Nat → Nat} {n nb u s : Nat} (hT : su_sm g n ≤ 300) (hTb : su_sm gb nb ≤ 300) (hu : u ≤ 300) (hs : s ≤ 300) : (shV g n &&& shz (shV gb nb) ((u : Int) - (su_sm gb nb : Int))).testBit s = tgV g gb n nb u s := by
  have key : (shz (shV gb nb) ((u : Int) - (su_sm gb nb : Int))).testBit s = (decide (s ≤ u) && mkD gb nb (u - s)) := by
    unfold shz
    by_cases hz : su_sm gb nb ≤ u
    · rw [if_pos (by omega), Nat.testBit_shiftLeft, show ((u : Int) - (su_sm gb nb : Int)).toNat = u - su_sm gb nb by omega]
      by_cases h1 : u - su_sm gb nb ≤ s
      · rw [decide_eq_true h1, Bool.true_and, shV_mk (by omega)]
        by_cases h2 : s ≤ u
        · rw [decide_eq_true h2, Bool.true_and]
          unfold mkD
          rw [cW_mir hTb (show s - (u - su_sm gb nb) ≤ su_sm gb nb by omega), show su_sm gb nb - (s - (u - su_sm gb nb)) = u - s by omega]
        · rw [decide_eq_false h2, Bool.false_and]
          unfold mkD
          rw [cW_out (show su_sm gb nb < s - (u - su_sm gb nb) by omega)]; rfl
      · rw [decide_eq_false h1, Bool.false_and, decide_eq_true (show s ≤ u by omega), Bool.true_and]
        unfold mkD
        rw [cW_out (show su_sm gb nb < u - s by omega)]; rfl
    · rw [if_neg (by omega), Nat.testBit_shiftRight, show (-((u : Int) - (su_sm gb nb : Int))).toNat = su_sm gb nb - u by omega]
      by_cases h2 : s ≤ u
      · rw [decide_eq_true h2, Bool.true_and, shV_mk (by omega)]
        unfold mkD
        rw [cW_mir hTb (show su_sm gb nb - u + s ≤ su_sm gb nb by omega), show su_sm gb nb - (su_sm gb nb - u + s) = u - s by omega]
      · rw [decide_eq_false h2, Bool.false_and]
        rcases Nat.lt_or_ge 300 (su_sm gb nb - u + s) with q | q
        · exact shV_hi hTb q
        · rw [shV_mk q]
          unfold mkD
          rw [cW_out (show su_sm gb nb < su_sm gb nb - u + s by omega)]; rfl
  rw [Nat.testBit_and, key, shV_mk hs]
  unfold tgV
  cases decide (s ≤ u) <;> cases mkD g n s <;> cases mkD gb nb (u - s) <;> rfl
theorem su_ctV {V : Nat} {f : Nat → Bool} (hb : ∀ s, s ≤ 300 → V.testBit s = f s) (hh : ∀ s, 300 < s → V.testBit s = false) : su_pc V (64 * 5) = su_ct f 301 := su_told1 (fun s hs => hb s (by omega)) hh
def cmF (k : Nat) (a b : Nat → Bool) : Nat → Bool := fun s => match k with
  | 0 => a s && b s
  | 1 => a s || b s
  | 2 => a s ^^ b s
  | _ => a s && !b s
theorem cm_0 {g gb : Nat → Nat} {n nb : Nat} (hT : su_sm g n ≤ 300) : su_pc (shV g n &&& shz (shV gb nb) 0) (64 * 5) = su_ct (cmF 0 (mkD g n) (mkD gb nb)) 301 := by
  rw [shz_0]
  exact su_ctV (fun s hs => by rw [Nat.testBit_and, shV_mk hs, shV_mk hs]; rfl) (fun s hs => by rw [Nat.testBit_and, shV_hi hT hs]; rfl)
theorem cm_1 {g gb : Nat → Nat} {n nb : Nat} (hT : su_sm g n ≤ 300) (hTb : su_sm gb nb ≤ 300) : su_pc (shV g n ||| shz (shV gb nb) 0) (64 * 5) = su_ct (cmF 1 (mkD g n) (mkD gb nb)) 301 := by
  rw [shz_0]
  exact su_ctV (fun s hs => by rw [Nat.testBit_or, shV_mk hs, shV_mk hs]; rfl) (fun s hs => by rw [Nat.testBit_or, shV_hi hT hs, shV_hi hTb hs]; rfl)
theorem cm_2 {g gb : Nat → Nat} {n nb : Nat} (hT : su_sm g n ≤ 300) (hTb : su_sm gb nb ≤ 300) : su_pc (shV g n ^^^ shV gb nb) (64 * 5) = su_ct (cmF 2 (mkD g n) (mkD gb nb)) 301 :=
  su_ctV (fun s hs => by rw [Nat.testBit_xor, shV_mk hs, shV_mk hs]; rfl) (fun s hs => by rw [Nat.testBit_xor, shV_hi hT hs, shV_hi hTb hs]; rfl)
theorem cm_3 {g gb : Nat → Nat} {n nb : Nat} (hT : su_sm g n ≤ 300) : su_pc (shV g n ^^^ (shV g n &&& shV gb nb)) (64 * 5) = su_ct (cmF 3 (mkD g n) (mkD gb nb)) 301 :=
  su_ctV (fun s hs => by
    rw [Nat.testBit_xor, Nat.testBit_and, shV_mk hs, shV_mk hs]
    show (mkD g n s ^^ (mkD g n s && mkD gb nb s)) = (mkD g n s && !mkD gb nb s)
    cases mkD g n s <;> cases mkD gb nb s <;> rfl) (fun s hs => by rw [Nat.testBit_xor, Nat.testBit_and, shV_hi hT hs]; rfl)
theorem tg_c {g gb : Nat → Nat} {n nb u : Nat} (hT : su_sm g n ≤ 300) (hTb : su_sm gb nb ≤ 300) (hu : u ≤ 300) : su_pc (shV g n &&& shz (shV gb nb) ((u : Int) - (su_sm gb nb : Int))) (64 * 5) = su_ct (tgV g gb n nb u) 301 :=
  su_ctV (fun s hs => tg_bit hT hTb hu hs) (fun s hs => by rw [Nat.testBit_and, shV_hi hT hs]; rfl)
theorem lk_iff {g gb : Nat → Nat} {n nb : Nat} (hT : su_sm g n ≤ 300) (hTb : su_sm gb nb ≤ 300) : shV g n = shV gb nb ↔ ∀ s, s ≤ 300 → mkD g n s = mkD gb nb s := by
  constructor
  · intro h s hs; rw [← shV_mk hs, ← shV_mk hs, h]
  · intro h
    apply Nat.eq_of_testBit_eq
    intro s
    rcases Nat.lt_or_ge 300 s with q | q
    · rw [shV_hi hT q, shV_hi hTb q]
    · rw [shV_mk q, shV_mk q, h s q]
theorem z_to {u v : Nat} (hu : u ≤ 300) (hv : v ≤ 300) : (nI u - nI v).toInt = (u : Int) - (v : Int) := by
  rw [Int32.toInt_sub, nI_toInt (by omega), nI_toInt (by omega), Int.bmod_eq_of_le (by omega) (by omega)]
