/-! bitCount of the JDK: bytes -/
theorem su_land8 (X M : Nat) {y c : Nat} (hy : y < 256) (hc : c < 256) : (256 * X + y) &&& (256 * M + c) = 256 * (X &&& M) + (y &&& c) := by
  have hyc : y &&& c < 2 ^ 8 := Nat.lt_of_le_of_lt Nat.and_le_left hy
  apply Nat.eq_of_testBit_eq
  intro j
  rw [Nat.testBit_and, show (256 : Nat) = 2 ^ 8 from rfl, Nat.testBit_two_pow_mul_add X (show y < 2 ^ 8 from hy), Nat.testBit_two_pow_mul_add M (show c < 2 ^ 8 from hc), Nat.testBit_two_pow_mul_add _ hyc]
  by_cases h : j < 8 <;> simp [h, Nat.testBit_and]
def bcm (c : Nat) : Nat → Nat
  | 0 => 0
  | k + 1 => 256 * bcm c k + c
def bcA (k a : Nat) : Nat := a - (a / 2 &&& bcm 85 k)
def bcB (k a : Nat) : Nat := (a &&& bcm 51 k) + (a / 4 &&& bcm 51 k)
def bcC (k a : Nat) : Nat := (a + a / 16) &&& bcm 15 k
def bcS (k a : Nat) : Nat := match k with
  | 0 => 0
  | k + 1 => 256 * bcS k (a / 256) + su_pc (a % 256) 8
theorem bc_a : ∀ b, b < 2 → ∀ r, r < 256 → (128 * b + r / 2) &&& 85 = (r / 2) &&& 85 := by decide +kernel
theorem bc_b : ∀ b, b < 4 → ∀ r, r < 256 → (64 * b + r / 4) &&& 51 = (r / 4) &&& 51 := by decide +kernel
theorem bc_a2 : ∀ r, r < 256 → (r / 2) &&& 85 ≤ r := by decide +kernel
theorem bc_r : ∀ r, r < 256 → let y := ((r - ((r / 2) &&& 85)) &&& 51) + ((r - ((r / 2) &&& 85)) / 4 &&& 51)
    y % 16 ≤ 4 ∧ y < 69 ∧ (y + y / 16) &&& 15 = su_pc r 8 ∧ (y + y / 16) % 16 + 0 ≤ 15 ∧ (y + y / 16) < 80 := by decide +kernel
theorem bc_c : ∀ t, t ≤ 4 → ∀ y, y < 80 → (y + 16 * t) &&& 15 = y &&& 15 := by decide +kernel
theorem bc_land_le (a m : Nat) : (a / 2) &&& m ≤ a / 2 := Nat.and_le_left
theorem bcA_S {q r k : Nat} (hr : r < 256) : bcA (k + 1) (256 * q + r) = 256 * bcA k q + (r - ((r / 2) &&& 85)) := by
  unfold bcA
  have h1 : (256 * q + r) / 2 = 256 * (q / 2) + (128 * (q % 2) + r / 2) := by omega
  have h2 : 128 * (q % 2) + r / 2 < 256 := by omega
  show 256 * q + r - ((256 * q + r) / 2 &&& (256 * bcm 85 k + 85)) = _
  rw [h1, su_land8 _ _ h2 (by decide), bc_a (q % 2) (Nat.mod_lt _ (by decide)) r hr]
  have h3 := bc_a2 r hr
  have h4 := bc_land_le q (bcm 85 k)
  omega
theorem bcB_S {q r k : Nat} (hr : r < 256) : bcB (k + 1) (256 * q + r) = 256 * bcB k q + ((r &&& 51) + (r / 4 &&& 51)) := by
  unfold bcB
  have h1 : (256 * q + r) / 4 = 256 * (q / 4) + (64 * (q % 4) + r / 4) := by omega
  have h2 : 64 * (q % 4) + r / 4 < 256 := by omega
  show ((256 * q + r) &&& (256 * bcm 51 k + 51)) + ((256 * q + r) / 4 &&& (256 * bcm 51 k + 51)) = _
  rw [h1, su_land8 _ _ h2 (by decide), su_land8 _ _ hr (by decide), bc_b (q % 4) (Nat.mod_lt _ (by decide)) r hr]
  omega
theorem bc_all : ∀ (k a : Nat), a < 256 ^ k → bcC k (bcB k (bcA k a)) = bcS k a ∧ bcB k (bcA k a) % 16 ≤ 4 ∧ bcA k a ≤ a
  | 0, a, h => by
    have : a = 0 := by simpa using h
    subst this
    refine ⟨rfl, ?_, ?_⟩ <;> decide
  | k + 1, a, h => by
    have hq : a / 256 < 256 ^ k := by
      apply Nat.div_lt_of_lt_mul
      rwa [Nat.pow_succ, Nat.mul_comm] at h
    obtain ⟨e1, e2, e3⟩ := bc_all k (a / 256) hq
    have hr : a % 256 < 256 := Nat.mod_lt _ (by decide)
    have ha : a = 256 * (a / 256) + a % 256 := by omega
    have hb := bc_r (a % 256) hr
    simp only at hb
    have hA2 := bc_a2 (a % 256) hr
    generalize hqq : a / 256 = q at *
    generalize hrr : a % 256 = r at *
    obtain ⟨b1, b2, b3, b4, b5⟩ := hb
    have hA : bcA (k + 1) a = 256 * bcA k q + (r - ((r / 2) &&& 85)) := by rw [ha]; exact bcA_S hr
    have hB : bcB (k + 1) (bcA (k + 1) a) = 256 * bcB k (bcA k q) + (((r - ((r / 2) &&& 85)) &&& 51) + ((r - ((r / 2) &&& 85)) / 4 &&& 51)) := by
      rw [hA]; exact bcB_S (by omega)
    rw [hB]
    generalize ((r - ((r / 2) &&& 85)) &&& 51) + ((r - ((r / 2) &&& 85)) / 4 &&& 51) = y at *
    generalize bcB k (bcA k q) = x at *
    refine ⟨?_, by omega, by rw [hA]; omega⟩
    show (256 * x + y + (256 * x + y) / 16) &&& (256 * bcm 15 k + 15) = bcS (k + 1) a
    have h1 : 256 * x + y + (256 * x + y) / 16 = 256 * (x + x / 16) + (y + y / 16 + 16 * (x % 16)) := by omega
    rw [h1, su_land8 _ _ (by omega) (by decide), bc_c (x % 16) e2 _ b5, b3]
    show 256 * bcC k x + _ = 256 * bcS k (a / 256) + su_pc (a % 256) 8
    rw [e1, hqq, hrr]
theorem su_pc_le (V : Nat) : ∀ m, su_pc V m ≤ m
  | 0 => Nat.le_refl _
  | m + 1 => by
    have := su_pc_le V m
    show su_pc V m + _ ≤ m + 1
    split <;> omega
theorem su_pc8 (a m : Nat) : su_pc a (8 + m) = su_pc (a % 256) 8 + su_pc (a / 256) m := by
  rw [su_pc_add, Nat.shiftRight_eq_div_pow, show (2 : Nat) ^ 8 = 256 from rfl, ← su_pc_mod a 8]
def bcD (x : Nat) : Nat := x + x / 256
def bcE (x : Nat) : Nat := x + x / 65536
def bcF (x : Nat) : Nat := x + x / 4294967296
theorem bc_dv (X : Nat) {lo : Nat} (h : lo < 4294967296) : (4294967296 * X + lo) / 4294967296 = X := by omega
theorem bc_d1 (X r : Nat) (h : r < 256) : (256 * X + r) / 256 = X := by omega
theorem bc_d2 (X r q : Nat) (h : r < 256) (h2 : q < 256) : (256 * (256 * X + q) + r) / 65536 = X := by omega
theorem bc_d4 (X r q s t : Nat) (h : r < 256) (h2 : q < 256) (h3 : s < 256) (h4 : t < 256) : (256 * (256 * (256 * (256 * X + t) + s) + q) + r) / 4294967296 = X := by
  have e : 256 * (256 * (256 * (256 * X + t) + s) + q) + r = 4294967296 * X + (256 * (256 * (256 * t + s) + q) + r) := by omega
  have l : 256 * (256 * (256 * t + s) + q) + r < 4294967296 := by omega
  rw [e]; exact bc_dv X l
theorem bc_m7 (X r : Nat) : (256 * X + r) % 128 = r % 128 := by omega
theorem bc_8D (D0 D1 D2 D3 D4 D5 D6 D7 : Nat) (h0 : D0 ≤ 8) : bcD (256 * (256 * (256 * (256 * (256 * (256 * (256 * (D7) + (D6)) + (D5)) + (D4)) + (D3)) + (D2)) + (D1)) + (D0)) = 256 * (256 * (256 * (256 * (256 * (256 * (256 * (D7) + (D6 + D7)) + (D5 + D6)) + (D4 + D5)) + (D3 + D4)) + (D2 + D3)) + (D1 + D2)) + (D0 + D1) := by
  unfold bcD
  rw [bc_d1 _ _ (by omega)]
  clear h0; omega
theorem bc_8E (D0 D1 D2 D3 D4 D5 D6 D7 : Nat) (h0 : D0 ≤ 16) (h1 : D1 ≤ 16) : bcE (256 * (256 * (256 * (256 * (256 * (256 * (256 * (D7) + (D6)) + (D5)) + (D4)) + (D3)) + (D2)) + (D1)) + (D0)) = 256 * (256 * (256 * (256 * (256 * (256 * (256 * (D7) + (D6)) + (D5 + D7)) + (D4 + D6)) + (D3 + D5)) + (D2 + D4)) + (D1 + D3)) + (D0 + D2) := by
  unfold bcE
  rw [bc_d2 _ _ _ (by omega) (by omega)]
  clear h0 h1; omega
theorem bc_8F (D0 D1 D2 D3 D4 D5 D6 D7 : Nat) (h0 : D0 ≤ 32) (h1 : D1 ≤ 32) (h2 : D2 ≤ 32) (h3 : D3 ≤ 32) (h4 : D4 ≤ 32) : bcF (256 * (256 * (256 * (256 * (256 * (256 * (256 * (D7) + (D6)) + (D5)) + (D4)) + (D3)) + (D2)) + (D1)) + (D0)) % 128 = D0 + D4 := by
  unfold bcF
  rw [bc_d4 _ _ _ _ _ (by omega) (by omega) (by omega) (by omega)]
  generalize 256 * (256 * (D7) + (D6)) + (D5) = Y
  generalize 256 * (256 * (256 * (256 * Y + (D4)) + (D3)) + (D2)) + (D1) = Z
  rw [show 256 * Z + D0 + (256 * Y + D4) = 256 * (Z + Y) + (D0 + D4) by omega, bc_m7]
  exact Nat.mod_eq_of_lt (by omega)
theorem bc_8lt (D0 D1 D2 D3 D4 D5 D6 D7 : Nat) (h0 : D0 ≤ 8) (h1 : D1 ≤ 8) (h2 : D2 ≤ 8) (h3 : D3 ≤ 8) (h4 : D4 ≤ 8) (h5 : D5 ≤ 8) (h6 : D6 ≤ 8) (h7 : D7 ≤ 8) : 256 * (256 * (256 * (256 * (256 * (256 * (256 * (D7) + (D6)) + (D5)) + (D4)) + (D3)) + (D2)) + (D1)) + (D0) < 2 ^ 60 := by omega
theorem bc_fin8 (a : Nat) : bcF (bcE (bcD (bcS 8 a))) % 128 = su_pc a 64 ∧ bcS 8 a < 2 ^ 60 := by
  have e : su_pc a 64 = su_pc (a % 256) 8 + (su_pc (a / 256 % 256) 8 + (su_pc (a / 256 / 256 % 256) 8 + (su_pc (a / 256 / 256 / 256 % 256) 8 + (su_pc (a / 256 / 256 / 256 / 256 % 256) 8 + (su_pc (a / 256 / 256 / 256 / 256 / 256 % 256) 8 + (su_pc (a / 256 / 256 / 256 / 256 / 256 / 256 % 256) 8 + su_pc (a / 256 / 256 / 256 / 256 / 256 / 256 / 256 % 256) 8)))))) := by
    rw [show (64 : Nat) = 8 + 56 from rfl, su_pc8, show (56 : Nat) = 8 + 48 from rfl, su_pc8, show (48 : Nat) = 8 + 40 from rfl, su_pc8, show (40 : Nat) = 8 + 32 from rfl, su_pc8, show (32 : Nat) = 8 + 24 from rfl, su_pc8, show (24 : Nat) = 8 + 16 from rfl, su_pc8, show (16 : Nat) = 8 + 8 from rfl, su_pc8, ← su_pc_mod (a / 256 / 256 / 256 / 256 / 256 / 256 / 256) 8]
  rw [e]
  clear e
  simp only [bcS]
  have q0 := su_pc_le (a % 256) 8
  have q1 := su_pc_le (a / 256 % 256) 8
  have q2 := su_pc_le (a / 256 / 256 % 256) 8
  have q3 := su_pc_le (a / 256 / 256 / 256 % 256) 8
  have q4 := su_pc_le (a / 256 / 256 / 256 / 256 % 256) 8
  have q5 := su_pc_le (a / 256 / 256 / 256 / 256 / 256 % 256) 8
  have q6 := su_pc_le (a / 256 / 256 / 256 / 256 / 256 / 256 % 256) 8
  have q7 := su_pc_le (a / 256 / 256 / 256 / 256 / 256 / 256 / 256 % 256) 8
  generalize su_pc (a % 256) 8 = d0 at *
  generalize su_pc (a / 256 % 256) 8 = d1 at *
  generalize su_pc (a / 256 / 256 % 256) 8 = d2 at *
  generalize su_pc (a / 256 / 256 / 256 % 256) 8 = d3 at *
  generalize su_pc (a / 256 / 256 / 256 / 256 % 256) 8 = d4 at *
  generalize su_pc (a / 256 / 256 / 256 / 256 / 256 % 256) 8 = d5 at *
  generalize su_pc (a / 256 / 256 / 256 / 256 / 256 / 256 % 256) 8 = d6 at *
  generalize su_pc (a / 256 / 256 / 256 / 256 / 256 / 256 / 256 % 256) 8 = d7 at *
  rw [Nat.mul_zero, Nat.zero_add]
  refine ⟨?_, bc_8lt d0 d1 d2 d3 d4 d5 d6 d7 q0 q1 q2 q3 q4 q5 q6 q7⟩
  rw [bc_8D _ _ _ _ _ _ _ _ q0, bc_8E _ _ _ _ _ _ _ _ (by omega) (by omega), bc_8F _ _ _ _ _ _ _ _ (by omega) (by omega) (by omega) (by omega) (by omega)]
  omega
theorem bc_fin4 (a : Nat) : bcE (bcD (bcS 4 a)) % 64 = su_pc a 32 ∧ bcS 4 a < 2 ^ 28 := by
  have e : su_pc a 32 = su_pc (a % 256) 8 + (su_pc (a / 256 % 256) 8 + (su_pc (a / 256 / 256 % 256) 8 + su_pc (a / 256 / 256 / 256 % 256) 8)) := by
    rw [show (32 : Nat) = 8 + 24 from rfl, su_pc8, show (24 : Nat) = 8 + 16 from rfl, su_pc8, show (16 : Nat) = 8 + 8 from rfl, su_pc8, ← su_pc_mod (a / 256 / 256 / 256) 8]
  rw [e]
  simp only [bcS]
  have q0 := su_pc_le (a % 256) 8
  have q1 := su_pc_le (a / 256 % 256) 8
  have q2 := su_pc_le (a / 256 / 256 % 256) 8
  have q3 := su_pc_le (a / 256 / 256 / 256 % 256) 8
  generalize su_pc (a % 256) 8 = d0 at *
  generalize su_pc (a / 256 % 256) 8 = d1 at *
  generalize su_pc (a / 256 / 256 % 256) 8 = d2 at *
  generalize su_pc (a / 256 / 256 / 256 % 256) 8 = d3 at *
  refine ⟨?_, by omega⟩
  have hD : bcD (256 * (256 * (256 * (256 * 0 + d3) + d2) + d1) + d0) = 256 * (256 * (256 * d3 + (d2 + d3)) + (d1 + d2)) + (d0 + d1) := by
    unfold bcD; omega
  rw [hD]
  have hE : (256 * (256 * (256 * d3 + (d2 + d3)) + (d1 + d2)) + (d0 + d1)) / 65536 = 256 * d3 + (d2 + d3) := by omega
  unfold bcE
  rw [hE]
  omega
theorem su_nI_mod (n : Nat) : nI n = nI (n % 2 ^ 32) := by
  apply Int32.toBitVec_inj.mp
  apply BitVec.eq_of_toNat_eq
  show (BitVec.ofNat 32 n).toNat = (BitVec.ofNat 32 (n % 2 ^ 32)).toNat
  rw [BitVec.toNat_ofNat, BitVec.toNat_ofNat, Nat.mod_mod]
theorem su_a127 (n : Nat) : nI n &&& nI 127 = nI (n % 128) := by
  rw [su_nI_mod n, pk_andN (Nat.mod_lt _ (by decide)) (m := nI 127) 7 (by decide +kernel)]
  congr 1
  omega
/-- Long.bitCount's steps -/
def bJA (x : Int64) : Int64 := x - ((x.toUInt64 >>> ((nI 1).toInt64.toUInt64 &&& Int64.toUInt64 63)).toInt64 &&& 6148914691236517205)
def bJB (x : Int64) : Int64 := (x &&& 3689348814741910323) + ((x.toUInt64 >>> ((nI 2).toInt64.toUInt64 &&& Int64.toUInt64 63)).toInt64 &&& 3689348814741910323)
def bJC (x : Int64) : Int64 := (x + (x.toUInt64 >>> ((nI 4).toInt64.toUInt64 &&& Int64.toUInt64 63)).toInt64) &&& 1085102592571150095
def bJD (k : Nat) (x : Int64) : Int64 := x + (x.toUInt64 >>> ((nI k).toInt64.toUInt64 &&& Int64.toUInt64 63)).toInt64
theorem bcm_8 : bcm 85 8 = 6148914691236517205 ∧ bcm 51 8 = 3689348814741910323 ∧ bcm 15 8 = 1085102592571150095 := by decide +kernel
theorem bJA_n {a : Nat} (ha : a < 2 ^ 64) : bJA (lN a) = lN (bcA 8 a) := by
  unfold bJA bcA
  rw [su_lu (by decide), Nat.mod_eq_of_lt ha, show (6148914691236517205 : Int64) = lN (bcm 85 8) by rw [bcm_8.1]; rfl, fb_andL, Nat.pow_one]
  exact lN_sub (Nat.le_trans Nat.and_le_left (Nat.div_le_self _ _))
theorem bJB_n {a : Nat} (ha : a < 2 ^ 64) : bJB (lN a) = lN (bcB 8 a) := by
  unfold bJB bcB
  rw [su_lu (by decide), Nat.mod_eq_of_lt ha, show (3689348814741910323 : Int64) = lN (bcm 51 8) by rw [bcm_8.2.1]; rfl, fb_andL, fb_andL, lN_add]
theorem bJC_n {a : Nat} (ha : a < 2 ^ 64) : bJC (lN a) = lN (bcC 8 a) := by
  unfold bJC bcC
  rw [su_lu (by decide), Nat.mod_eq_of_lt ha, show (1085102592571150095 : Int64) = lN (bcm 15 8) by rw [bcm_8.2.2]; rfl, lN_add, fb_andL]
theorem bJD_n {a k : Nat} (hk : k < 64) (ha : a < 2 ^ 64) : bJD k (lN a) = lN (a + a / 2 ^ k) := by
  unfold bJD
  rw [su_lu hk, Nat.mod_eq_of_lt ha, lN_add]
theorem su_bitL (a : Nat) : (bJD 32 (bJD 16 (bJD 8 (bJC (bJB (bJA (lN a))))))).toInt32 &&& nI 127 = nI (su_pc a 64) := by
  have hm : lN a = lN (a % 2 ^ 64) := wb_mod a
  rw [hm, ← su_pc_mod a 64]
  generalize hb : a % 2 ^ 64 = b
  have hlt : b < 2 ^ 64 := by rw [← hb]; exact Nat.mod_lt _ (by decide)
  obtain ⟨e1, e2, e3⟩ := bc_all 8 b hlt
  obtain ⟨f1, f2⟩ := bc_fin8 b
  have hB : bcB 8 (bcA 8 b) < 2 ^ 64 := by
    unfold bcB
    have h1 : bcA 8 b &&& bcm 51 8 ≤ bcm 51 8 := Nat.and_le_right
    have h2 : bcA 8 b / 4 &&& bcm 51 8 ≤ bcm 51 8 := Nat.and_le_right
    rw [bcm_8.2.1] at h1 h2 ⊢
    omega
  rw [bJA_n hlt, bJB_n (Nat.lt_of_le_of_lt e3 hlt), bJC_n hB, e1, bJD_n (by decide) (by omega), bJD_n (by decide) (by omega), bJD_n (by decide) (by omega), lN_i, su_a127]
  rw [← f1]; rfl
/-- Integer.bitCount's steps -/
def bIA (x : Int32) : Int32 := x - ((x.toUInt32 >>> ((nI 1).toUInt32 &&& Int32.toUInt32 31)).toInt32 &&& 1431655765)
def bIB (x : Int32) : Int32 := (x &&& 858993459) + ((x.toUInt32 >>> ((nI 2).toUInt32 &&& Int32.toUInt32 31)).toInt32 &&& 858993459)
def bIC (x : Int32) : Int32 := (x + (x.toUInt32 >>> ((nI 4).toUInt32 &&& Int32.toUInt32 31)).toInt32) &&& 252645135
def bID (k : Nat) (x : Int32) : Int32 := x + (x.toUInt32 >>> ((nI k).toUInt32 &&& Int32.toUInt32 31)).toInt32
theorem su_iu {n k : Nat} (hn : n < 2 ^ 32) (hk : k < 32) : ((nI n).toUInt32 >>> ((nI k).toUInt32 &&& Int32.toUInt32 31)).toInt32 = nI (n / 2 ^ k) := pk_ushrN hn (nI k) k (s_u k hk)
theorem bcm_4 : bcm 85 4 = 1431655765 ∧ bcm 51 4 = 858993459 ∧ bcm 15 4 = 252645135 := by decide +kernel
theorem bIA_n {a : Nat} (ha : a < 2 ^ 32) : bIA (nI a) = nI (bcA 4 a) := by
  unfold bIA bcA
  rw [su_iu ha (by decide), show (1431655765 : Int32) = nI (bcm 85 4) by rw [bcm_4.1]; rfl, nx_and, Nat.pow_one]
  exact pk_sub (Nat.le_trans Nat.and_le_left (Nat.div_le_self _ _))
theorem bIB_n {a : Nat} (ha : a < 2 ^ 32) : bIB (nI a) = nI (bcB 4 a) := by
  unfold bIB bcB
  rw [su_iu ha (by decide), show (858993459 : Int32) = nI (bcm 51 4) by rw [bcm_4.2.1]; rfl, nx_and, nx_and, nI_add]
theorem bIC_n {a : Nat} (ha : a < 2 ^ 32) : bIC (nI a) = nI (bcC 4 a) := by
  unfold bIC bcC
  rw [su_iu ha (by decide), show (252645135 : Int32) = nI (bcm 15 4) by rw [bcm_4.2.2]; rfl, nI_add, nx_and]
theorem bID_n {a k : Nat} (hk : k < 32) (ha : a < 2 ^ 32) : bID k (nI a) = nI (a + a / 2 ^ k) := by
  unfold bID
  rw [su_iu ha hk, nI_add]
theorem su_bitI {a : Nat} (hlt : a < 2 ^ 32) : (bID 16 (bID 8 (bIC (bIB (bIA (nI a)))))) &&& nI 63 = nI (su_pc a 32) := by
  obtain ⟨e1, e2, e3⟩ := bc_all 4 a hlt
  obtain ⟨f1, f2⟩ := bc_fin4 a
  have hB : bcB 4 (bcA 4 a) < 2 ^ 32 := by
    unfold bcB
    have h1 : bcA 4 a &&& bcm 51 4 ≤ bcm 51 4 := Nat.and_le_right
    have h2 : bcA 4 a / 4 &&& bcm 51 4 ≤ bcm 51 4 := Nat.and_le_right
    rw [bcm_4.2.1] at h1 h2 ⊢
    omega
  rw [bIA_n hlt, bIB_n (Nat.lt_of_le_of_lt e3 hlt), bIC_n hB, e1, bID_n (by decide) (by omega), bID_n (by decide) (by omega), su_a63 (by omega)]
  rw [← f1]; rfl
