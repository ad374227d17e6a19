/-! ===== lN n to 2^64: shifts, and, or, masks, one bit ===== -/
theorem wb_tb (n : Nat) : (lN n).toBitVec = BitVec.ofNat 64 n := rfl
theorem wb_inj {a b : Int64} (h : a.toBitVec = b.toBitVec) : a = b := Int64.toBitVec_inj.mp h
theorem wb_tn {n : Nat} (h : n < 2 ^ 64) : (lN n).toBitVec.toNat = n := by rw [wb_tb, BitVec.toNat_ofNat, Nat.mod_eq_of_lt h]
theorem wb_of (x : Int64) : ∃ n, n < 2 ^ 64 ∧ x = lN n := ⟨x.toBitVec.toNat, x.toBitVec.isLt, wb_inj (by rw [wb_tb]; simp)⟩
theorem wb_of32 (x : Int32) : ∃ n, n < 2 ^ 32 ∧ x = nI n := ⟨x.toBitVec.toNat, x.toBitVec.isLt, Int32.toBitVec_inj.mp (by show _ = BitVec.ofNat 32 _; simp)⟩
theorem wb_c : ∀ k, k < 64 → ((nI k).toInt64 &&& 63) = lN k := by decide +kernel
theorem wb_cu : ∀ k, k < 64 → ((nI k).toInt64.toUInt64 &&& Int64.toUInt64 63) = UInt64.ofNat k := by decide +kernel
theorem wb_sm : ∀ k, k < 64 → (BitVec.ofNat 64 k).smod 64 = BitVec.ofNat 64 k := by decide +kernel
theorem wb_pw {a b : Nat} (h : a ≤ b) : 2 ^ b = 2 ^ a * 2 ^ (b - a) := by rw [← Nat.pow_add]; congr 1; omega
theorem wb_lt2 {a b : Nat} (h : a < b) : 2 ^ a < 2 ^ b := Nat.pow_lt_pow_right (by decide) h
theorem wb_mod (n : Nat) : lN n = lN (n % 2 ^ 64) := wb_inj (by rw [wb_tb, wb_tb]; apply BitVec.eq_of_toNat_eq; rw [BitVec.toNat_ofNat, BitVec.toNat_ofNat, Nat.mod_mod])
theorem wb_shr {n k : Nat} (hn : n < 2 ^ 64) (hk : k < 64) : ((lN n).toUInt64 >>> ((nI k).toInt64.toUInt64 &&& Int64.toUInt64 63)).toInt64 = lN (n / 2 ^ k) := by
  rw [wb_cu k hk]
  apply wb_inj
  apply BitVec.eq_of_toNat_eq
  show ((lN n).toUInt64 >>> UInt64.ofNat k).toNat = (BitVec.ofNat 64 _).toNat
  have h1 : (UInt64.ofNat k).toNat = k := by
    show (BitVec.ofNat 64 k).toNat = k
    rw [BitVec.toNat_ofNat, Nat.mod_eq_of_lt (by omega)]
  have h2 : (lN n).toUInt64.toNat = n := wb_tn hn
  rw [UInt64.toNat_shiftRight, h1, h2, Nat.mod_eq_of_lt hk, Nat.shiftRight_eq_div_pow, BitVec.toNat_ofNat, Nat.mod_eq_of_lt (Nat.lt_of_le_of_lt (Nat.div_le_self _ _) hn)]
theorem wb_shl (n : Nat) {k : Nat} (hk : k < 64) : lN n <<< ((nI k).toInt64 &&& 63) = lN (n * 2 ^ k) := by
  rw [wb_c k hk]
  apply wb_inj
  rw [Int64.toBitVec_shiftLeft, wb_tb, wb_tb, wb_tb, wb_sm k hk]
  apply BitVec.eq_of_toNat_eq
  rw [BitVec.shiftLeft_eq', BitVec.toNat_shiftLeft, BitVec.toNat_ofNat, BitVec.toNat_ofNat, BitVec.toNat_ofNat, Nat.mod_eq_of_lt (show k < 2 ^ 64 by omega), Nat.shiftLeft_eq, Nat.mul_mod, Nat.mod_mod, ← Nat.mul_mod]
theorem wb_and {a b : Nat} (ha : a < 2 ^ 64) (hb : b < 2 ^ 64) : lN a &&& lN b = lN (a &&& b) := by
  apply wb_inj
  rw [Int64.toBitVec_and, wb_tb, wb_tb, wb_tb]
  apply BitVec.eq_of_toNat_eq
  rw [BitVec.toNat_and, BitVec.toNat_ofNat, BitVec.toNat_ofNat, BitVec.toNat_ofNat, Nat.mod_eq_of_lt ha, Nat.mod_eq_of_lt hb, Nat.mod_eq_of_lt (Nat.and_lt_two_pow _ hb)]
theorem wb_or {a b : Nat} (ha : a < 2 ^ 64) (hb : b < 2 ^ 64) : lN a ||| lN b = lN (a ||| b) := by
  apply wb_inj
  rw [Int64.toBitVec_or, wb_tb, wb_tb, wb_tb]
  apply BitVec.eq_of_toNat_eq
  rw [BitVec.toNat_or, BitVec.toNat_ofNat, BitVec.toNat_ofNat, BitVec.toNat_ofNat, Nat.mod_eq_of_lt ha, Nat.mod_eq_of_lt hb, Nat.mod_eq_of_lt (Nat.or_lt_two_pow ha hb)]
theorem wb_mask {n k : Nat} (hn : n < 2 ^ 64) (hk : k < 64) : lN n &&& lN (2 ^ k - 1) = lN (n % 2 ^ k) := by
  rw [wb_and hn (by have := wb_lt2 hk; omega), Nat.and_two_pow_sub_one_eq_mod]
theorem wb_a1 {n : Nat} (hn : n < 2 ^ 64) : lN n &&& 1 = lN (n % 2) := wb_mask (k := 1) hn (by decide)
theorem nI_and (a b : Nat) : nI a &&& nI b = nI (a &&& b) := by
  apply Int32.toBitVec_inj.mp
  show BitVec.ofNat 32 a &&& BitVec.ofNat 32 b = BitVec.ofNat 32 (a &&& b)
  apply BitVec.eq_of_getLsbD_eq
  intro i hi
  simp [BitVec.getLsbD_and, BitVec.getLsbD_ofNat, hi]
theorem lN_and (a b : Nat) : lN a &&& lN b = lN (a &&& b) := by
  apply wb_inj
  show BitVec.ofNat 64 a &&& BitVec.ofNat 64 b = BitVec.ofNat 64 (a &&& b)
  apply BitVec.eq_of_getLsbD_eq
  intro i hi
  simp [BitVec.getLsbD_and, BitVec.getLsbD_ofNat, hi]
theorem lN_or (a b : Nat) : lN a ||| lN b = lN (a ||| b) := by
  apply wb_inj
  show BitVec.ofNat 64 a ||| BitVec.ofNat 64 b = BitVec.ofNat 64 (a ||| b)
  apply BitVec.eq_of_getLsbD_eq
  intro i hi
  simp [BitVec.getLsbD_or, BitVec.getLsbD_ofNat, hi]
/-- how many of the first k bits are set -/
def popN (n : Nat) : Nat → Nat
  | 0 => 0
  | k + 1 => popN n k + if n.testBit k = true then 1 else 0
theorem popN_congr {n m : Nat} : ∀ {k : Nat}, (∀ i, i < k → n.testBit i = m.testBit i) → popN n k = popN m k
  | 0, _ => rfl
  | k + 1, h => by unfold popN; rw [popN_congr (fun i hi => h i (by omega)), h k (by omega)]
theorem lane_bit {b : Nat} (y : Nat) (hb : b < 256) (i : Nat) : (b + 256 * y).testBit i = if i < 8 then b.testBit i else y.testBit (i - 8) := by
  rw [Nat.add_comm, show (256 : Nat) = 2 ^ 8 by decide, Nat.testBit_two_pow_mul_add y (by exact hb) i]
theorem lane_and {a m : Nat} (c M : Nat) (ha : a < 256) (hm : m < 256) : (a + 256 * c) &&& (m + 256 * M) = (a &&& m) + 256 * (c &&& M) := by
  have hx : a &&& m < 256 := Nat.lt_of_le_of_lt Nat.and_le_left ha
  apply Nat.eq_of_testBit_eq
  intro i
  rw [Nat.testBit_and, lane_bit c ha, lane_bit M hm, lane_bit (c &&& M) hx]
  by_cases h : i < 8
  · rw [if_pos h, if_pos h, if_pos h, Nat.testBit_and]
  · rw [if_neg h, if_neg h, if_neg h, Nat.testBit_and]
theorem popN_lane {b : Nat} (y : Nat) (hb : b < 256) : ∀ m, popN (b + 256 * y) (8 + m) = popN b 8 + popN y m
  | 0 => by
    show popN (b + 256 * y) 8 = popN b 8 + 0
    rw [Nat.add_zero]
    exact popN_congr (fun i hi => by rw [lane_bit y hb, if_pos hi])
  | m + 1 => by
    show popN (b + 256 * y) (8 + m) + (if (b + 256 * y).testBit (8 + m) = true then 1 else 0) = popN b 8 + (popN y m + if y.testBit m = true then 1 else 0)
    have e : (b + 256 * y).testBit (8 + m) = y.testBit m := by rw [lane_bit y hb, if_neg (by omega), show 8 + m - 8 = m by omega]
    rw [popN_lane y hb m, e]; omega
def Mk (m : Nat) : Nat → Nat
  | 0 => 0
  | n + 1 => m + 256 * Mk m n
def st1 (n x : Nat) : Nat := x - ((x / 2) &&& Mk 85 n)
def st2 (n x : Nat) : Nat := (x &&& Mk 51 n) + ((x / 4) &&& Mk 51 n)
def st3 (n x : Nat) : Nat := (x + x / 16) &&& Mk 15 n
def by1 (b : Nat) : Nat := b - ((b / 2) &&& 85)
def by2 (c : Nat) : Nat := (c &&& 51) + ((c / 4) &&& 51)
def by3 (e : Nat) : Nat := (e + e / 16) % 16
set_option maxRecDepth 100000 in
theorem by_f1 : ∀ b, b < 256 → ∀ t, t < 2 → (b / 2 + 128 * t) &&& 85 = (b / 2) &&& 85 := by decide +kernel
set_option maxRecDepth 100000 in
theorem by_f2 : ∀ b, b < 256 → ∀ t, t < 4 → (b / 4 + 64 * t) &&& 51 = (b / 4) &&& 51 := by decide +kernel
set_option maxRecDepth 100000 in
theorem by_f3 : ∀ b, b < 256 → by1 b < 256 ∧ by2 (by1 b) ≤ 68 ∧ by2 (by1 b) % 16 ≤ 4 ∧ by3 (by2 (by1 b)) = popN b 8 ∧ popN b 8 ≤ 8 := by decide +kernel
theorem st1_lane {b : Nat} (n y : Nat) (hb : b < 256) : st1 (n + 1) (b + 256 * y) = by1 b + 256 * st1 n y := by
  unfold st1 by1
  have e : (b + 256 * y) / 2 = (b / 2 + 128 * (y % 2)) + 256 * (y / 2) := by omega
  show b + 256 * y - ((b + 256 * y) / 2 &&& (85 + 256 * Mk 85 n)) = _
  rw [e, lane_and _ _ (by omega) (by decide), by_f1 b hb _ (Nat.mod_lt _ (by decide))]
  have h1 : b / 2 &&& 85 ≤ b / 2 := Nat.and_le_left
  have h2 : y / 2 &&& Mk 85 n ≤ y / 2 := Nat.and_le_left
  omega
theorem st2_lane {c : Nat} (n y : Nat) (hc : c < 256) : st2 (n + 1) (c + 256 * y) = by2 c + 256 * st2 n y := by
  unfold st2 by2
  have e : (c + 256 * y) / 4 = (c / 4 + 64 * (y % 4)) + 256 * (y / 4) := by omega
  show (c + 256 * y &&& (51 + 256 * Mk 51 n)) + ((c + 256 * y) / 4 &&& (51 + 256 * Mk 51 n)) = _
  rw [e, lane_and _ _ (by omega) (by decide), lane_and _ _ (by omega) (by decide), by_f2 c hc _ (Nat.mod_lt _ (by decide))]
  omega
theorem st3_lane {e : Nat} (n y : Nat) (he : e ≤ 68) (hy : y % 16 ≤ 4) : st3 (n + 1) (e + 256 * y) = by3 e + 256 * st3 n y := by
  unfold st3 by3
  have e1 : (e + 256 * y) + (e + 256 * y) / 16 = (e + e / 16 + 16 * (y % 16)) + 256 * (y + y / 16) := by omega
  show (e + 256 * y) + (e + 256 * y) / 16 &&& (15 + 256 * Mk 15 n) = _
  rw [e1, lane_and _ _ (by omega) (by decide), show (15 : Nat) = 2 ^ 4 - 1 by decide, Nat.and_two_pow_sub_one_eq_mod]
  omega
/-- the bytes' counts, one behind another -/
def bs : Nat → Nat → Nat
  | 0, _ => 0
  | n + 1, x => popN (x % 256) 8 + 256 * bs n (x / 256)
theorem st_all : ∀ (n x : Nat), x < 256 ^ n → st3 n (st2 n (st1 n x)) = bs n x ∧ st2 n (st1 n x) % 16 ≤ 4
  | 0, x, h => by
    have : x = 0 := by simpa using h
    subst this
    decide
  | n + 1, x, h => by
    have hy : x / 256 < 256 ^ n := by rw [Nat.pow_succ] at h; omega
    obtain ⟨ih, ih2⟩ := st_all n (x / 256) hy
    have hb : x % 256 < 256 := Nat.mod_lt _ (by decide)
    obtain ⟨f1, f2, f3, f4, -⟩ := by_f3 (x % 256) hb
    have ex : x % 256 + 256 * (x / 256) = x := by omega
    have k1 := st1_lane n (x / 256) hb
    have k2 := st2_lane n (st1 n (x / 256)) f1
    have k3 := st3_lane n (st2 n (st1 n (x / 256))) f2 ih2
    rw [ex] at k1
    rw [← k1] at k2
    rw [← k2] at k3
    rw [f4, ih] at k3
    exact ⟨k3, by omega⟩
theorem bs8 (x : Nat) : bs 8 x = popN (x % 256) 8 + 256 * popN (x / 256 % 256) 8 + 65536 * popN (x / 65536 % 256) 8 + 16777216 * popN (x / 16777216 % 256) 8 + 4294967296 * popN (x / 4294967296 % 256) 8 + 1099511627776 * popN (x / 1099511627776 % 256) 8 + 281474976710656 * popN (x / 281474976710656 % 256) 8 + 72057594037927936 * popN (x / 72057594037927936 % 256) 8 := by
  simp only [bs, Nat.div_div_eq_div_mul, Nat.reduceMul]
  omega
theorem bs4 (x : Nat) : bs 4 x = popN (x % 256) 8 + 256 * popN (x / 256 % 256) 8 + 65536 * popN (x / 65536 % 256) 8 + 16777216 * popN (x / 16777216 % 256) 8 := by
  simp only [bs, Nat.div_div_eq_div_mul, Nat.reduceMul]
  omega
theorem popN_byte (x m : Nat) : popN x (8 + m) = popN (x % 256) 8 + popN (x / 256) m := by
  have := popN_lane (x / 256) (Nat.mod_lt x (show 0 < 256 by decide)) m
  rw [show x % 256 + 256 * (x / 256) = x by omega] at this
  exact this
theorem popN_8 {x : Nat} : popN (x % 256) 8 ≤ 8 := (by_f3 (x % 256) (Nat.mod_lt _ (by decide))).2.2.2.2
theorem popN_64 {x : Nat} : popN x 64 = popN (x % 256) 8 + popN (x / 256 % 256) 8 + popN (x / 65536 % 256) 8 + popN (x / 16777216 % 256) 8 + popN (x / 4294967296 % 256) 8 + popN (x / 1099511627776 % 256) 8 + popN (x / 281474976710656 % 256) 8 + popN (x / 72057594037927936 % 256) 8 := by
  have h0 : popN x 64 = popN (x % 256) 8 + popN (x / 256) 56 := popN_byte _ 56
  have h1 : popN (x / 256) 56 = popN ((x / 256) % 256) 8 + popN ((x / 256) / 256) 48 := popN_byte _ 48
  have h2 : popN (x / 256 / 256) 48 = popN ((x / 256 / 256) % 256) 8 + popN ((x / 256 / 256) / 256) 40 := popN_byte _ 40
  have h3 : popN (x / 256 / 256 / 256) 40 = popN ((x / 256 / 256 / 256) % 256) 8 + popN ((x / 256 / 256 / 256) / 256) 32 := popN_byte _ 32
  have h4 : popN (x / 256 / 256 / 256 / 256) 32 = popN ((x / 256 / 256 / 256 / 256) % 256) 8 + popN ((x / 256 / 256 / 256 / 256) / 256) 24 := popN_byte _ 24
  have h5 : popN (x / 256 / 256 / 256 / 256 / 256) 24 = popN ((x / 256 / 256 / 256 / 256 / 256) % 256) 8 + popN ((x / 256 / 256 / 256 / 256 / 256) / 256) 16 := popN_byte _ 16
  have h6 : popN (x / 256 / 256 / 256 / 256 / 256 / 256) 16 = popN ((x / 256 / 256 / 256 / 256 / 256 / 256) % 256) 8 + popN ((x / 256 / 256 / 256 / 256 / 256 / 256) / 256) 8 := popN_byte _ 8
  have h7 : popN (x / 256 / 256 / 256 / 256 / 256 / 256 / 256) 8 = popN ((x / 256 / 256 / 256 / 256 / 256 / 256 / 256) % 256) 8 + popN ((x / 256 / 256 / 256 / 256 / 256 / 256 / 256) / 256) 0 := popN_byte _ 0
  simp only [Nat.div_div_eq_div_mul, Nat.reduceMul] at h0 h1 h2 h3 h4 h5 h6 h7
  have h8 : popN (x / 18446744073709551616) 0 = 0 := rfl
  omega
theorem popN_32 {x : Nat} : popN x 32 = popN (x % 256) 8 + popN (x / 256 % 256) 8 + popN (x / 65536 % 256) 8 + popN (x / 16777216 % 256) 8 := by
  have h0 : popN x 32 = popN (x % 256) 8 + popN (x / 256) 24 := popN_byte _ 24
  have h1 : popN (x / 256) 24 = popN ((x / 256) % 256) 8 + popN ((x / 256) / 256) 16 := popN_byte _ 16
  have h2 : popN (x / 256 / 256) 16 = popN ((x / 256 / 256) % 256) 8 + popN ((x / 256 / 256) / 256) 8 := popN_byte _ 8
  have h3 : popN (x / 256 / 256 / 256) 8 = popN ((x / 256 / 256 / 256) % 256) 8 + popN ((x / 256 / 256 / 256) / 256) 0 := popN_byte _ 0
  simp only [Nat.div_div_eq_div_mul, Nat.reduceMul] at h0 h1 h2 h3
  have h4 : popN (x / 4294967296) 0 = 0 := rfl
  omega
theorem swar64 {x : Nat} (h : x < 2 ^ 64) : ∃ x1 x2 x3, x1 = x - ((x / 2 ^ 1) &&& 6148914691236517205) ∧ x1 < 2 ^ 64 ∧ (x / 2 ^ 1) &&& 6148914691236517205 ≤ x ∧ x2 = (x1 &&& 3689348814741910323) + ((x1 / 2 ^ 2) &&& 3689348814741910323) ∧ x2 < 2 ^ 64 ∧ x3 = (x2 + x2 / 2 ^ 4) &&& 1085102592571150095 ∧ x3 < 2 ^ 60 ∧ (x3 + x3 / 2 ^ 8 + (x3 + x3 / 2 ^ 8) / 2 ^ 16 + (x3 + x3 / 2 ^ 8 + (x3 + x3 / 2 ^ 8) / 2 ^ 16) / 2 ^ 32) % 128 = popN x 64 := by
  have e := (st_all 8 x (by omega)).1
  have m1 : Mk 85 8 = 6148914691236517205 := by decide
  have m2 : Mk 51 8 = 3689348814741910323 := by decide
  have m3 : Mk 15 8 = 1085102592571150095 := by decide
  refine ⟨st1 8 x, st2 8 (st1 8 x), st3 8 (st2 8 (st1 8 x)), by rw [st1, m1], ?_, ?_, by rw [st2, m2], ?_, by rw [st3, m3], ?_, ?_⟩
  · unfold st1; omega
  · exact Nat.le_trans Nat.and_le_left (Nat.div_le_self _ _)
  · unfold st2
    have h1 : st1 8 x &&& Mk 51 8 ≤ Mk 51 8 := Nat.and_le_right
    have h2 : st1 8 x / 4 &&& Mk 51 8 ≤ Mk 51 8 := Nat.and_le_right
    have h3 : Mk 51 8 = 3689348814741910323 := by decide
    omega
  · unfold st3
    have h1 : st2 8 (st1 8 x) + st2 8 (st1 8 x) / 16 &&& Mk 15 8 ≤ Mk 15 8 := Nat.and_le_right
    have h3 : Mk 15 8 = 1085102592571150095 := by decide
    omega
  · rw [e, bs8, popN_64]
    have a0 := popN_8 (x := x)
    have a1 := popN_8 (x := x / 256)
    have a2 := popN_8 (x := x / 65536)
    have a3 := popN_8 (x := x / 16777216)
    have a4 := popN_8 (x := x / 4294967296)
    have a5 := popN_8 (x := x / 1099511627776)
    have a6 := popN_8 (x := x / 281474976710656)
    have a7 := popN_8 (x := x / 72057594037927936)
    generalize popN (x % 256) 8 = p0 at *
    generalize popN (x / 256 % 256) 8 = p1 at *
    generalize popN (x / 65536 % 256) 8 = p2 at *
    generalize popN (x / 16777216 % 256) 8 = p3 at *
    generalize popN (x / 4294967296 % 256) 8 = p4 at *
    generalize popN (x / 1099511627776 % 256) 8 = p5 at *
    generalize popN (x / 281474976710656 % 256) 8 = p6 at *
    generalize popN (x / 72057594037927936 % 256) 8 = p7 at *
    clear e h m1 m2 m3
    obtain ⟨r7, er7⟩ : ∃ r, r = p7 := ⟨_, rfl⟩
    obtain ⟨r6, er6⟩ : ∃ r, r = p6 + 256 * r7 := ⟨_, rfl⟩
    obtain ⟨r5, er5⟩ : ∃ r, r = p5 + 256 * r6 := ⟨_, rfl⟩
    obtain ⟨r4, er4⟩ : ∃ r, r = p4 + 256 * r5 := ⟨_, rfl⟩
    obtain ⟨r3, er3⟩ : ∃ r, r = p3 + 256 * r4 := ⟨_, rfl⟩
    obtain ⟨r2, er2⟩ : ∃ r, r = p2 + 256 * r3 := ⟨_, rfl⟩
    obtain ⟨r1, er1⟩ : ∃ r, r = p1 + 256 * r2 := ⟨_, rfl⟩
    obtain ⟨r0, er0⟩ : ∃ r, r = p0 + 256 * r1 := ⟨_, rfl⟩
    have e3 : p0 + 256 * p1 + 65536 * p2 + 16777216 * p3 + 4294967296 * p4 + 1099511627776 * p5 + 281474976710656 * p6 + 72057594037927936 * p7 = r0 := by omega
    rw [e3]
    have d1 : r0 / 2 ^ 8 = r1 := by omega
    rw [d1]
    clear e3 d1
    obtain ⟨s7, es7⟩ : ∃ s, s = r7 := ⟨_, rfl⟩
    obtain ⟨s6, es6⟩ : ∃ s, s = r6 + r7 := ⟨_, rfl⟩
    obtain ⟨s5, es5⟩ : ∃ s, s = r5 + r6 := ⟨_, rfl⟩
    obtain ⟨s4, es4⟩ : ∃ s, s = r4 + r5 := ⟨_, rfl⟩
    obtain ⟨s3, es3⟩ : ∃ s, s = r3 + r4 := ⟨_, rfl⟩
    obtain ⟨s2, es2⟩ : ∃ s, s = r2 + r3 := ⟨_, rfl⟩
    obtain ⟨s1, es1⟩ : ∃ s, s = r1 + r2 := ⟨_, rfl⟩
    obtain ⟨s0, es0⟩ : ∃ s, s = r0 + r1 := ⟨_, rfl⟩
    have fs0 : s0 = (p0 + p1) + 256 * s1 := by omega
    have fs1 : s1 = (p1 + p2) + 256 * s2 := by omega
    have fs2 : s2 = (p2 + p3) + 256 * s3 := by omega
    have fs3 : s3 = (p3 + p4) + 256 * s4 := by omega
    have fs4 : s4 = (p4 + p5) + 256 * s5 := by omega
    have fs5 : s5 = (p5 + p6) + 256 * s6 := by omega
    have fs6 : s6 = (p6 + p7) + 256 * s7 := by omega
    have gs : s7 = p7 := by omega
    rw [← es0]
    clear er0 er1 er2 er3 er4 er5 er6 er7 es0 es1 es2 es3 es4 es5 es6 es7
    have d2 : s0 / 2 ^ 16 = s2 := by omega
    rw [d2]
    obtain ⟨t7, et7⟩ : ∃ t, t = s7 := ⟨_, rfl⟩
    obtain ⟨t6, et6⟩ : ∃ t, t = s6 := ⟨_, rfl⟩
    obtain ⟨t5, et5⟩ : ∃ t, t = s5 + s7 := ⟨_, rfl⟩
    obtain ⟨t4, et4⟩ : ∃ t, t = s4 + s6 := ⟨_, rfl⟩
    obtain ⟨t3, et3⟩ : ∃ t, t = s3 + s5 := ⟨_, rfl⟩
    obtain ⟨t2, et2⟩ : ∃ t, t = s2 + s4 := ⟨_, rfl⟩
    obtain ⟨t1, et1⟩ : ∃ t, t = s1 + s3 := ⟨_, rfl⟩
    obtain ⟨t0, et0⟩ : ∃ t, t = s0 + s2 := ⟨_, rfl⟩
    have ft0 : t0 = (p0 + p1 + p2 + p3) + 256 * t1 := by omega
    have ft1 : t1 = (p1 + p2 + p3 + p4) + 256 * t2 := by omega
    have ft2 : t2 = (p2 + p3 + p4 + p5) + 256 * t3 := by omega
    have ft3 : t3 = (p3 + p4 + p5 + p6) + 256 * t4 := by omega
    have ft4 : t4 = (p4 + p5 + p6 + p7) + 256 * t5 := by omega
    have ft5 : t5 = (p5 + p6 + p7) + 256 * t6 := by omega
    have ft6 : t6 = (p6 + p7) + 256 * t7 := by omega
    rw [← et0]
    clear fs0 fs1 fs2 fs3 fs4 fs5 fs6 gs d2 et0 et1 et2 et3 et4 et5 et6 et7
    have d3 : t0 / 2 ^ 32 = t4 := by
      have k3 : t3 = (p3 + p4 + p5 + p6) + 256 * t4 := ft3
      omega
    rw [d3]
    clear d3 ft1 ft2 ft3 ft5 ft6
    omega
theorem swar32 {x : Nat} (h : x < 2 ^ 32) : ∃ x1 x2 x3, x1 = x - ((x / 2 ^ 1) &&& 1431655765) ∧ x1 < 2 ^ 32 ∧ (x / 2 ^ 1) &&& 1431655765 ≤ x ∧ x2 = (x1 &&& 858993459) + ((x1 / 2 ^ 2) &&& 858993459) ∧ x2 < 2 ^ 32 ∧ x3 = (x2 + x2 / 2 ^ 4) &&& 252645135 ∧ x3 < 2 ^ 28 ∧ (x3 + x3 / 2 ^ 8 + (x3 + x3 / 2 ^ 8) / 2 ^ 16) % 64 = popN x 32 := by
  have e := (st_all 4 x (by omega)).1
  have m1 : Mk 85 4 = 1431655765 := by decide
  have m2 : Mk 51 4 = 858993459 := by decide
  have m3 : Mk 15 4 = 252645135 := by decide
  refine ⟨st1 4 x, st2 4 (st1 4 x), st3 4 (st2 4 (st1 4 x)), by rw [st1, m1], ?_, ?_, by rw [st2, m2], ?_, by rw [st3, m3], ?_, ?_⟩
  · unfold st1; omega
  · exact Nat.le_trans Nat.and_le_left (Nat.div_le_self _ _)
  · unfold st2
    have h1 : st1 4 x &&& Mk 51 4 ≤ Mk 51 4 := Nat.and_le_right
    have h2 : st1 4 x / 4 &&& Mk 51 4 ≤ Mk 51 4 := Nat.and_le_right
    have h3 : Mk 51 4 = 858993459 := by decide
    omega
  · unfold st3
    have h1 : st2 4 (st1 4 x) + st2 4 (st1 4 x) / 16 &&& Mk 15 4 ≤ Mk 15 4 := Nat.and_le_right
    have h3 : Mk 15 4 = 252645135 := by decide
    omega
  · rw [e, bs4, popN_32]
    have a0 := popN_8 (x := x)
    have a1 := popN_8 (x := x / 256)
    have a2 := popN_8 (x := x / 65536)
    have a3 := popN_8 (x := x / 16777216)
    generalize popN (x % 256) 8 = p0 at *
    generalize popN (x / 256 % 256) 8 = p1 at *
    generalize popN (x / 65536 % 256) 8 = p2 at *
    generalize popN (x / 16777216 % 256) 8 = p3 at *
    clear e h m1 m2 m3
    obtain ⟨r3, er3⟩ : ∃ r, r = p3 := ⟨_, rfl⟩
    obtain ⟨r2, er2⟩ : ∃ r, r = p2 + 256 * r3 := ⟨_, rfl⟩
    obtain ⟨r1, er1⟩ : ∃ r, r = p1 + 256 * r2 := ⟨_, rfl⟩
    obtain ⟨r0, er0⟩ : ∃ r, r = p0 + 256 * r1 := ⟨_, rfl⟩
    have e3 : p0 + 256 * p1 + 65536 * p2 + 16777216 * p3 = r0 := by omega
    rw [e3]
    have d1 : r0 / 2 ^ 8 = r1 := by omega
    rw [d1]
    clear e3 d1
    obtain ⟨s3, es3⟩ : ∃ s, s = r3 := ⟨_, rfl⟩
    obtain ⟨s2, es2⟩ : ∃ s, s = r2 + r3 := ⟨_, rfl⟩
    obtain ⟨s1, es1⟩ : ∃ s, s = r1 + r2 := ⟨_, rfl⟩
    obtain ⟨s0, es0⟩ : ∃ s, s = r0 + r1 := ⟨_, rfl⟩
    have fs0 : s0 = (p0 + p1) + 256 * s1 := by omega
    have fs1 : s1 = (p1 + p2) + 256 * s2 := by omega
    have fs2 : s2 = (p2 + p3) + 256 * s3 := by omega
    have gs : s3 = p3 := by omega
    rw [← es0]
    clear er0 er1 er2 er3 es0 es1 es2 es3
    have d2 : s0 / 2 ^ 16 = s2 := by omega
    rw [d2]
    omega
