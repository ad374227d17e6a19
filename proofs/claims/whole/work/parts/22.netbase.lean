/-! sets of records as the bits of a Nat -/
def nD (a b : Nat) : Nat := a ^^^ (a &&& b)
theorem nD_bit (a b i : Nat) : (nD a b).testBit i = (a.testBit i && !b.testBit i) := by
  unfold nD
  rw [Nat.testBit_xor, Nat.testBit_and]
  cases a.testBit i <;> cases b.testBit i <;> rfl
theorem nD_lt {a b n : Nat} (h : a < 2 ^ n) : nD a b < 2 ^ n := by
  unfold nD
  exact Nat.xor_lt_two_pow h (Nat.lt_of_le_of_lt Nat.and_le_left h)
theorem lN_nD (a b : Nat) : lN a &&& (lN b ^^^ (-1)) = lN (nD a b) := by
  apply wb_inj
  show BitVec.ofNat 64 a &&& (BitVec.ofNat 64 b ^^^ (-1)) = BitVec.ofNat 64 (nD a b)
  rw [show (-1 : BitVec 64) = BitVec.allOnes 64 by decide]
  apply BitVec.eq_of_getLsbD_eq
  intro i hi
  simp only [BitVec.getLsbD_and, BitVec.getLsbD_xor, BitVec.getLsbD_ofNat, BitVec.getLsbD_allOnes, nD_bit, hi, decide_true, Bool.true_and, Bool.xor_true]
theorem lN_bit {k : Nat} (hk : k < 64) : lN 1 <<< ((nI k).toInt64 &&& 63) = lN (2 ^ k) := by rw [wb_shl 1 hk, Nat.one_mul]
theorem and_bit (n k : Nat) : n &&& 2 ^ k = 0 ↔ n.testBit k = false := by
  constructor
  · intro h
    have h2 : (n &&& 2 ^ k).testBit k = false := by rw [h]; simp
    rw [Nat.testBit_and, Nat.testBit_two_pow_self, Bool.and_true] at h2
    exact h2
  · intro h
    apply Nat.eq_of_testBit_eq
    intro i
    rw [Nat.testBit_and, Nat.testBit_two_pow, Nat.zero_testBit]
    by_cases e : k = i
    · subst e; simp [h]
    · simp [e]
theorem and_bit_le (n k : Nat) : n &&& 2 ^ k ≤ 2 ^ k := Nat.and_le_right
theorem bit_lt {n b i : Nat} (h : n < 2 ^ b) (hi : n.testBit i = true) : i < b := by
  rcases Nat.lt_or_ge i b with q | q
  · exact q
  · rw [Nat.testBit_lt_two_pow (Nat.lt_of_lt_of_le h (Nat.pow_le_pow_right (by decide) q))] at hi
    cases hi
/-- the set bits, ascending -/
def bl (n : Nat) : List Nat := (List.range 60).filter (fun i => n.testBit i)
theorem bl_mem {n i : Nat} : i ∈ bl n ↔ i < 60 ∧ n.testBit i = true := by
  unfold bl
  rw [List.mem_filter, List.mem_range]
theorem popN_s (n k : Nat) : popN n (k + 1) = popN n k + if n.testBit k = true then 1 else 0 := rfl
theorem popN_fil {n : Nat} : ∀ k, popN n k = ((List.range k).filter (fun i => n.testBit i)).length
  | 0 => rfl
  | k + 1 => by
    rw [List.range_succ, List.filter_append, List.length_append, ← popN_fil k, popN_s]
    cases h : n.testBit k <;> simp [h]
theorem popN_more {n b : Nat} (h : n < 2 ^ b) : ∀ k, popN n (b + k) = popN n b
  | 0 => rfl
  | k + 1 => by
    show popN n (b + k) + (if n.testBit (b + k) = true then 1 else 0) = popN n b
    rw [popN_more h k, if_neg]
    · rfl
    · intro hb
      have := bit_lt h hb
      omega
theorem popN_bl {n : Nat} (h : n < 2 ^ 60) : popN n 64 = (bl n).length := by
  rw [show (64 : Nat) = 60 + 4 from rfl, popN_more h 4, popN_fil]
  rfl
theorem bl_and (n m : Nat) : bl (n &&& m) = (bl n).filter (fun i => m.testBit i) := by
  unfold bl
  rw [List.filter_filter]
  apply List.filter_congr
  intro i _
  rw [Nat.testBit_and, Bool.and_comm]
theorem bl_0 : bl 0 = [] := by decide
theorem bl_nil {n : Nat} (h : n < 2 ^ 60) (hb : bl n = []) : n = 0 := by
  apply Nat.eq_of_testBit_eq
  intro i
  rw [Nat.zero_testBit]
  cases hx : n.testBit i with
  | false => rfl
  | true =>
    have : i ∈ bl n := bl_mem.mpr ⟨bit_lt h hx, hx⟩
    rw [hb] at this
    cases this
/-- the lowest bit -/
theorem low_form : ∀ n : Nat, 0 < n → ∃ i m, n = 2 ^ i * (2 * m + 1) := by
  intro n
  induction n using Nat.strongRecOn with
  | _ n ih =>
    intro hn
    rcases Nat.mod_two_eq_zero_or_one n with h | h
    · obtain ⟨i, m, e⟩ := ih (n / 2) (by omega) (by omega)
      refine ⟨i + 1, m, ?_⟩
      rw [Nat.pow_succ, Nat.mul_comm (2 ^ i) 2, Nat.mul_assoc, ← e]; omega
    · exact ⟨0, n / 2, by rw [Nat.pow_zero, Nat.one_mul]; omega⟩
theorem odd_bit (i m j : Nat) : (2 ^ i * (2 * m + 1)).testBit j = (if j < i then false else if j = i then true else m.testBit (j - i - 1)) := by
  rw [Nat.testBit_two_pow_mul]
  by_cases h : j < i
  · rw [if_pos h]; simp; omega
  · rw [if_neg h]
    by_cases h2 : j = i
    · subst h2; simp [Nat.testBit_zero]
    · rw [if_neg h2]
      obtain ⟨k, hk⟩ : ∃ k, j - i = k + 1 := ⟨j - i - 1, by omega⟩
      rw [hk, Nat.testBit_succ, show (2 * m + 1) / 2 = m by omega, show k + 1 - 1 = k by omega]
      simp; omega
theorem odd_pred (i m j : Nat) : (2 ^ i * (2 * m + 1) - 1).testBit j = (if j < i then true else if j = i then false else m.testBit (j - i - 1)) := by
  have hp : 0 < 2 ^ i := Nat.two_pow_pos i
  have e : 2 ^ i * (2 * m + 1) - 1 = 2 ^ i * (2 * m) + (2 ^ i - 1) := by rw [Nat.mul_add]; omega
  rw [e, Nat.testBit_two_pow_mul_add (2 * m) (show 2 ^ i - 1 < 2 ^ i by omega) j]
  by_cases h : j < i
  · rw [if_pos h, if_pos h, Nat.testBit_two_pow_sub_one]; simp [h]
  · rw [if_neg h, if_neg h]
    by_cases h2 : j = i
    · subst h2; simp [Nat.testBit_zero]
    · rw [if_neg h2]
      obtain ⟨k, hk⟩ : ∃ k, j - i = k + 1 := ⟨j - i - 1, by omega⟩
      rw [hk, Nat.testBit_succ, show 2 * m / 2 = m by omega, show k + 1 - 1 = k by omega]
theorem low_and (i m : Nat) : 2 ^ i * (2 * m + 1) &&& (2 ^ i * (2 * m + 1) - 1) = 2 ^ i * (2 * m) := by
  apply Nat.eq_of_testBit_eq
  intro j
  rw [Nat.testBit_and, odd_bit, odd_pred, Nat.testBit_two_pow_mul]
  by_cases h : j < i
  · rw [if_pos h]; simp; omega
  · rw [if_neg h, if_neg h]
    by_cases h2 : j = i
    · subst h2; simp [Nat.testBit_zero]
    · rw [if_neg h2, if_neg h2]
      obtain ⟨k, hk⟩ : ∃ k, j - i = k + 1 := ⟨j - i - 1, by omega⟩
      rw [hk, Nat.testBit_succ, show 2 * m / 2 = m by omega, show k + 1 - 1 = k by omega]
      simp; intro _; omega
theorem low_neg (i m : Nat) (h : 2 ^ i * (2 * m + 1) < 2 ^ 64) : lN (2 ^ i * (2 * m + 1)) &&& -lN (2 ^ i * (2 * m + 1)) = lN (2 ^ i) := by
  have hp : 0 < 2 ^ i * (2 * m + 1) := Nat.mul_pos (Nat.two_pow_pos i) (by omega)
  have hneg : -lN (2 ^ i * (2 * m + 1)) = lN (2 ^ 64 - ((2 ^ i * (2 * m + 1) - 1) + 1)) := by
    apply wb_inj
    show -(BitVec.ofNat 64 (2 ^ i * (2 * m + 1))) = BitVec.ofNat 64 _
    apply BitVec.eq_of_toNat_eq
    rw [BitVec.toNat_neg, BitVec.toNat_ofNat, BitVec.toNat_ofNat, Nat.mod_eq_of_lt h, show 2 ^ i * (2 * m + 1) - 1 + 1 = 2 ^ i * (2 * m + 1) by omega]
  rw [hneg, lN_and]
  congr 1
  apply Nat.eq_of_testBit_eq
  intro j
  rw [Nat.testBit_and, Nat.testBit_two_pow_sub_succ (by omega), odd_pred, odd_bit, Nat.testBit_two_pow]
  by_cases h1 : j < i
  · rw [if_pos h1]; simp; omega
  · rw [if_neg h1, if_neg h1]
    by_cases h2 : j = i
    · subst h2
      have : j < 64 := by
        rcases Nat.lt_or_ge j 64 with q | q
        · exact q
        · have h3 : 2 ^ 64 ≤ 2 ^ j := Nat.pow_le_pow_right (by decide) q
          have h4 : 2 ^ j * 1 ≤ 2 ^ j * (2 * m + 1) := Nat.mul_le_mul (Nat.le_refl _) (by omega)
          omega
      simp [this]
    · rw [if_neg h2, if_neg h2]
      cases m.testBit (j - i - 1) <;> simp <;> omega
theorem popN_ones {i : Nat} (h : i ≤ 60) : popN (2 ^ i - 1) 64 = i := by
  have e : ∀ k, popN (2 ^ i - 1) k = min k i := by
    intro k
    induction k with
    | zero => simp [popN]
    | succ k ih =>
      rw [popN_s, ih, Nat.testBit_two_pow_sub_one]
      by_cases hk : k < i
      · simp [hk]; omega
      · simp [hk]; omega
  rw [e]; omega
theorem bl_low (i m : Nat) (h : 2 ^ i * (2 * m + 1) < 2 ^ 60) : bl (2 ^ i * (2 * m + 1)) = i :: bl (2 ^ i * (2 * m)) := by
  have hi : i < 60 := bit_lt h (by rw [odd_bit, if_neg (by omega), if_pos rfl])
  have key : ∀ k, i < k → (List.range k).filter (fun j => (2 ^ i * (2 * m + 1)).testBit j) = i :: (List.range k).filter (fun j => (2 ^ i * (2 * m)).testBit j) := by
    intro k
    induction k with
    | zero => omega
    | succ k ih =>
      intro hk
      rw [List.range_succ, List.filter_append, List.filter_append]
      have eb : (2 ^ i * (2 * m)).testBit k = (if k ≤ i then false else m.testBit (k - i - 1)) := by
        rw [Nat.testBit_two_pow_mul]
        by_cases q : k ≤ i
        · rw [if_pos q]
          rcases Nat.lt_or_ge k i with r | r
          · simp; omega
          · rw [show k = i by omega]; simp [Nat.testBit_zero]
        · rw [if_neg q]
          obtain ⟨x, hx⟩ : ∃ x, k - i = x + 1 := ⟨k - i - 1, by omega⟩
          rw [hx, Nat.testBit_succ, show 2 * m / 2 = m by omega, show x + 1 - 1 = x by omega]
          simp; omega
      rcases Nat.lt_or_ge i k with q | q
      · rw [ih q]
        have ea := odd_bit i m k
        rw [if_neg (by omega), if_neg (by omega)] at ea
        rw [if_neg (by omega)] at eb
        simp only [List.filter, ea, eb, List.cons_append]
      · have hk2 : k = i := by omega
        subst hk2
        have z1 : (List.range k).filter (fun j => (2 ^ k * (2 * m + 1)).testBit j) = [] := by
          rw [List.filter_eq_nil_iff]
          intro j hj
          rw [odd_bit, if_pos (List.mem_range.mp hj)]; decide
        have z2 : (List.range k).filter (fun j => (2 ^ k * (2 * m)).testBit j) = [] := by
          rw [List.filter_eq_nil_iff]
          intro j hj
          rw [Nat.testBit_two_pow_mul]; have := List.mem_range.mp hj; simp; omega
        rw [z1, z2]
        rw [if_pos (by omega)] at eb
        simp [odd_bit, eb]
  exact key 60 hi
