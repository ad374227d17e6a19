/-! Tape: the bytes bf of the first len places; the numbers nf that were found last -/
def tpAt (G : Gd) (h : AH) (t : Nat) (bf nf : Nat → Nat) (len : Nat) : Prop := h t = some (oO 6 [.ref (t + 1), .int (nI len), .ref (t + 2)]) ∧ h (t + 1) = some (aI G 80 bf) ∧ h (t + 2) = some (aI G 30 nf)
def tpOk (bf : Nat → Nat) (len : Nat) : Prop := len ≤ 80 ∧ ∀ j, j < len → bf j < 256
theorem tpAt.kept {G : Gd} {h h' : AH} {t len lo hi : Nat} {bf nf : Nat → Nat} (hT : tpAt G h t bf nf len) (hf : fr lo hi h h') (hd : t + 3 ≤ lo ∨ hi ≤ t) : tpAt G h' t bf nf len :=
  ⟨(hf _ (by omega)).trans hT.1, (hf _ (by omega)).trans hT.2.1, (hf _ (by omega)).trans hT.2.2⟩
/-- the byte of v that a shift by s brings down -/
def byN (v : Int32) (s : Nat) : Nat := v.toBitVec.toNat / 2 ^ s % 256
theorem byN_lt (v : Int32) (s : Nat) : byN v s < 256 := Nat.mod_lt _ (by decide)
def shI (i : Nat) : Int32 := nI 24 - nI (8 * i)
theorem shI_neg : ∀ i, i < 5 → (shI i < 0 ↔ 4 ≤ i) := by decide
theorem shI_step : ∀ i, i < 4 → shI i + Int32.ofInt (-8) = shI (i + 1) := by decide
theorem shI_amt : ∀ i, i < 4 → (((shI i).toUInt32 &&& Int32.toUInt32 31).toBitVec % 32).toNat = 24 - 8 * i := by decide
theorem by_ushr (v : Int32) {i : Nat} (hi : i < 4) : (v.toUInt32 >>> ((shI i).toUInt32 &&& Int32.toUInt32 31)).toInt32 &&& nI 255 = nI (byN v (24 - 8 * i)) := by
  rw [pk_and _ 8 (by decide), pk_ushr v (shI i) (24 - 8 * i) (shI_amt i hi)]
  rfl
theorem nI_or (a b : Nat) : nI a ||| nI b = nI (a ||| b) := by
  apply Int32.toBitVec_inj.mp
  show BitVec.ofNat 32 a ||| BitVec.ofNat 32 b = BitVec.ofNat 32 (a ||| b)
  apply BitVec.eq_of_getLsbD_eq
  intro i hi
  simp [BitVec.getLsbD_or, BitVec.getLsbD_ofNat, hi]
theorem nI_or8 {a b : Nat} (hb : b < 256) : nI (a * 256) ||| nI b = nI (a * 256 + b) := by
  rw [nI_or, show a * 256 = 2 ^ 8 * a by omega, Nat.two_pow_add_eq_or_of_lt hb]
/-- the piece of q bytes that begins at i -/
def pcN (bf : Nat → Nat) (q i : Nat) : Nat := if q = 1 then bf i else bf i * 256 + bf (i + 1)
def accN (bf : Nat → Nat) (i k : Nat) : Nat := if k = 0 then 0 else if k = 1 then bf i else bf i * 256 + bf (i + 1)
theorem accN_step {bf : Nat → Nat} {i k : Nat} (hk : k < 2) : accN bf i k * 256 + bf (i + k) = accN bf i (k + 1) := by
  rcases (show k = 0 ∨ k = 1 by omega) with rfl | rfl
  · simp [accN]
  · simp [accN]
theorem pcN_bd {bf : Nat → Nat} {len q i : Nat} (hO : tpOk bf len) (hq : q = 1 ∨ q = 2) (hi : i + q ≤ len) : pcN bf q i < 65536 := by
  unfold pcN
  have h1 := hO.2 i (by omega)
  split
  · omega
  · have h2 := hO.2 (i + 1) (by omega); omega
/-- how many of the first n pieces are like the one at i -/
def cnL (bf : Nat → Nat) (q i : Nat) : Nat → Nat
  | 0 => 0
  | n + 1 => cnL bf q i n + if pcN bf q n = pcN bf q i then 1 else 0
theorem cnL_le {bf : Nat → Nat} {q i : Nat} : ∀ n, cnL bf q i n ≤ n
  | 0 => Nat.le_refl _
  | n + 1 => by
    have := cnL_le (bf := bf) (q := q) (i := i) n
    unfold cnL; split <;> omega
/-- the numbers of the first n places -/
def tnL (bf : Nat → Nat) (q : Nat) : Nat → List Nat
  | 0 => []
  | n + 1 => tnL bf q n ++ if cnL bf q n n < 8 then [8 * pcN bf q n + cnL bf q n n] else []
theorem tnL_mono {bf : Nat → Nat} {q : Nat} : ∀ {n m : Nat}, n ≤ m → (tnL bf q n).length ≤ (tnL bf q m).length := by
  intro n m h
  induction m with
  | zero => rw [show n = 0 by omega]; exact Nat.le_refl _
  | succ m ih =>
    rcases Nat.lt_or_ge n (m + 1) with r | r
    · have := ih (by omega)
      rw [show tnL bf q (m + 1) = tnL bf q m ++ (if cnL bf q m m < 8 then [8 * pcN bf q m + cnL bf q m m] else []) from rfl, List.length_append]; omega
    · rw [show n = m + 1 by omega]; exact Nat.le_refl _
