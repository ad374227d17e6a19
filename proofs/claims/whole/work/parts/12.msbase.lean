/-! the measure, in Nats -/
def upN (v d : Nat) : Nat := (v + d - 1) / d
def rootN (A B : Nat) : Nat → Nat → Nat
  | 0, x => x
  | n + 1, x => if x * x * B < A then rootN A B n (x + 1) else x
def neededN (kd p q a b : Nat) : Nat := if kd = 0 then p else if kd = 2 then upN (p * (a + b)) (2 * q) else if kd = 3 then rootN (p * p * a * b) (q * q) 3000 0 else if kd = 4 then upN (p * min a b) q else upN (p * (a + b)) (p + q)
def leastN (kd p q a : Nat) : Nat := if kd = 0 then p else if kd = 2 then upN (p * a) (2 * q - p) else if kd = 3 then upN (p * p * a) (q * q) else if kd = 4 then 1 else upN (p * a) q
def aboveN (kd s : Nat) : Nat := if kd = 2 then 2 * s else if kd = 3 then s * s else s
def belowN (kd a b s : Nat) : Nat := if s = 0 then 1 else if kd = 0 then 1 else if kd = 2 then a + b else if kd = 3 then a * b else if kd = 4 then min a b else a + b - s
def limA (kd p : Nat) : Nat := if kd = 3 then p * p else p
def reachN (kd p q a b s : Nat) : Bool := decide (0 < s ∧ limA kd p * belowN kd a b s ≤ aboveN kd s * limA kd q)
def mOk (kd p q : Nat) : Prop := kd ≤ 5 ∧ 1 ≤ p ∧ p ≤ 3000 ∧ 1 ≤ q ∧ q ≤ 1000 ∧ (kd ≠ 0 → p ≤ q)
def msAt (h : AH) (a kd p q : Nat) : Prop := h a = some (oO 1 [.int (nI kd), .int (nI p), .int (nI q)])
theorem mul_bd {x y c e : Nat} (hx : x ≤ c) (hy : y ≤ e) : x * y ≤ c * e := Nat.mul_le_mul hx hy
theorem upN_bd {v d c : Nat} (hd : 0 < d) (h : v ≤ c) : upN v d ≤ c := by
  unfold upN
  rw [Nat.div_le_iff_le_mul_add_pred hd]
  have : c ≤ d * c := Nat.le_mul_of_pos_left c hd
  omega
theorem rootN_bd {A B : Nat} : ∀ {n x : Nat}, rootN A B n x ≤ x + n
  | 0, x => Nat.le_refl _
  | n + 1, x => by
    unfold rootN
    split
    · have := rootN_bd (A := A) (B := B) (n := n) (x := x + 1); omega
    · omega
theorem neededN_bd {kd p q a b : Nat} (hM : mOk kd p q) (ha : a ≤ 3000) (hb : b ≤ 3000) : neededN kd p q a b ≤ 18000000 := by
  obtain ⟨m1, m2, m3, m4, m5, m6⟩ := hM
  have b1 : p * (a + b) ≤ 3000 * 6000 := mul_bd m3 (by omega)
  have b2 : p * min a b ≤ 3000 * 3000 := mul_bd m3 (by omega)
  unfold neededN
  split
  · omega
  · split
    · exact Nat.le_trans (upN_bd (by omega) b1) (by omega)
    · split
      · have := rootN_bd (A := p * p * a * b) (B := q * q) (n := 3000) (x := 0); omega
      · split
        · exact Nat.le_trans (upN_bd (by omega) b2) (by omega)
        · exact Nat.le_trans (upN_bd (by omega) b1) (by omega)
theorem leastN_bd {kd p q a : Nat} (hM : mOk kd p q) (ha : a ≤ 3000) : leastN kd p q a ≤ 3000000000 := by
  obtain ⟨m1, m2, m3, m4, m5, m6⟩ := hM
  have b1 : p * a ≤ 3000 * 3000 := mul_bd m3 ha
  unfold leastN
  split
  · omega
  · rename_i h0
    have hpq := m6 h0
    split
    · exact Nat.le_trans (upN_bd (by omega) b1) (by omega)
    · split
      · have b2 : p * p * a ≤ 1000 * 1000 * 3000 := mul_bd (mul_bd (by omega) (by omega)) ha
        exact Nat.le_trans (upN_bd (Nat.mul_pos (by omega) (by omega)) b2) (by omega)
      · split
        · omega
        · exact Nat.le_trans (upN_bd (by omega) b1) (by omega)
theorem aboveN_bd {kd s : Nat} (hs : s ≤ 3000) : aboveN kd s ≤ 9000000 := by
  unfold aboveN
  have : s * s ≤ 3000 * 3000 := mul_bd hs hs
  split
  · omega
  · split <;> omega
theorem belowN_bd {kd a b s : Nat} (ha : a ≤ 3000) (hb : b ≤ 3000) : belowN kd a b s ≤ 9000000 := by
  unfold belowN
  have : a * b ≤ 3000 * 3000 := mul_bd ha hb
  repeat' split
  all_goals omega
theorem belowN_pos {kd a b s : Nat} (h1 : s ≤ a) (h2 : s ≤ b) : 0 < belowN kd a b s := by
  unfold belowN
  repeat' split
  all_goals first
    | omega
    | (apply Nat.mul_pos <;> omega)
theorem limA_bd {kd p : Nat} (h : p ≤ 3000) : limA kd p ≤ 9000000 := by
  unfold limA
  have : p * p ≤ 3000 * 3000 := mul_bd h h
  split <;> omega
theorem rootN_done {A B x : Nat} (h : A ≤ x * x * B) : ∀ n, rootN A B n x = x
  | 0 => rfl
  | n + 1 => by unfold rootN; rw [if_neg (by omega)]
theorem gcd_go (d r : Nat) : Nat.gcd r (d % r) = Nat.gcd d r := by
  rw [Nat.gcd_comm d r, Nat.gcd_rec r d, Nat.gcd_comm]
theorem euclid_half {d r : Nat} (h : r ≤ d) (hr : 0 < r) : 2 * (r * (d % r)) ≤ d * r := by
  have h1 : d % r < r := Nat.mod_lt _ hr
  have h2 : r * (d / r) + d % r = d := Nat.div_add_mod d r
  have h3 : 1 ≤ d / r := Nat.div_pos h hr
  have h4 : r * 1 ≤ r * (d / r) := Nat.mul_le_mul (Nat.le_refl r) h3
  have h5 : 2 * (d % r) ≤ d := by omega
  calc 2 * (r * (d % r)) = r * (2 * (d % r)) := by rw [Nat.mul_left_comm]
    _ ≤ r * d := Nat.mul_le_mul (Nat.le_refl r) h5
    _ = d * r := Nat.mul_comm r d
