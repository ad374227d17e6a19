theorem popN_le (n : Nat) : ∀ k, popN n k ≤ k
  | 0 => Nat.le_refl _
  | k + 1 => by
    have := popN_le n k
    rw [popN_s]; split <;> omega
def gcP (ff : Nat → Nat) (k z : Nat) (h : AH) (ch op be : Nat) : Option Value → Nat → AH → Prop := fun r z' h' => ∃ res, r = some (.long (lN res)) ∧ z' = z ∧ h' = h ∧ res < 2 ^ 60 ∧ bl res = gcl (adjF ff) k (bl ch) (bl op) (bl be)
