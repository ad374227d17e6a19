/-! Overlap: what two sets have in common -/
def hasN (f : Nat → Nat) : Nat → Nat → Bool
  | 0, _ => false
  | n + 1, k => hasN f n k || decide (f n = k)
theorem hasN_iff {f : Nat → Nat} {k : Nat} : ∀ {n : Nat}, hasN f n k = true ↔ ∃ j, j < n ∧ f j = k
  | 0 => by simp [hasN]
  | n + 1 => by
    unfold hasN
    rw [Bool.or_eq_true, hasN_iff, decide_eq_true_iff]
    constructor
    · rintro (⟨j, h1, h2⟩ | h)
      · exact ⟨j, by omega, h2⟩
      · exact ⟨n, by omega, h⟩
    · rintro ⟨j, h1, h2⟩
      rcases Nat.lt_or_ge j n with q | q
      · exact Or.inl ⟨j, q, h2⟩
      · rw [show j = n by omega] at h2; exact Or.inr h2
theorem hasN_no {f : Nat → Nat} {k n : Nat} : hasN f n k = false ↔ ∀ j, j < n → f j ≠ k := by
  rw [← Bool.not_eq_true, hasN_iff]
  constructor
  · intro h j hj e; exact h ⟨j, hj, e⟩
  · rintro h ⟨j, hj, e⟩; exact h j hj e
def shF (kf1 wf1 kf2 : Nat → Nat) (n2 : Nat) : Nat → Nat := fun a => if hasN kf2 n2 (kf1 a) = true then wf1 a else 0
def sbF (kf1 kf2 : Nat → Nat) (bo bp : Nat) : Nat → Nat := fun a => if a < bo ∧ hasN kf2 bp (kf1 a) = true then 1 else 0
theorem sm_tail {f : Nat → Nat} {i n : Nat} (h : i ≤ n) (h0 : ∀ a, i ≤ a → a < n → f a = 0) : sm f n = sm f i := by
  induction n with
  | zero => rw [show i = 0 by omega]
  | succ n ih =>
    rcases Nat.lt_or_ge i (n + 1) with q | q
    · rw [sm_s, h0 n (by omega) (by omega), ih (by omega) (fun a a1 a2 => h0 a a1 (by omega))]; omega
    · rw [show i = n + 1 by omega]
theorem sm_mono {f g : Nat → Nat} : ∀ {n : Nat}, (∀ j, j < n → f j ≤ g j) → sm f n ≤ sm g n
  | 0, _ => Nat.le_refl _
  | n + 1, h => by
    have h1 := sm_mono (n := n) (fun j hj => h j (by omega))
    have h2 := h n (by omega)
    rw [sm_s, sm_s]; omega
/-- the most that both can have, by the place of the first that both have -/
def mbP (kf1 wf1 kf2 wf2 : Nat → Nat) (n1 am1 n2 am2 mb : Nat) : Prop := ((∀ a, a < n1 → hasN kf2 n2 (kf1 a) = false) ∧ mb = 0) ∨ ∃ a0 b0, a0 < n1 ∧ b0 < n2 ∧ kf1 a0 = kf2 b0 ∧ (∀ a, a < a0 → hasN kf2 n2 (kf1 a) = false) ∧ mb = wf1 a0 + min (am1 - sm wf1 (a0 + 1)) (am2 - sm wf2 (b0 + 1))
