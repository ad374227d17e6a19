/-- the set of what may be no record -/
def sOf (sa : Nat → Option Nat) (r : Int32) : Option Nat := if r.toInt < 0 then none else sa r.toInt.toNat
theorem sOf_nI {sa : Nat → Option Nat} {k : Nat} (hk : k < 2 ^ 31) : sOf sa (nI k) = sa k := by
  unfold sOf
  rw [nI_toInt hk, if_neg (by omega)]
  rfl
theorem sOf_some {sa : Nat → Option Nat} {r : Int32} {q : Nat} (h : sOf sa r = some q) : ∃ k, k < 2 ^ 31 ∧ r = nI k ∧ sa k = some q := by
  unfold sOf at h
  by_cases hr : r.toInt < 0
  · rw [if_pos hr] at h; cases h
  · rw [if_neg hr] at h
    obtain ⟨k, hk, e⟩ := nI_of (x := r) (by rw [i32_lt]; exact hr)
    subst e
    rw [nI_toInt hk] at h
    exact ⟨k, hk, rfl, h⟩
def wtF (kd : Nat) (tn tv : Nat → Nat) (ts : Nat) (k : Nat) : Nat := if kd = 5 then (tget tn tv ts k).getD 1 else 1
def isNumB (v : Int32) : Bool := decide (0 ≤ v.toInt ∧ v.toInt < 1000000)
theorem isNumB_nI {v : Int32} (h : isNumB v = true) : ∃ k, k < 1000000 ∧ v = nI k := by
  have h := of_decide_eq_true h
  obtain ⟨k, hk, e⟩ := nI_of (x := v) (by rw [i32_lt]; show ¬ _ < (0 : Int); omega)
  subst e
  rw [nI_toInt hk] at h
  exact ⟨k, by omega, rfl⟩
/-- how many of the first n are records, and how many numbers they have -/
def cntR (sa : Nat → Option Nat) : Nat → Nat := sm (fun r => if (sa r).isSome = true then 1 else 0)
def cntN (sa : Nat → Option Nat) (L : Nat → List Nat) : Nat → Nat := sm (fun r => if (sa r).isSome = true then (L r).length else 0)
theorem nsR.len {G : Gd} {h : AH} {q : Nat} {F wt : Nat → Nat} {L : List Nat} (hN : nsR G h q F wt L) : L.length ≤ 30 := by
  obtain ⟨-, kf, wf, am, -, b, -⟩ := hN
  exact b.1
