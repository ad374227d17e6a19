theorem amL_mem {w : Nat → Nat} {v : Nat} : ∀ {L : List Nat}, v ∈ L → w v ≤ amL w L
  | u :: L, h => by
    rw [amL_cons]
    rcases List.mem_cons.mp h with rfl | h
    · omega
    · have := amL_mem (w := w) h; omega
theorem shL_pos {w : Nat → Nat} {L M : List Nat} (h : 0 < shL w L M) : 0 < amL w M := by
  induction L with
  | nil => simp [shL] at h
  | cons v L ih =>
    unfold shL at h ih
    simp only [List.map_cons, List.sum_cons] at h
    by_cases hv : v ∈ M
    · rw [if_pos hv] at h
      have := amL_mem (w := w) hv
      rcases Nat.eq_zero_or_pos (w v) with q | q
      · exact ih (by omega)
      · omega
    · rw [if_neg hv] at h
      exact ih (by omega)
theorem belowN_pos2 {kd a b s : Nat} (h1 : s ≤ a) (h2 : 0 < s → 0 < b) : 0 < belowN kd a b s := by
  unfold belowN
  by_cases hs : s = 0
  · rw [if_pos hs]; omega
  · have := h2 (by omega)
    rw [if_neg hs]
    repeat' split
    all_goals first
      | omega
      | (apply Nat.mul_pos <;> omega)
def whyR (kd p q : Nat) (W : Nat → Nat) (L M : List Nat) (f : Nat) : Prop := ∃ b c mb, begP W L (leastN kd p q (amL W L)) b ∧ begP W M (leastN kd p q (amL W M)) c ∧ mbL W L M mb ∧ f = fateN kd p q (amL W L) (amL W M) (sbL b c L M) mb (shL W L M)
def likeV (kd p q a b s : Nat) (what : Int32) : Int64 := if what = nI 0 then lN s else if what = nI 1 then lN (neededN kd p q a b) else if what = nI 2 then lN (aboveN kd s / Nat.gcd (belowN kd a b s) (aboveN kd s)) else if what = nI 3 then lN (belowN kd a b s / Nat.gcd (belowN kd a b s) (aboveN kd s)) else if what = nI 4 then (if reachN kd p q a b s = true then lN 1 else lN 0) else -1
theorem likeV_out {kd p q a b s : Nat} {what : Int32} (h : what.toInt < 0 ∨ 4 < what.toInt) : likeV kd p q a b s what = -1 := by
  unfold likeV
  have e : ∀ k, k < 5 → what ≠ nI k := fun k hk e => by
    rw [e, nI_toInt (by omega)] at h; omega
  rw [if_neg (e 0 (by omega)), if_neg (e 1 (by omega)), if_neg (e 2 (by omega)), if_neg (e 3 (by omega)), if_neg (e 4 (by omega))]
