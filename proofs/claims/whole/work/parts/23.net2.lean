/-! Net -/
theorem asc_ext : ∀ {l1 l2 : List Nat}, l1.Pairwise (· < ·) → l2.Pairwise (· < ·) → (∀ x, x ∈ l1 ↔ x ∈ l2) → l1 = l2
  | [], [], _, _, _ => rfl
  | [], b :: l2, _, _, h => absurd ((h b).mpr List.mem_cons_self) List.not_mem_nil
  | a :: l1, [], _, _, h => absurd ((h a).mp List.mem_cons_self) List.not_mem_nil
  | a :: l1, b :: l2, h1, h2, h => by
    rw [List.pairwise_cons] at h1 h2
    have hab : a = b := by
      rcases List.mem_cons.mp ((h a).mp List.mem_cons_self) with q | q
      · exact q
      · rcases List.mem_cons.mp ((h b).mpr List.mem_cons_self) with r | r
        · exact r.symm
        · have := h2.1 a q; have := h1.1 b r; omega
    subst hab
    congr 1
    refine asc_ext h1.2 h2.2 (fun x => ?_)
    constructor
    · intro hx
      rcases List.mem_cons.mp ((h x).mp (List.mem_cons_of_mem _ hx)) with q | q
      · have := h1.1 x hx; omega
      · exact q
    · intro hx
      rcases List.mem_cons.mp ((h x).mpr (List.mem_cons_of_mem _ hx)) with q | q
      · have := h2.1 x hx; omega
      · exact q
theorem bl_asc (n : Nat) : (bl n).Pairwise (· < ·) := List.Pairwise.filter _ List.pairwise_lt_range
theorem bl_or_high {n r : Nat} (hr : r < 60) (h : ∀ i, i ∈ bl n → i < r) : bl (n ||| 2 ^ r) = bl n ++ [r] := by
  refine asc_ext (bl_asc _) (List.pairwise_append.mpr ⟨bl_asc n, List.pairwise_singleton _ _, fun a ha b hb => by rw [List.mem_singleton.mp hb]; exact h a ha⟩) (fun x => ?_)
  rw [bl_mem, List.mem_append, bl_mem, List.mem_singleton, Nat.testBit_or, Nat.testBit_two_pow]
  constructor
  · rintro ⟨h1, h2⟩
    rcases Bool.or_eq_true _ _ |>.mp h2 with q | q
    · exact Or.inl ⟨h1, q⟩
    · exact Or.inr (of_decide_eq_true q).symm
  · rintro (⟨h1, h2⟩ | rfl)
    · exact ⟨h1, by rw [h2]; rfl⟩
    · exact ⟨hr, by simp⟩
def ntAt (G : Gd) (h : AH) (a : Nat) (ff : Nat → Nat) (fg : Nat) : Prop := h a = some (oO 2 [.ref (a + 1), .long (lN fg)]) ∧ h (a + 1) = some (aJ G 60 ff)
def ntOk (ff : Nat → Nat) (fg : Nat) : Prop := (∀ j, j < 60 → ff j < 2 ^ 60) ∧ fg < 2 ^ 60
theorem ntAt.kept {G : Gd} {h h' : AH} {a fg lo hi : Nat} {ff : Nat → Nat} (hT : ntAt G h a ff fg) (hf : fr lo hi h h') (hd : a + 2 ≤ lo ∨ hi ≤ a) : ntAt G h' a ff fg := ⟨(hf _ (by omega)).trans hT.1, (hf _ (by omega)).trans hT.2⟩
theorem pow_lt60 {r : Nat} (h : r < 60) : 2 ^ r < 2 ^ 60 := Nat.pow_lt_pow_right (by decide) h
/-- all friends of the records in n, the first k of them looked at -/
def foN (ff : Nat → Nat) (n : Nat) : Nat → Nat
  | 0 => 0
  | k + 1 => if n.testBit k = true then foN ff n k ||| ff k else foN ff n k
theorem foN_bd {ff : Nat → Nat} {n b : Nat} : ∀ {k : Nat}, (∀ j, j < k → ff j < 2 ^ b) → foN ff n k < 2 ^ b
  | 0, _ => Nat.two_pow_pos b
  | k + 1, h => by
    have ih := foN_bd (ff := ff) (n := n) (k := k) (fun j hj => h j (by omega))
    unfold foN
    split
    · exact Nat.or_lt_two_pow ih (h k (by omega))
    · exact ih
theorem foN_bit {ff : Nat → Nat} {n i : Nat} : ∀ {k : Nat}, (foN ff n k).testBit i = true ↔ ∃ j, j < k ∧ n.testBit j = true ∧ (ff j).testBit i = true
  | 0 => by simp [foN]
  | k + 1 => by
    have e : foN ff n (k + 1) = if n.testBit k = true then foN ff n k ||| ff k else foN ff n k := rfl
    rw [e]
    constructor
    · intro h
      by_cases hk : n.testBit k = true
      · rw [if_pos hk, Nat.testBit_or, Bool.or_eq_true] at h
        rcases h with h | h
        · obtain ⟨j, a, b⟩ := foN_bit.mp h
          exact ⟨j, by omega, b⟩
        · exact ⟨k, by omega, hk, h⟩
      · rw [if_neg hk] at h
        obtain ⟨j, a, b⟩ := foN_bit.mp h
        exact ⟨j, by omega, b⟩
    · rintro ⟨j, h1, h2, h3⟩
      rcases Nat.lt_or_ge j k with q | q
      · have := foN_bit.mpr ⟨j, q, h2, h3⟩
        by_cases hk : n.testBit k = true
        · rw [if_pos hk, Nat.testBit_or, this]; rfl
        · rw [if_neg hk]; exact this
      · rw [show j = k by omega] at h2 h3
        rw [if_pos h2, Nat.testBit_or, h3, Bool.or_true]
abbrev fo (ff : Nat → Nat) (n : Nat) : Nat := foN ff n 60
/-- the records reached, edge by edge -/
def famN (ff : Nat → Nat) : Nat → Nat → Nat → Nat
  | 0, fam, _ => fam
  | k + 1, fam, ed => if ed = 0 then fam else famN ff k (fam ||| nD (fo ff ed) fam) (nD (fo ff ed) fam)
theorem famN_bd {ff : Nat → Nat} (hf : ∀ j, j < 60 → ff j < 2 ^ 60) : ∀ {k fam ed : Nat}, fam < 2 ^ 60 → famN ff k fam ed < 2 ^ 60
  | 0, _, _, h => h
  | k + 1, fam, ed, h => by
    unfold famN
    split
    · exact h
    · exact famN_bd hf (Nat.or_lt_two_pow h (nD_lt (foN_bd hf)))
def stpN (ff : Nat → Nat) (r : Nat) : Nat → Nat → Nat → Nat → Option Nat
  | 0, _, _, _ => none
  | k + 1, t, seen, ed => if ed = 0 then none else if ed.testBit r = true then some t else stpN ff r k (t + 1) (seen ||| nD (fo ff ed) seen) (nD (fo ff ed) seen)
def optI : Option Nat → Int32
  | none => -1
  | some n => nI n
def itN (ff : Nat → Nat) : Nat → Nat → Nat
  | 0, n => n
  | k + 1, n => fo ff (itN ff k n)
theorem itN_bd {ff : Nat → Nat} (hf : ∀ j, j < 60 → ff j < 2 ^ 60) {n : Nat} (hn : n < 2 ^ 60) : ∀ k, itN ff k n < 2 ^ 60
  | 0 => hn
  | _ + 1 => foN_bd hf
def leastP (n : Nat) (x : Int32) : Prop := (n = 0 ∧ x = -1) ∨ ∃ i m, n = 2 ^ i * (2 * m + 1) ∧ i < 60 ∧ x = nI i
/-! the greatest core, over lists -/
def pickL (ch best : List Nat) : List Nat := if best.length < ch.length then ch else best
def gloop (f : List Nat → List Nat → List Nat → List Nat) (adj : Nat → Nat → Bool) (ch : List Nat) : List Nat → List Nat → List Nat
  | [], best => best
  | r :: rest, best => if ch.length + (rest.length + 1) ≤ best.length then best else gloop f adj ch rest (f (ch ++ [r]) (rest.filter (adj r)) best)
def gcl (adj : Nat → Nat → Bool) : Nat → List Nat → List Nat → List Nat → List Nat
  | 0, ch, _, best => pickL ch best
  | d + 1, ch, op, best => gloop (gcl adj d) adj ch op (pickL ch best)
def adjF (ff : Nat → Nat) : Nat → Nat → Bool := fun r j => (ff r).testBit j
