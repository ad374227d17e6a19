/-! which records are reached in how many steps -/
def bal (adj : Nat → Nat → Bool) (f : Nat) : Nat → Nat → Prop
  | 0, s => s = f
  | d + 1, s => bal adj f d s ∨ ∃ r, bal adj f d r ∧ adj r s = true
theorem bal_up {adj : Nat → Nat → Bool} {f s d : Nat} (h : bal adj f d s) : bal adj f (d + 1) s := Or.inl h
theorem bal_mono {adj : Nat → Nat → Bool} {f s d e : Nat} (hde : d ≤ e) (h : bal adj f d s) : bal adj f e s := by
  induction e with
  | zero => rw [show d = 0 by omega] at h; exact h
  | succ e ih =>
    rcases Nat.lt_or_ge d (e + 1) with q | q
    · exact Or.inl (ih (by omega))
    · rw [show d = e + 1 by omega] at h; exact h
/-- two records that are a pair, as the model asks it -/
def pE (kd p q : Nat) (W : Nat → Nat) (L : Nat → List Nat) (av : Nat → Bool) (r s : Nat) : Bool := av r && (av s && (decide (r ≠ s) && reachN kd p q (amL W (L r)) (amL W (L s)) (shL W (L r) (L s))))
theorem pE_av {kd p q : Nat} {W : Nat → Nat} {L : Nat → List Nat} {av : Nat → Bool} {r s : Nat} (h : pE kd p q W L av r s = true) : av r = true ∧ av s = true ∧ r ≠ s := by
  unfold pE at h
  rw [Bool.and_eq_true, Bool.and_eq_true, Bool.and_eq_true] at h
  exact ⟨h.1, h.2.1, of_decide_eq_true h.2.2.1⟩
theorem pE_on {kd p q : Nat} {W : Nat → Nat} {L : Nat → List Nat} {av : Nat → Bool} {r s : Nat} (h1 : av r = true) (h2 : av s = true) (h3 : r ≠ s) : pE kd p q W L av r s = reachN kd p q (amL W (L r)) (amL W (L s)) (shL W (L r) (L s)) := by
  unfold pE
  rw [h1, h2, decide_eq_true h3, Bool.true_and, Bool.true_and, Bool.true_and]
def exB (f : Nat → Bool) : Nat → Bool
  | 0 => false
  | n + 1 => exB f n || f n
theorem exB_iff {f : Nat → Bool} : ∀ {n : Nat}, exB f n = true ↔ ∃ j, j < n ∧ f j = true
  | 0 => by simp [exB]
  | n + 1 => by
    unfold exB
    rw [Bool.or_eq_true, exB_iff]
    constructor
    · rintro (⟨j, h1, h2⟩ | h)
      · exact ⟨j, by omega, h2⟩
      · exact ⟨n, by omega, h⟩
    · rintro ⟨j, h1, h2⟩
      rcases Nat.lt_or_ge j n with q | q
      · exact Or.inl ⟨j, q, h2⟩
      · rw [show j = n by omega] at h2; exact Or.inr h2
/-- one round: from all that are d steps away, the first i of them looked at -/
def stp (adj : Nat → Nat → Bool) (fa : Nat → Int32) (d i s : Nat) : Int32 := if fa s = -1 ∧ exB (fun r => decide (fa r = nI d) && adj r s) i = true then nI (d + 1) else fa s
theorem nI_m1 {n : Nat} (h : n < 2 ^ 31) : nI n ≠ -1 := fun e => by
  have := congrArg Int32.toInt e
  rw [nI_toInt h, show (-1 : Int32).toInt = -1 by decide] at this
  omega
theorem stp_0 {adj : Nat → Nat → Bool} {fa : Nat → Int32} {d s : Nat} : stp adj fa d 0 s = fa s := if_neg (fun w => by cases w.2)
theorem stp_eq {adj : Nat → Nat → Bool} {fa : Nat → Int32} {d i s : Nat} (hd : d < 1000) : stp adj fa d i s = nI d ↔ fa s = nI d := by
  unfold stp
  by_cases h : fa s = -1 ∧ exB (fun r => decide (fa r = nI d) && adj r s) i = true
  · rw [if_pos h]
    constructor
    · intro e; rw [nI_eq (by omega) (by omega)] at e; omega
    · intro e; rw [h.1] at e; exact absurd e.symm (nI_m1 (by omega))
  · rw [if_neg h]
theorem stp_no {adj : Nat → Nat → Bool} {fa : Nat → Int32} {d i s : Nat} (h : fa i ≠ nI d ∨ adj i s = false) : stp adj fa d (i + 1) s = stp adj fa d i s := by
  unfold stp
  have e : exB (fun r => decide (fa r = nI d) && adj r s) (i + 1) = exB (fun r => decide (fa r = nI d) && adj r s) i := by
    show (exB _ i || (decide (fa i = nI d) && adj i s)) = _
    have : (decide (fa i = nI d) && adj i s) = false := by
      rcases h with h | h
      · rw [decide_eq_false h, Bool.false_and]
      · rw [h, Bool.and_false]
    rw [this, Bool.or_false]
  rw [e]
theorem stp_set {adj : Nat → Nat → Bool} {fa : Nat → Int32} {d i s : Nat} (h1 : stp adj fa d i s = -1) (h2 : fa i = nI d) (h3 : adj i s = true) (hd : d < 1000) : fa s = -1 ∧ stp adj fa d (i + 1) s = nI (d + 1) := by
  have h0 : fa s = -1 := by
    unfold stp at h1
    by_cases h : fa s = -1 ∧ exB (fun r => decide (fa r = nI d) && adj r s) i = true
    · exact h.1
    · rw [if_neg h] at h1; exact h1
  refine ⟨h0, ?_⟩
  unfold stp
  rw [if_pos ⟨h0, exB_iff.mpr ⟨i, by omega, by rw [decide_eq_true h2, h3]; rfl⟩⟩]
theorem stp_keep {adj : Nat → Nat → Bool} {fa : Nat → Int32} {d i s : Nat} (h1 : stp adj fa d i s ≠ -1) : stp adj fa d (i + 1) s = stp adj fa d i s := by
  unfold stp at h1 ⊢
  by_cases h : fa s = -1 ∧ exB (fun r => decide (fa r = nI d) && adj r s) i = true
  · rw [if_pos h, if_pos ⟨h.1, by
      obtain ⟨j, j1, j2⟩ := exB_iff.mp h.2
      exact exB_iff.mpr ⟨j, by omega, j2⟩⟩]
  · rw [if_neg h] at h1 ⊢
    rw [if_neg (fun w => h1 w.1)]
/-- all that are at most d steps away are found -/
def stOk (adj : Nat → Nat → Bool) (f : Nat) (fa : Nat → Int32) (d : Nat) : Prop := ∀ s, s < 60 → (∃ e, e ≤ d ∧ fa s = nI e ∧ bal adj f e s ∧ ∀ e', e' < e → ¬ bal adj f e' s) ∨ (fa s = -1 ∧ ¬ bal adj f d s)
theorem stOk.next {adj : Nat → Nat → Bool} {f mk : Nat} {fa : Nat → Int32} {d : Nat} (hd : d < 1000) (hmk : mk ≤ 60) (ha : ∀ r s, adj r s = true → r < mk) (h : stOk adj f fa d) : stOk adj f (stp adj fa d mk) (d + 1) := by
  intro s hs
  rcases h s hs with ⟨e, e1, e2, e3, e4⟩ | ⟨e1, e2⟩
  · left
    refine ⟨e, by omega, ?_, e3, e4⟩
    unfold stp
    rw [if_neg (fun w => by rw [e2] at w; exact nI_m1 (by omega) w.1)]
    exact e2
  · by_cases hx : exB (fun r => decide (fa r = nI d) && adj r s) mk = true
    · left
      refine ⟨d + 1, Nat.le_refl _, ?_, ?_, fun e' he' hb => e2 (bal_mono (by omega) hb)⟩
      · unfold stp; rw [if_pos ⟨e1, hx⟩]
      · obtain ⟨r, r1, r2⟩ := exB_iff.mp hx
        rw [Bool.and_eq_true] at r2
        have r3 := of_decide_eq_true r2.1
        rcases h r (by omega) with ⟨e, g1, g2, g3, g4⟩ | ⟨g1, -⟩
        · rw [g2, nI_eq (by omega) (by omega)] at r3
          rw [r3] at g3
          exact Or.inr ⟨r, g3, r2.2⟩
        · rw [g1] at r3; exact absurd r3.symm (nI_m1 (by omega))
    · right
      refine ⟨by unfold stp; rw [if_neg (fun w => hx w.2)]; exact e1, ?_⟩
      rintro (hb | ⟨r, hb, hr⟩)
      · exact e2 hb
      · have hrm := ha r s hr
        rcases h r (by omega) with ⟨e, g1, g2, g3, g4⟩ | ⟨-, g2⟩
        · rcases Nat.lt_or_ge e d with q | q
          · exact e2 (bal_mono (show e + 1 ≤ d by omega) (Or.inr ⟨r, g3, hr⟩))
          · refine hx (exB_iff.mpr ⟨r, hrm, ?_⟩)
            rw [g2, show e = d by omega, decide_eq_true rfl, hr]; rfl
        · exact g2 hb
/-- nothing new was found: all that can be reached are found -/
theorem stOk.end {adj : Nat → Nat → Bool} {f mk : Nat} {fa fb : Nat → Int32} {d : Nat} (hd : d < 1000) (hmk : mk ≤ 60) (ha : ∀ r s, adj r s = true → r < mk) (h1 : stOk adj f fa d) (h2 : stOk adj f fb (d + 1)) (he : ∀ s, s < 60 → fb s = fa s) : ∀ k s, s < 60 → bal adj f k s → bal adj f d s := by
  have key : ∀ s, s < 60 → bal adj f (d + 1) s → bal adj f d s := by
    intro s hs hb
    rcases h2 s hs with ⟨e, e1, e2, e3, e4⟩ | ⟨-, e2⟩
    · rcases h1 s hs with ⟨g, g1, g2, g3, g4⟩ | ⟨g1, -⟩
      · exact bal_mono g1 g3
      · rw [he s hs, g1] at e2; exact absurd e2.symm (nI_m1 (by omega))
    · exact absurd hb e2
  intro k
  induction k with
  | zero => intro s hs hb; exact bal_mono (Nat.zero_le d) hb
  | succ k ih =>
    intro s hs hb
    rcases hb with hb | ⟨r, hb, hr⟩
    · exact ih s hs hb
    · have := ha r s hr
      exact key s hs (Or.inr ⟨r, ih r (by omega) hb, hr⟩)
/-- the distances, when all is done -/
def dOk (adj : Nat → Nat → Bool) (f : Nat) (fa : Nat → Int32) : Prop := ∀ s, s < 60 → (∃ e, e < 1000 ∧ fa s = nI e ∧ bal adj f e s ∧ ∀ e', e' < e → ¬ bal adj f e' s) ∨ (fa s = -1 ∧ ∀ k, ¬ bal adj f k s)
theorem stOk.done {adj : Nat → Nat → Bool} {f : Nat} {fa : Nat → Int32} {d : Nat} (hd : d < 1000) (h : stOk adj f fa d) (hc : ∀ k s, s < 60 → bal adj f k s → bal adj f d s) : dOk adj f fa := by
  intro s hs
  rcases h s hs with ⟨e, e1, e2, e3, e4⟩ | ⟨e1, e2⟩
  · exact Or.inl ⟨e, by omega, e2, e3, e4⟩
  · exact Or.inr ⟨e1, fun k hb => e2 (hc k s hs hb)⟩
def un (fa : Nat → Int32) : Nat := sm (fun s => if fa s = -1 then 1 else 0) 60
theorem sm_lt {f g : Nat → Nat} {k : Nat} : ∀ {n : Nat}, (∀ j, j < n → f j ≤ g j) → k < n → f k < g k → sm f n < sm g n
  | 0, _, h, _ => by omega
  | n + 1, h, hk, hl => by
    rw [sm_s, sm_s]
    have h1 := h n (by omega)
    rcases Nat.lt_or_ge k n with q | q
    · have := sm_lt (n := n) (fun j hj => h j (by omega)) q hl; omega
    · have e : k = n := by omega
      subst e
      have := sm_mono (n := k) (fun j hj => h j (by omega)); omega
theorem un_stp {adj : Nat → Nat → Bool} {fa fb : Nat → Int32} {d i : Nat} (hd : d < 1000) (h : ∀ s, s < 60 → fb s = stp adj fa d i s) : un fb ≤ un fa ∧ ((∃ s, s < 60 ∧ fb s ≠ fa s) → un fb < un fa) := by
  have hp : ∀ s, s < 60 → (if fb s = -1 then 1 else 0) ≤ (if fa s = -1 then 1 else 0) := by
    intro s hs
    rw [h s hs]
    by_cases e : fa s = -1
    · rw [if_pos e]; split <;> omega
    · rw [if_neg e, if_neg (by unfold stp; rw [if_neg (fun w => e w.1)]; exact e)]; exact Nat.le_refl _
  refine ⟨sm_mono hp, ?_⟩
  rintro ⟨s, hs, hne⟩
  refine sm_lt (k := s) hp hs ?_
  show (if fb s = -1 then 1 else 0) < (if fa s = -1 then 1 else 0)
  rw [h s hs] at hne ⊢
  unfold stp at hne ⊢
  by_cases w : fa s = -1 ∧ exB (fun r => decide (fa r = nI d) && adj r s) i = true
  · rw [if_pos w, if_neg (nI_m1 (by omega)), if_pos w.1]; exact Nat.zero_lt_one
  · rw [if_neg w] at hne; exact absurd rfl hne
theorem un_0 {fa : Nat → Int32} {f : Nat} (hf : f < 60) (h : fa f ≠ -1) : un fa < 60 := by
  have : sm (fun s => if fa s = -1 then 1 else 0) 60 < sm (fun _ => 1) 60 := sm_lt (k := f) (fun j _ => by show (if fa j = -1 then 1 else 0) ≤ 1; split <;> omega) hf (by show (if fa f = -1 then 1 else 0) < 1; rw [if_neg h]; omega)
  have e : sm (fun _ => 1) 60 = 60 := by decide
  unfold un
  omega
