/-! the net's levels (class, over bits) and the model's (over distances) agree -/
theorem bal_cons {adj : Nat → Nat → Bool} {f g s : Nat} : ∀ {d : Nat}, adj f g = true → bal adj g d s → bal adj f (d + 1) s
  | 0, h, hb => by
    have hb : s = g := hb
    subst hb
    exact Or.inr ⟨f, rfl, h⟩
  | d + 1, h, hb => by
    rcases hb with hb | ⟨r, hb, hr⟩
    · exact Or.inl (bal_cons h hb)
    · exact Or.inr ⟨r, bal_cons h hb, hr⟩
theorem bal_symm {adj : Nat → Nat → Bool} (hs : ∀ r s, adj r s = adj s r) {f s : Nat} : ∀ {d : Nat}, bal adj f d s → bal adj s d f
  | 0, h => by
    have h : s = f := h
    subst h
    rfl
  | d + 1, h => by
    rcases h with h | ⟨r, h, hr⟩
    · exact Or.inl (bal_symm hs h)
    · exact bal_cons (by rw [hs]; exact hr) (bal_symm hs h)
theorem bal_trans {adj : Nat → Nat → Bool} {f g s d : Nat} (h1 : bal adj f d g) : ∀ {e : Nat}, bal adj g e s → bal adj f (d + e) s
  | 0, h => by
    have h : s = g := h
    subst h
    exact h1
  | e + 1, h => by
    rcases h with h | ⟨r, h, hr⟩
    · exact Or.inl (bal_trans h1 h)
    · exact Or.inr ⟨r, bal_trans h1 h, hr⟩
/-- seen: all within t steps of f; ed: those at t steps and no fewer -/
def lev (adj : Nat → Nat → Bool) (f t seen ed : Nat) : Prop := (∀ s, seen.testBit s = true ↔ bal adj f t s) ∧ ∀ s, ed.testBit s = true ↔ (bal adj f t s ∧ ∀ e, e < t → ¬ bal adj f e s)
theorem lev_0 (adj : Nat → Nat → Bool) (f : Nat) : lev adj f 0 (2 ^ f) (2 ^ f) := by
  have h : ∀ s, (2 ^ f).testBit s = true ↔ bal adj f 0 s := fun s => by
    rw [Nat.testBit_two_pow]
    constructor
    · intro h; exact (of_decide_eq_true h).symm
    · intro h; exact decide_eq_true (Eq.symm h)
  exact ⟨h, fun s => (h s).trans ⟨fun w => ⟨w, fun e he => by omega⟩, fun w => w.1⟩⟩
section LV
variable {adj : Nat → Nat → Bool} {ff : Nat → Nat} {f : Nat}
theorem fo_bit (hff : ∀ r s, (ff r).testBit s = adj r s) (hb : ∀ r s, adj r s = true → r < 60) (n i : Nat) : (fo ff n).testBit i = true ↔ ∃ j, n.testBit j = true ∧ adj j i = true := by
  rw [foN_bit]
  constructor
  · rintro ⟨j, -, h1, h2⟩
    exact ⟨j, h1, by rw [← hff]; exact h2⟩
  · rintro ⟨j, h1, h2⟩
    exact ⟨j, hb j i h2, h1, by rw [hff]; exact h2⟩
theorem lev_s (hff : ∀ r s, (ff r).testBit s = adj r s) (hb : ∀ r s, adj r s = true → r < 60) {t seen ed : Nat} (h : lev adj f t seen ed) : lev adj f (t + 1) (seen ||| nD (fo ff ed) seen) (nD (fo ff ed) seen) := by
  have key : ∀ s, (nD (fo ff ed) seen).testBit s = true ↔ (bal adj f (t + 1) s ∧ ∀ e, e < t + 1 → ¬ bal adj f e s) := by
    intro s
    rw [nD_bit, Bool.and_eq_true, fo_bit hff hb]
    constructor
    · rintro ⟨⟨j, h1, h2⟩, h3⟩
      have h4 : ¬ bal adj f t s := fun w => by rw [(h.1 s).mpr w] at h3; cases h3
      exact ⟨Or.inr ⟨j, ((h.2 j).mp h1).1, h2⟩, fun e he w => h4 (bal_mono (by omega) w)⟩
    · rintro ⟨h1, h2⟩
      have h4 : ¬ bal adj f t s := h2 t (by omega)
      refine ⟨?_, ?_⟩
      · rcases h1 with h1 | ⟨r, h1, hr⟩
        · exact absurd h1 h4
        · exact ⟨r, (h.2 r).mpr ⟨h1, fun e he w => h4 (bal_mono (d := e + 1) (by omega) (Or.inr ⟨r, w, hr⟩))⟩, hr⟩
      · cases hq : seen.testBit s with
        | false => rfl
        | true => exact absurd ((h.1 s).mp hq) h4
  refine ⟨fun s => ?_, key⟩
  rw [Nat.testBit_or, Bool.or_eq_true, key s, h.1 s]
  constructor
  · rintro (w | w)
    · exact Or.inl w
    · exact w.1
  · intro w
    by_cases w2 : bal adj f t s
    · exact Or.inl w2
    · exact Or.inr ⟨w, fun e he w3 => w2 (bal_mono (by omega) w3)⟩
theorem lev_end (hff : ∀ r s, (ff r).testBit s = adj r s) (hb : ∀ r s, adj r s = true → r < 60) {t seen : Nat} (h : lev adj f t seen 0) : ∀ d s, bal adj f d s → bal adj f t s := by
  have h1 : ∀ s, bal adj f (t + 1) s → bal adj f t s := fun s w => by
    rcases w with w | ⟨r, w, hr⟩
    · exact w
    · by_cases w2 : bal adj f t s
      · exact w2
      · exfalso
        have h3 := (h.2 r).mpr ⟨w, fun e he w3 => w2 (bal_mono (d := e + 1) (by omega) (Or.inr ⟨r, w3, hr⟩))⟩
        rw [Nat.zero_testBit] at h3
        cases h3
  intro d
  induction d with
  | zero => exact fun s w => bal_mono (Nat.zero_le _) w
  | succ d ih =>
    rintro s (w | ⟨r, w, hr⟩)
    · exact ih s w
    · exact h1 s (Or.inr ⟨r, ih r w, hr⟩)
def cnt60 (n : Nat) : Nat := sm (fun s => if n.testBit s = true then 1 else 0) 60
theorem cnt60_le (n : Nat) : cnt60 n ≤ 60 := by
  have := sm_bd (f := fun s => if n.testBit s = true then 1 else 0) (c := 1) (n := 60) (fun j _ => by split <;> omega)
  unfold cnt60
  omega
theorem cnt60_up {n m : Nat} (hm : m ≠ 0) (hm60 : m < 2 ^ 60) (hd : ∀ s, m.testBit s = true → n.testBit s = false) : cnt60 n < cnt60 (n ||| m) := by
  obtain ⟨s, hs⟩ := Nat.exists_testBit_of_ne_zero hm
  have hs60 : s < 60 := by
    apply Nat.lt_of_not_le
    intro h9
    rw [Nat.testBit_lt_two_pow (Nat.lt_of_lt_of_le hm60 (Nat.pow_le_pow_right (by omega) h9))] at hs
    cases hs
  refine sm_lt (k := s) (fun j _ => ?_) hs60 ?_
  · rw [Nat.testBit_or]
    cases n.testBit j <;> cases m.testBit j <;> simp
  · rw [Nat.testBit_or, hd s hs, hs]
    simp
theorem nD_dis (a b s : Nat) (h : (nD a b).testBit s = true) : b.testBit s = false := by
  rw [nD_bit, Bool.and_eq_true] at h
  cases hq : b.testBit s with
  | false => rfl
  | true => rw [hq] at h; cases h.2
theorem fam_go (hff : ∀ r s, (ff r).testBit s = adj r s) (hb : ∀ r s, adj r s = true → r < 60) (h60 : ∀ j, j < 60 → ff j < 2 ^ 60) : ∀ (k t fam ed : Nat), lev adj f t fam ed → (ed ≠ 0 → t + 1 ≤ cnt60 fam) → k + t = 60 → ∀ s, (famN ff k fam ed).testBit s = true ↔ ∃ d, bal adj f d s
  | 0, t, fam, ed, h1, h2, h3, s => by
    have he : ed = 0 := by
      apply Classical.byContradiction
      intro w
      have := h2 w
      have := cnt60_le fam
      omega
    subst he
    unfold famN
    rw [h1.1 s]
    exact ⟨fun w => ⟨t, w⟩, fun ⟨d, w⟩ => lev_end hff hb h1 d s w⟩
  | k + 1, t, fam, ed, h1, h2, h3, s => by
    unfold famN
    by_cases he : ed = 0
    · rw [if_pos he]
      subst he
      rw [h1.1 s]
      exact ⟨fun w => ⟨t, w⟩, fun ⟨d, w⟩ => lev_end hff hb h1 d s w⟩
    · rw [if_neg he]
      exact fam_go hff hb h60 k (t + 1) _ _ (lev_s hff hb h1) (fun w => by
        have h4 := h2 he
        have h5 := cnt60_up (n := fam) w (nD_lt (foN_bd h60)) (nD_dis _ _)
        omega) (by omega) s
theorem stp_go (hff : ∀ r s, (ff r).testBit s = adj r s) (hb : ∀ r s, adj r s = true → r < 60) (h60 : ∀ j, j < 60 → ff j < 2 ^ 60) {r : Nat} : ∀ (k t seen ed : Nat), lev adj f t seen ed → (ed ≠ 0 → t + 1 ≤ cnt60 seen) → k + t = 60 → (∀ e, e < t → ¬ bal adj f e r) →
    (∃ n, stpN ff r k t seen ed = some n ∧ bal adj f n r ∧ ∀ e, e < n → ¬ bal adj f e r) ∨ (stpN ff r k t seen ed = none ∧ ∀ d, ¬ bal adj f d r) := by
  have no : ∀ {t seen : Nat}, lev adj f t seen 0 → (∀ e, e < t → ¬ bal adj f e r) → ∀ d, ¬ bal adj f d r := fun {t seen} h1 h4 d w => by
    have h5 := (h1.2 r).mpr ⟨lev_end hff hb h1 d r w, h4⟩
    rw [Nat.zero_testBit] at h5
    cases h5
  intro k
  induction k with
  | zero =>
    intro t seen ed h1 h2 h3 h4
    have he : ed = 0 := by
      apply Classical.byContradiction
      intro w
      have := h2 w
      have := cnt60_le seen
      omega
    subst he
    exact Or.inr ⟨rfl, no h1 h4⟩
  | succ k ih =>
    intro t seen ed h1 h2 h3 h4
    unfold stpN
    by_cases he : ed = 0
    · rw [if_pos he]
      subst he
      exact Or.inr ⟨rfl, no h1 h4⟩
    · rw [if_neg he]
      by_cases hr : ed.testBit r = true
      · rw [if_pos hr]
        exact Or.inl ⟨t, rfl, ((h1.2 r).mp hr).1, h4⟩
      · rw [if_neg hr]
        exact ih (t + 1) _ _ (lev_s hff hb h1) (fun w => by
          have h5 := h2 he
          have h6 := cnt60_up (n := seen) w (nD_lt (foN_bd h60)) (nD_dis _ _)
          omega) (by omega) (fun e he2 w => by
          rcases Nat.lt_or_ge e t with h7 | h7
          · exact h4 e h7 w
          · have h8 : e = t := by omega
            subst h8
            exact hr ((h1.2 r).mpr ⟨w, h4⟩))
theorem cnt60_1 (hf : f < 60) : 0 + 1 ≤ cnt60 (2 ^ f) := by
  have h := sm_lt (f := fun _ => 0) (g := fun s => if (2 ^ f).testBit s = true then 1 else 0) (k := f) (n := 60) (fun j _ => Nat.zero_le _) hf (by simp)
  unfold cnt60
  omega
theorem fam_bit (hff : ∀ r s, (ff r).testBit s = adj r s) (hb : ∀ r s, adj r s = true → r < 60) (h60 : ∀ j, j < 60 → ff j < 2 ^ 60) (hf : f < 60) (s : Nat) : (famN ff 60 (2 ^ f) (2 ^ f)).testBit s = true ↔ ∃ d, bal adj f d s :=
  fam_go hff hb h60 60 0 _ _ (lev_0 adj f) (fun _ => cnt60_1 hf) rfl s
theorem stp_dist (hff : ∀ r s, (ff r).testBit s = adj r s) (hb : ∀ r s, adj r s = true → r < 60) (h60 : ∀ j, j < 60 → ff j < 2 ^ 60) (hf : f < 60) (r : Nat) : (∃ n, stpN ff r 60 0 (2 ^ f) (2 ^ f) = some n ∧ bal adj f n r ∧ ∀ e, e < n → ¬ bal adj f e r) ∨ (stpN ff r 60 0 (2 ^ f) (2 ^ f) = none ∧ ∀ d, ¬ bal adj f d r) :=
  stp_go hff hb h60 60 0 _ _ (lev_0 adj f) (fun _ => cnt60_1 hf) rfl (fun e he => by omega)
theorem it_bal (hff : ∀ r s, (ff r).testBit s = adj r s) (hb : ∀ r s, adj r s = true → r < 60) : ∀ (k s : Nat), (itN ff k (2 ^ f)).testBit s = true → bal adj f k s
  | 0, s, h => by
    have h : (2 ^ f).testBit s = true := h
    rw [Nat.testBit_two_pow] at h
    exact (of_decide_eq_true h).symm
  | k + 1, s, h => by
    obtain ⟨j, h1, h2⟩ := (fo_bit hff hb _ s).mp h
    exact Or.inr ⟨j, it_bal hff hb k j h1, h2⟩
theorem it_on (hff : ∀ r s, (ff r).testBit s = adj r s) (hb : ∀ r s, adj r s = true → r < 60) : ∀ (k s : Nat), bal adj f k s → (∀ e, e < k → ¬ bal adj f e s) → (itN ff k (2 ^ f)).testBit s = true
  | 0, s, h, _ => by
    have h : s = f := h
    subst h
    show (2 ^ s).testBit s = true
    rw [Nat.testBit_two_pow]
    simp
  | k + 1, s, h, hn => by
    rcases h with h | ⟨r, h, hr⟩
    · exact absurd h (hn k (by omega))
    · refine (fo_bit hff hb _ s).mpr ⟨r, it_on hff hb k r h (fun e he w => hn (e + 1) (by omega) (Or.inr ⟨r, w, hr⟩)), hr⟩
end LV
