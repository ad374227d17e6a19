/-! what two sets have in common, the other way round -/
theorem shL_fil (w : Nat → Nat) (M : List Nat) : ∀ L : List Nat, shL w L M = ((L.filter (fun v => decide (v ∈ M))).map w).sum
  | [] => rfl
  | v :: L => by
    have ih := shL_fil w M L
    unfold shL at ih ⊢
    rw [List.map_cons, List.sum_cons, ih]
    by_cases h : v ∈ M
    · rw [if_pos h, List.filter_cons_of_pos (by simpa using h), List.map_cons, List.sum_cons]
    · rw [if_neg h, List.filter_cons_of_neg (by simpa using h), Nat.zero_add]
theorem shL_symm {w : Nat → Nat} {L M : List Nat} (hL : L.Nodup) (hM : M.Nodup) : shL w L M = shL w M L := by
  rw [shL_fil, shL_fil]
  refine List.Perm.sum_nat (List.Perm.map w ?_)
  refine (List.perm_ext_iff_of_nodup (hL.filter _) (hM.filter _)).mpr (fun a => ?_)
  simp only [List.mem_filter, decide_eq_true_iff]
  exact And.comm
theorem belowN_symm {kd a b s : Nat} : belowN kd a b s = belowN kd b a s := by
  unfold belowN
  rw [Nat.add_comm a b, Nat.mul_comm a b, Nat.min_comm a b]
theorem reachN_symm {kd p q a b s : Nat} : reachN kd p q a b s = reachN kd p q b a s := by
  unfold reachN
  rw [belowN_symm]
theorem arB_symm {kd p q : Nat} {W : Nat → Nat} {sa : Nat → Option Nat} {L : Nat → List Nat} (hN : ∀ r, (sa r).isSome = true → (L r).Nodup) (r s : Nat) : arB kd p q W sa L r s = arB kd p q W sa L s r := by
  unfold arB
  cases h1 : (sa r).isSome with
  | false => cases (sa s).isSome <;> rfl
  | true =>
    cases h2 : (sa s).isSome with
    | false => rfl
    | true => rw [shL_symm (hN r h1) (hN s h2), reachN_symm]
theorem arB_nil {kd p q : Nat} {W : Nat → Nat} {sa : Nat → Option Nat} {L : Nat → List Nat} {r s : Nat} (h : L r = [] ∨ L s = []) : arB kd p q W sa L r s = false := by
  have h0 : shL W (L r) (L s) = 0 := by
    rcases h with h | h
    · rw [h]; rfl
    · rw [h, shL_fil]
      have : (L r).filter (fun v => decide (v ∈ ([] : List Nat))) = [] := by
        rw [List.filter_eq_nil_iff]; intro a _; simp
      rw [this]; rfl
  unfold arB
  rw [h0]
  have : reachN kd p q (amL W (L r)) (amL W (L s)) 0 = false := by unfold reachN; simp
  rw [this, Bool.and_false, Bool.and_false]
/-- the net, as far as it is known -/
def nInv (kd p q : Nat) (W : Nat → Nat) (sa : Nat → Option Nat) (L : Nat → List Nat) (mk : Nat) (ff : Nat → Nat) (fg : Nat) : Prop := (∀ r s, (ff r).testBit s = true → r < mk ∧ s < mk ∧ r ≠ s) ∧ ∀ r s, r < mk → s < mk → r ≠ s → fg.testBit r = false → fg.testBit s = false → (ff r).testBit s = arB kd p q W sa L r s
/-- all of it is known -/
def nFr (kd p q : Nat) (W : Nat → Nat) (sa : Nat → Option Nat) (L : Nat → List Nat) (ff : Nat → Nat) : Prop := ∀ r s, (ff r).testBit s = (decide (r ≠ s) && arB kd p q W sa L r s)
theorem nInv.fr {kd p q : Nat} {W : Nat → Nat} {sa : Nat → Option Nat} {L : Nat → List Nat} {mk : Nat} {ff : Nat → Nat} {fg : Nat} (h : nInv kd p q W sa L mk ff fg) (hf : ∀ r, r < mk → fg.testBit r = false) (hn : ∀ r, mk ≤ r → sa r = none) : nFr kd p q W sa L ff := by
  intro r s
  by_cases h1 : r < mk
  · by_cases h2 : s < mk
    · by_cases h3 : r = s
      · rw [decide_eq_false (by simpa using h3), Bool.false_and]
        cases hb : (ff r).testBit s with
        | false => rfl
        | true => exact absurd h3 (h.1 r s hb).2.2
      · rw [decide_eq_true h3, Bool.true_and]
        exact h.2 r s h1 h2 h3 (hf r h1) (hf s h2)
    · rw [arB_no2 (hn s (by omega)), Bool.and_false]
      cases hb : (ff r).testBit s with
      | false => rfl
      | true => exact absurd (h.1 r s hb).2.1 h2
  · rw [arB_no1 (hn r (by omega)), Bool.and_false]
    cases hb : (ff r).testBit s with
    | false => rfl
    | true => exact absurd (h.1 r s hb).1 h1
/-- a tie at bit s of a row -/
def tieB (b : Bool) (n s : Nat) : Nat := if b = true then n ||| 2 ^ s else nD n (2 ^ s)
theorem tieB_bit (b : Bool) (n s i : Nat) : (tieB b n s).testBit i = if i = s then b else n.testBit i := by
  unfold tieB
  cases b with
  | true =>
    rw [if_pos rfl, or_bit]
    by_cases h : i = s
    · rw [if_pos h, decide_eq_true h.symm, Bool.or_true]
    · rw [if_neg h, decide_eq_false (fun e => h e.symm), Bool.or_false]
  | false =>
    rw [if_neg (by decide), nD_bit, Nat.testBit_two_pow]
    by_cases h : i = s
    · rw [if_pos h, decide_eq_true h.symm]; simp
    · rw [if_neg h, decide_eq_false (fun e => h e.symm)]; simp
theorem tieB_lt {b : Bool} {n s : Nat} (hn : n < 2 ^ 60) (hs : s < 60) : tieB b n s < 2 ^ 60 := by
  unfold tieB
  split
  · exact Nat.or_lt_two_pow hn (pow_lt60 hs)
  · exact nD_lt hn
def tieF (ff : Nat → Nat) (r s : Nat) (b : Bool) : Nat → Nat := va_up (va_up ff r (tieB b (ff r) s)) s (tieB b (ff s) r)
theorem tieF_bit {ff : Nat → Nat} {r s : Nat} {b : Bool} (hne : r ≠ s) (i j : Nat) : (tieF ff r s b i).testBit j = if (i = r ∧ j = s) ∨ (i = s ∧ j = r) then b else (ff i).testBit j := by
  unfold tieF
  by_cases h1 : i = s
  · rw [h1, vu_at, tieB_bit]
    by_cases h2 : j = r
    · rw [if_pos h2, if_pos (Or.inr ⟨rfl, h2⟩)]
    · rw [if_neg h2, if_neg (by omega)]
  · rw [vu_ne _ _ h1]
    by_cases h2 : i = r
    · rw [h2, vu_at, tieB_bit]
      by_cases h3 : j = s
      · rw [if_pos h3, if_pos (Or.inl ⟨rfl, h3⟩)]
      · rw [if_neg h3, if_neg (by omega)]
    · rw [vu_ne _ _ h2, if_neg (by omega)]
theorem tieF_ok {ff : Nat → Nat} {fg r s : Nat} {b : Bool} (hO : ntOk ff fg) (hr : r < 60) (hs : s < 60) : ntOk (tieF ff r s b) fg := by
  refine ⟨fun j hj => ?_, hO.2⟩
  unfold tieF
  by_cases h1 : j = s
  · rw [h1, vu_at]; exact tieB_lt (hO.1 s hs) hr
  · rw [vu_ne _ _ h1]
    by_cases h2 : j = r
    · rw [h2, vu_at]; exact tieB_lt (hO.1 r hr) hs
    · rw [vu_ne _ _ h2]; exact hO.1 j hj
/-- row i is being tied: the first s are through -/
def nMid (kd p q : Nat) (W : Nat → Nat) (sa : Nat → Option Nat) (L : Nat → List Nat) (mk : Nat) (ff : Nat → Nat) (fg i s : Nat) : Prop := nInv kd p q W sa L mk ff fg ∧ ∀ j, j < s → j ≠ i → (j < i ∨ fg.testBit j = false) → (ff i).testBit j = arB kd p q W sa L i j ∧ (ff j).testBit i = arB kd p q W sa L j i
theorem nMid.tie {kd p q : Nat} {W : Nat → Nat} {sa : Nat → Option Nat} {L : Nat → List Nat} {mk : Nat} {ff : Nat → Nat} {fg i s : Nat} (hN : ∀ r, (sa r).isSome = true → (L r).Nodup) (h : nMid kd p q W sa L mk ff fg i s) (hi : i < mk) (hs : s < mk) (hne : i ≠ s) (hb : fg.testBit i = true) : nMid kd p q W sa L mk (tieF ff i s (arB kd p q W sa L i s)) fg i (s + 1) := by
  refine ⟨⟨fun r t hrt => ?_, fun r t hr ht hrt f1 f2 => ?_⟩, fun j hj hji hjf => ?_⟩
  · rw [tieF_bit hne] at hrt
    by_cases c : (r = i ∧ t = s) ∨ (r = s ∧ t = i)
    · omega
    · rw [if_neg c] at hrt
      exact h.1.1 r t hrt
  · rw [tieF_bit hne, if_neg (by
      rintro (⟨rfl, -⟩ | ⟨-, rfl⟩)
      · rw [hb] at f1; cases f1
      · rw [hb] at f2; cases f2)]
    exact h.1.2 r t hr ht hrt f1 f2
  · rw [tieF_bit hne, tieF_bit hne]
    by_cases c : j = s
    · rw [if_pos (Or.inl ⟨rfl, c⟩), if_pos (Or.inr ⟨c, rfl⟩), c]
      exact ⟨rfl, arB_symm hN i s⟩
    · rw [if_neg (by omega), if_neg (by omega)]
      exact h.2 j (by omega) hji hjf
theorem nMid.skip {kd p q : Nat} {W : Nat → Nat} {sa : Nat → Option Nat} {L : Nat → List Nat} {mk : Nat} {ff : Nat → Nat} {fg i s : Nat} (h : nMid kd p q W sa L mk ff fg i s) (hs : ¬ s < i) (hf : fg.testBit s = true) : nMid kd p q W sa L mk ff fg i (s + 1) := by
  refine ⟨h.1, fun j hj hji hjf => ?_⟩
  by_cases c : j = s
  · rw [c, hf] at hjf
    rcases hjf with e | e
    · omega
    · cases e
  · exact h.2 j (by omega) hji hjf
theorem nMid.done {kd p q : Nat} {W : Nat → Nat} {sa : Nat → Option Nat} {L : Nat → List Nat} {mk : Nat} {ff : Nat → Nat} {fg i : Nat} (h : nMid kd p q W sa L mk ff fg i mk) (hlow : ∀ r, r < i → fg.testBit r = false) : nInv kd p q W sa L mk ff (nD fg (2 ^ i)) := by
  refine ⟨h.1.1, fun r s hr hs hrs f1 f2 => ?_⟩
  rw [nD_bit, Nat.testBit_two_pow] at f1 f2
  by_cases c1 : r = i
  · have hsi : s ≠ i := fun e => hrs (c1.trans e.symm)
    rw [decide_eq_false (fun e => hsi e.symm)] at f2
    simp at f2
    rw [c1]
    exact (h.2 s hs hsi (Or.inr f2)).1
  · rw [decide_eq_false (fun e => c1 e.symm)] at f1
    simp at f1
    by_cases c2 : s = i
    · rw [c2]
      exact (h.2 r hr c1 (Or.inr f1)).2
    · rw [decide_eq_false (fun e => c2 e.symm)] at f2
      simp at f2
      exact h.1.2 r s hr hs hrs f1 f2
/-- how many families, and the records seen -/
def cfN (ff : Nat → Nat) (sa : Nat → Option Nat) : Nat → Nat × Nat
  | 0 => (0, 0)
  | n + 1 => if (sa n).isSome = true ∧ (cfN ff sa n).2.testBit n = false then ((cfN ff sa n).1 + 1, (cfN ff sa n).2 ||| famN ff 60 (2 ^ n) (2 ^ n)) else cfN ff sa n
theorem cfN_s (ff : Nat → Nat) (sa : Nat → Option Nat) (n : Nat) : cfN ff sa (n + 1) = if (sa n).isSome = true ∧ (cfN ff sa n).2.testBit n = false then ((cfN ff sa n).1 + 1, (cfN ff sa n).2 ||| famN ff 60 (2 ^ n) (2 ^ n)) else cfN ff sa n := rfl
theorem cfN_bd {ff : Nat → Nat} {sa : Nat → Option Nat} (hf : ∀ j, j < 60 → ff j < 2 ^ 60) : ∀ n, n ≤ 60 → (cfN ff sa n).1 ≤ n ∧ (cfN ff sa n).2 < 2 ^ 60
  | 0, _ => ⟨Nat.le_refl _, Nat.two_pow_pos 60⟩
  | n + 1, hn => by
    have ih := cfN_bd (sa := sa) hf n (by omega)
    rw [cfN_s]
    split
    · exact ⟨by show _ + 1 ≤ n + 1; omega, Nat.or_lt_two_pow ih.2 (famN_bd hf (pow_lt60 (by omega)))⟩
    · exact ⟨by omega, ih.2⟩
/-- what about answers -/
def abtV (kd p q : Nat) (W : Nat → Nat) (L : List Nat) (what : Int32) : Int32 := if what = nI 0 then nI L.length else if what = nI 1 then nI (amL W L) else if what = nI 2 then nI (leastN kd p q (amL W L)) else if what = nI 3 then nI (bgn kd p q W L) else -1
theorem abtV_out {kd p q : Nat} {W : Nat → Nat} {L : List Nat} {what : Int32} (h : what.toInt < 0 ∨ 3 < what.toInt) : abtV kd p q W L what = -1 := by
  unfold abtV
  have e : ∀ k, k < 4 → what ≠ nI k := fun k hk e => by
    rw [e, nI_toInt (by omega)] at h; omega
  rw [if_neg (e 0 (by omega)), if_neg (e 1 (by omega)), if_neg (e 2 (by omega)), if_neg (e 3 (by omega))]
