/-! answers over the net: class and model agree -/
theorem nI_i2 {a b : Nat} (ha : a < 2 ^ 31) (hb : b < 2 ^ 31) (h : nI a = nI b) : a = b := by
  have h1 := nI_toInt ha
  rw [h, nI_toInt hb] at h1
  omega
section AG
variable {adj : Nat → Nat → Bool} {ff : Nat → Nat} {mk : Nat}
theorem bal_lt (hsy : ∀ r s, adj r s = adj s r) (hm : ∀ r s, adj r s = true → r < mk) {f : Nat} (hf : f < mk) : ∀ {d s : Nat}, bal adj f d s → s < mk
  | 0, s, h => by
    have h : s = f := h
    omega
  | d + 1, s, h => by
    rcases h with h | ⟨r, -, hr⟩
    · exact bal_lt hsy hm hf h
    · exact hm s r (by rw [hsy]; exact hr)
theorem dOk_e {f s n : Nat} {fa : Nat → Int32} (hd : dOk adj f fa) (hs : s < 60) (h1 : bal adj f n s) (h2 : ∀ e, e < n → ¬ bal adj f e s) : n < 1000 ∧ fa s = nI n := by
  rcases hd s hs with ⟨e, e1, e2, e3, e4⟩ | ⟨-, e2⟩
  · have : e = n := by
      rcases Nat.lt_trichotomy e n with g | g | g
      · exact absurd e3 (h2 e g)
      · exact g
      · exact absurd h1 (e4 n g)
    subst this
    exact ⟨e1, e2⟩
  · exact absurd h1 (e2 n)
theorem dOk_d {f s n : Nat} {fa : Nat → Int32} (hd : dOk adj f fa) (hs : s < 60) (hn : n < 1000) (h : fa s = nI n) : bal adj f n s ∧ ∀ e, e < n → ¬ bal adj f e s := by
  rcases hd s hs with ⟨e, e1, e2, e3, e4⟩ | ⟨e1, -⟩
  · have : e = n := nI_i2 (by omega) (by omega) (e2.symm.trans h)
    subst this
    exact ⟨e3, e4⟩
  · exact absurd (h.symm.trans e1) (nI_m1 (by omega))
theorem dOk_m {f s : Nat} {fa : Nat → Int32} (hd : dOk adj f fa) (hs : s < 60) : fa s ≠ -1 ↔ ∃ d, bal adj f d s := by
  rcases hd s hs with ⟨e, e1, e2, e3, e4⟩ | ⟨e1, e2⟩
  · exact ⟨fun _ => ⟨e, e3⟩, fun _ w => nI_m1 (n := e) (by omega) (e2.symm.trans w)⟩
  · exact ⟨fun w => absurd e1 w, fun ⟨d, w⟩ => absurd w (e2 d)⟩
theorem fm_eq (hff : ∀ r s, (ff r).testBit s = adj r s) (hsy : ∀ r s, adj r s = adj s r) (hm : ∀ r s, adj r s = true → r < mk) (hmk : mk ≤ 60) (h60 : ∀ j, j < 60 → ff j < 2 ^ 60) {k : Nat} (hk : k < mk) {fa : Nat → Int32} (hd : dOk adj k fa) : fmL fa mk = bl (famN ff 60 (2 ^ k) (2 ^ k)) := by
  have hb : ∀ r s, adj r s = true → r < 60 := fun r s h => by have := hm r s h; omega
  refine asc_ext (List.Pairwise.filter _ List.pairwise_lt_range) (bl_asc _) (fun t => ?_)
  rw [fmL_mem, bl_mem, fam_bit hff hb h60 (by omega)]
  constructor
  · rintro ⟨h1, h2⟩
    exact ⟨by omega, (dOk_m hd (by omega)).mp h2⟩
  · rintro ⟨h1, d, h2⟩
    exact ⟨bal_lt hsy hm hk h2, (dOk_m hd h1).mpr ⟨d, h2⟩⟩
theorem ag_chain (hff : ∀ r s, (ff r).testBit s = adj r s) (hsy : ∀ r s, adj r s = adj s r) (hm : ∀ r s, adj r s = true → r < mk) (hmk : mk ≤ 60) (h60 : ∀ j, j < 60 → ff j < 2 ^ 60) {i j : Nat} (hi : i < mk) (hj : j < mk) {fa : Nat → Int32} (hd : dOk adj i fa) : optI (stpN ff i 60 0 (2 ^ j) (2 ^ j)) = fa j := by
  have hb : ∀ r s, adj r s = true → r < 60 := fun r s h => by have := hm r s h; omega
  rcases stp_dist hff hb h60 (f := j) (by omega) i with ⟨n, e1, e2, e3⟩ | ⟨e1, e2⟩
  · rw [e1]
    exact ((dOk_e hd (by omega) (bal_symm hsy e2) (fun e he w => e3 e he (bal_symm hsy w))).2).symm
  · rw [e1]
    apply Classical.byContradiction
    intro w
    obtain ⟨d, hd2⟩ := (dOk_m hd (s := j) (by omega)).mp (fun w2 => w w2.symm)
    exact e2 d (bal_symm hsy hd2)
theorem ag_least (hff : ∀ r s, (ff r).testBit s = adj r s) (hsy : ∀ r s, adj r s = adj s r) (hm : ∀ r s, adj r s = true → r < mk) (hmk : mk ≤ 60) (h60 : ∀ j, j < 60 → ff j < 2 ^ 60) {k n : Nat} (hk : k < mk) {fa : Nat → Int32} (hd : dOk adj k fa) {y : Int32} (hy : leastP (famN ff 60 (2 ^ k) (2 ^ k)) y) (hn : n < 60) (h1 : fa n ≠ -1) (h2 : ∀ j, j < n → fa j = -1) : y = nI n := by
  have hb : ∀ r s, adj r s = true → r < 60 := fun r s h => by have := hm r s h; omega
  have hin : ∀ t, t ∈ bl (famN ff 60 (2 ^ k) (2 ^ k)) ↔ t < 60 ∧ fa t ≠ -1 := fun t => by
    rw [bl_mem, fam_bit hff hb h60 (by omega)]
    constructor
    · rintro ⟨g1, g2⟩; exact ⟨g1, (dOk_m hd g1).mpr g2⟩
    · rintro ⟨g1, g2⟩; exact ⟨g1, (dOk_m hd g1).mp g2⟩
  rcases leastP_bl (famN_bd h60 (Nat.pow_lt_pow_right (by omega) (by omega))) hy with ⟨e1, -⟩ | ⟨a, t, e1, rfl⟩
  · have := (hin n).mpr ⟨hn, h1⟩
    rw [e1] at this
    cases this
  · have h3 : a ∈ bl (famN ff 60 (2 ^ k) (2 ^ k)) := by rw [e1]; exact List.mem_cons_self
    have h4 := (hin n).mpr ⟨hn, h1⟩
    have h5 := bl_asc (famN ff 60 (2 ^ k) (2 ^ k))
    rw [e1] at h4 h5
    rw [List.pairwise_cons] at h5
    have h6 : ¬ a < n := fun w => ((hin a).mp h3).2 (h2 a w)
    rcases List.mem_cons.mp h4 with g | g
    · rw [g]
    · have := h5.1 n g; omega
theorem ag_next (hff : ∀ r s, (ff r).testBit s = adj r s) (hsy : ∀ r s, adj r s = adj s r) (hm : ∀ r s, adj r s = true → r < mk) (hmk : mk ≤ 60) (h60 : ∀ j, j < 60 → ff j < 2 ^ 60) {i j : Nat} (hi : i < mk) (hj : j < mk) (hij : i ≠ j) {fa : Nat → Int32} (hd : dOk adj j fa) {y w : Int32}
    (hC : ((stpN ff i 60 0 (2 ^ j) (2 ^ j) = none ∨ stpN ff i 60 0 (2 ^ j) (2 ^ j) = some 0) ∧ y = -1) ∨ ∃ t, 1 ≤ t ∧ stpN ff i 60 0 (2 ^ j) (2 ^ j) = some t ∧ leastP (itN ff (t - 1) (2 ^ j) &&& ff i) y)
    (hM : (fa i = -1 ∧ w = -1) ∨ ∃ d, 1 ≤ d ∧ d < 1000 ∧ fa i = nI d ∧ ((∃ n, n < mk ∧ (fa n = nI (d - 1) ∧ adj i n = true) ∧ (∀ m, m < n → ¬ (fa m = nI (d - 1) ∧ adj i m = true)) ∧ w = nI n) ∨ ((∀ m, m < mk → ¬ (fa m = nI (d - 1) ∧ adj i m = true)) ∧ w = -1))) : y = w := by
  have hb : ∀ r s, adj r s = true → r < 60 := fun r s h => by have := hm r s h; omega
  rcases stp_dist hff hb h60 (f := j) (by omega) i with ⟨n, e1, e2, e3⟩ | ⟨e1, e2⟩
  · have hn1 : 1 ≤ n := Nat.pos_of_ne_zero (fun w0 => by
      subst w0
      exact hij e2)
    obtain ⟨hn9, hfi⟩ := dOk_e hd (by omega) e2 e3
    rw [e1] at hC
    rcases hC with ⟨g | g, -⟩ | ⟨t, -, g, hy⟩
    · cases g
    · cases g; omega
    · cases g
      rcases hM with ⟨g, -⟩ | ⟨d, hd1, hd2, g, hM⟩
      · exact absurd (hfi.symm.trans g) (nI_m1 (by omega))
      · have : d = n := nI_i2 (by omega) (by omega) (g.symm.trans hfi)
        subst this
        have hbit : ∀ s, s ∈ bl (itN ff (d - 1) (2 ^ j) &&& ff i) ↔ s < 60 ∧ fa s = nI (d - 1) ∧ adj i s = true := fun s => by
          rw [bl_mem, Nat.testBit_and, Bool.and_eq_true, hff]
          constructor
          · rintro ⟨g1, g2, g3⟩
            exact ⟨g1, (dOk_e hd g1 (it_bal hff hb _ _ g2) (fun e he w0 => e3 (e + 1) (by omega) (Or.inr ⟨s, w0, by rw [hsy]; exact g3⟩))).2, g3⟩
          · rintro ⟨g1, g2, g3⟩
            obtain ⟨g4, g5⟩ := dOk_d hd g1 (by omega) g2
            exact ⟨g1, it_on hff hb _ _ g4 g5, g3⟩
        have hlt : itN ff (d - 1) (2 ^ j) &&& ff i < 2 ^ 60 := Nat.and_lt_two_pow _ (h60 i (by omega))
        rcases leastP_bl hlt hy with ⟨g1, rfl⟩ | ⟨a, t, g1, rfl⟩
        · rcases hM with ⟨m, k1, k2, -, -⟩ | ⟨-, k⟩
          · have := (hbit m).mpr ⟨by omega, k2⟩
            rw [g1] at this
            cases this
          · exact k.symm
        · have h3 := (hbit a).mp (by rw [g1]; exact List.mem_cons_self)
          have h5 := bl_asc (itN ff (d - 1) (2 ^ j) &&& ff i)
          rw [g1, List.pairwise_cons] at h5
          rcases hM with ⟨m, k1, k2, k3, rfl⟩ | ⟨k, -⟩
          · have h4 := (hbit m).mpr ⟨by omega, k2⟩
            rw [g1] at h4
            have h6 : ¬ a < m := fun w0 => k3 a w0 h3.2
            rcases List.mem_cons.mp h4 with q | q
            · rw [q]
            · have := h5.1 m q; omega
          · exact absurd h3.2 (k a (hm a i (by rw [hsy]; exact h3.2.2)))
  · rw [e1] at hC
    rcases hC with ⟨-, rfl⟩ | ⟨t, -, g, -⟩
    · rcases hM with ⟨-, rfl⟩ | ⟨d, hd1, hd2, g, -⟩
      · rfl
      · exact absurd (dOk_d hd (by omega) hd2 g).1 (e2 d)
    · cases g
end AG
/-! the greatest core: over the numbers themselves, or over their places -/
theorem gcl_map {adj ad : Nat → Nat → Bool} {g : Nat → Nat} {n : Nat} (hg : ∀ a b, a < n → b < n → ad a b = adj (g a) (g b)) : ∀ (d : Nat) (ch op best : List Nat), (∀ a, a ∈ op → a < n) → gcl adj d (ch.map g) (op.map g) (best.map g) = (gcl ad d ch op best).map g := by
  have hp : ∀ ch best : List Nat, pickL (ch.map g) (best.map g) = (pickL ch best).map g := fun ch best => by
    unfold pickL
    rw [List.length_map, List.length_map]
    split <;> rfl
  intro d
  induction d with
  | zero => intro ch op best _; exact hp ch best
  | succ d ih =>
    intro ch op best ho
    show gloop (gcl adj d) adj (ch.map g) (op.map g) (pickL (ch.map g) (best.map g)) = (gloop (gcl ad d) ad ch op (pickL ch best)).map g
    rw [hp]
    generalize pickL ch best = b
    induction op generalizing b with
    | nil => rfl
    | cons r rest ih2 =>
      rw [List.map_cons]
      unfold gloop
      rw [List.length_map, List.length_map, List.length_map]
      split
      · rfl
      · have hr : r < n := ho r List.mem_cons_self
        have e : (rest.map g).filter (adj (g r)) = (rest.filter (ad r)).map g := by
          rw [List.filter_map]
          congr 1
          refine List.filter_congr (fun a ha => ?_)
          exact (hg r a hr (ho a (List.mem_cons_of_mem _ ha))).symm
        rw [e, show ch.map g ++ [g r] = (ch ++ [r]).map g by rw [List.map_append]; rfl, ih _ _ _ (fun a ha => ho a (List.mem_cons_of_mem _ (List.mem_filter.mp ha).1))]
        exact ih2 (fun a ha => ho a (List.mem_cons_of_mem _ ha)) _
theorem range_gD (A : List Nat) : (List.range A.length).map (fun i => A.getD i 0) = A := by
  apply List.ext_getElem?
  intro i
  rw [List.getElem?_map]
  by_cases h : i < A.length
  · rw [List.getElem?_range h, Option.map_some, List.getD_eq_getElem?_getD, List.getElem?_eq_getElem h]; rfl
  · rw [List.getElem?_eq_none (by rw [List.length_range]; omega), List.getElem?_eq_none (by omega)]; rfl
theorem ag_core {adj ad : Nat → Nat → Bool} {A : List Nat} {d : Nat} (hg : ∀ a b, a < A.length → b < A.length → ad a b = adj (A.getD a 0) (A.getD b 0)) : gcl adj d [] A [] = (gcl ad d [] (List.range A.length) []).map (fun i => A.getD i 0) := by
  have h := gcl_map (g := fun i => A.getD i 0) hg d [] (List.range A.length) [] (fun a ha => List.mem_range.mp ha)
  rw [range_gD] at h
  exact h
/-! how many families -/
theorem ag_count {adj : Nat → Nat → Bool} {ff : Nat → Nat} {mk : Nat} {sa : Nat → Option Nat} (hff : ∀ r s, (ff r).testBit s = adj r s) (hsy : ∀ r s, adj r s = adj s r) (hm : ∀ r s, adj r s = true → r < mk ∧ (sa r).isSome = true) (hmk : mk ≤ 60) (h60 : ∀ j, j < 60 → ff j < 2 ^ 60) {c : Nat → Bool} (hc : ∀ r, r < mk → (sa r).isSome = true → (c r = true ↔ ∀ j, j < r → ∀ d, ¬ bal adj r d j)) :
    ∀ n, n ≤ mk → (cfN ff sa n).1 = sm (fun r => if ((sa r).isSome && c r) = true then 1 else 0) n ∧ ∀ s, (cfN ff sa n).2.testBit s = true ↔ ∃ m, m < n ∧ (sa m).isSome = true ∧ ∃ d, bal adj m d s := by
  have hb : ∀ r s, adj r s = true → r < 60 := fun r s h => by have := (hm r s h).1; omega
  have hal : ∀ {f d s : Nat}, (sa f).isSome = true → bal adj f d s → (sa s).isSome = true := by
    intro f d
    induction d with
    | zero =>
      intro s h1 h2
      have h2 : s = f := h2
      rw [h2]; exact h1
    | succ d ih =>
      rintro s h1 (h2 | ⟨r, -, hr⟩)
      · exact ih h1 h2
      · exact (hm s r (by rw [hsy]; exact hr)).2
  intro n
  induction n with
  | zero =>
    intro _
    refine ⟨rfl, fun s => ?_⟩
    show (0 : Nat).testBit s = true ↔ _
    rw [Nat.zero_testBit]
    exact ⟨fun h => (by cases h), fun ⟨m, h, _⟩ => (by omega)⟩
  | succ n ih =>
    intro hn
    obtain ⟨h1, h2⟩ := ih (by omega)
    have hcn : (sa n).isSome = true → (c n = true ↔ (cfN ff sa n).2.testBit n = false) := fun hs => by
      rw [hc n (by omega) hs]
      constructor
      · intro g
        cases hq : (cfN ff sa n).2.testBit n with
        | false => rfl
        | true =>
          obtain ⟨m, g1, g2, d, g3⟩ := (h2 n).mp hq
          exact absurd (bal_symm hsy g3) (g m g1 d)
      · intro g j hj d w
        have := (h2 n).mpr ⟨j, hj, hal hs w, d, bal_symm hsy w⟩
        rw [g] at this
        cases this
    rw [cfN_s, sm_s]
    by_cases hs : (sa n).isSome = true
    · by_cases hq : (cfN ff sa n).2.testBit n = false
      · rw [if_pos ⟨hs, hq⟩, hs, (hcn hs).mpr hq]
        refine ⟨by rw [← h1]; rfl, fun s => ?_⟩
        show ((cfN ff sa n).2 ||| famN ff 60 (2 ^ n) (2 ^ n)).testBit s = true ↔ _
        rw [Nat.testBit_or, Bool.or_eq_true, h2 s, fam_bit hff hb h60 (by omega)]
        constructor
        · rintro (⟨m, g1, g2⟩ | ⟨d, g⟩)
          · exact ⟨m, by omega, g2⟩
          · exact ⟨n, by omega, hs, d, g⟩
        · rintro ⟨m, g1, g2, d, g3⟩
          by_cases e : m = n
          · subst e; exact Or.inr ⟨d, g3⟩
          · exact Or.inl ⟨m, by omega, g2, d, g3⟩
      · have hq2 : (cfN ff sa n).2.testBit n = true := by cases h : (cfN ff sa n).2.testBit n with
          | false => exact absurd h hq
          | true => rfl
        have hcf : c n = false := by
          cases h : c n with
          | false => rfl
          | true => exact absurd ((hcn hs).mp h) hq
        rw [if_neg (fun w => hq w.2), hcf, Bool.and_false]
        refine ⟨by rw [h1]; rfl, fun s => ?_⟩
        rw [h2 s]
        constructor
        · rintro ⟨m, g1, g2⟩; exact ⟨m, by omega, g2⟩
        · rintro ⟨m, g1, g2, d, g3⟩
          by_cases e : m = n
          · subst e
            obtain ⟨m2, k1, k2, d2, k3⟩ := (h2 m).mp hq2
            exact ⟨m2, k1, k2, d2 + d, bal_trans k3 g3⟩
          · exact ⟨m, by omega, g2, d, g3⟩
    · have hs2 : (sa n).isSome = false := by simpa using hs
      rw [if_neg (fun w => hs w.1), hs2, Bool.false_and]
      refine ⟨by rw [h1]; rfl, fun s => ?_⟩
      rw [h2 s]
      constructor
      · rintro ⟨m, g1, g2⟩; exact ⟨m, by omega, g2⟩
      · rintro ⟨m, g1, g2, g3⟩
        by_cases e : m = n
        · subst e; exact absurd g2 hs
        · exact ⟨m, by omega, g2, g3⟩
