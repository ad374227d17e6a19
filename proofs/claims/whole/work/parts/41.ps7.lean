/-! the numbers of a tape are all different -/
theorem cnL_s (bf : Nat → Nat) (q i n : Nat) : cnL bf q i (n + 1) = cnL bf q i n + if pcN bf q n = pcN bf q i then 1 else 0 := rfl
theorem tnL_s (bf : Nat → Nat) (q n : Nat) : tnL bf q (n + 1) = tnL bf q n ++ (if cnL bf q n n < 8 then [8 * pcN bf q n + cnL bf q n n] else []) := rfl
theorem cnL_key {bf : Nat → Nat} {q i i' : Nat} (h : pcN bf q i = pcN bf q i') : ∀ n, cnL bf q i n = cnL bf q i' n
  | 0 => rfl
  | n + 1 => by rw [cnL_s, cnL_s, cnL_key h n, h]
theorem cnL_mono {bf : Nat → Nat} {q i n m : Nat} (h : n ≤ m) : cnL bf q i n ≤ cnL bf q i m := by
  induction m with
  | zero => rw [show n = 0 by omega]; exact Nat.le_refl _
  | succ m ih =>
    rcases Nat.lt_or_ge n (m + 1) with r | r
    · have := ih (by omega)
      rw [cnL_s]; omega
    · rw [show n = m + 1 by omega]; exact Nat.le_refl _
theorem cnL_lt {bf : Nat → Nat} {q n m : Nat} (hnm : n < m) (he : pcN bf q n = pcN bf q m) : cnL bf q n n < cnL bf q m m := by
  have h1 := cnL_mono (bf := bf) (q := q) (i := m) (show n + 1 ≤ m by omega)
  rw [cnL_s, if_pos he, ← cnL_key he n] at h1
  omega
theorem tnL_mem {bf : Nat → Nat} {q v : Nat} : ∀ {n : Nat}, v ∈ tnL bf q n ↔ ∃ i, i < n ∧ cnL bf q i i < 8 ∧ v = 8 * pcN bf q i + cnL bf q i i
  | 0 => by simp [tnL]
  | n + 1 => by
    rw [tnL_s, List.mem_append, tnL_mem]
    constructor
    · rintro (⟨i, h1, h2⟩ | h)
      · exact ⟨i, by omega, h2⟩
      · by_cases hc : cnL bf q n n < 8
        · rw [if_pos hc] at h
          exact ⟨n, by omega, hc, List.mem_singleton.mp h⟩
        · rw [if_neg hc] at h; cases h
    · rintro ⟨i, h1, h2, h3⟩
      rcases Nat.lt_or_ge i n with r | r
      · exact Or.inl ⟨i, r, h2, h3⟩
      · have e : i = n := by omega
        subst e
        right
        rw [if_pos h2]; exact List.mem_singleton.mpr h3
theorem tnL_nd {bf : Nat → Nat} {q : Nat} : ∀ n, (tnL bf q n).Nodup
  | 0 => List.nodup_nil
  | n + 1 => by
    rw [tnL_s]
    by_cases hc : cnL bf q n n < 8
    · rw [if_pos hc, List.nodup_append]
      refine ⟨tnL_nd n, List.pairwise_singleton _ _, fun a ha b hb e => ?_⟩
      rw [List.mem_singleton] at hb
      obtain ⟨i, h1, h2, h3⟩ := tnL_mem.mp ha
      have he : pcN bf q i = pcN bf q n := by omega
      have := cnL_lt h1 he
      omega
    · rw [if_neg hc, List.append_nil]; exact tnL_nd n
theorem tnL_lt {bf : Nat → Nat} {len q v : Nat} (hO : tpOk bf len) (hq : q = 1 ∨ q = 2) (h : v ∈ tnL bf q (len + 1 - q)) : v < 1000000 := by
  obtain ⟨i, h1, h2, h3⟩ := tnL_mem.mp h
  have := pcN_bd hO hq (show i + q ≤ len by omega)
  omega
theorem c_NS_insR {G : Gd} {z : Nat} {h : AH} {q : Nat} {F W : Nat → Nat} {L : List Nat} (v : Nat) (hv9 : v < 1000000) (hF : F v ≤ 60) (hW : 1 ≤ W v ∧ W v ≤ 100) (hnm : v ∉ L) (hl : L.length < 30) (hN : nsR G h q F W L) : Ct G yX3_insert cX3_insert 4 (some .boolean) 1 0 0 [.ref q, .int (nI (kyF F v)), .int (nI (W v))] z h (fun r z' h' => r = some (.int (bI true)) ∧ z' = z ∧ fr q (q + 3) h h' ∧ ∃ L', L'.Perm (v :: L) ∧ nsR G h' q F W L') := by
  obtain ⟨hv, kf, wf, am, hA, hO, hkw, hw1⟩ := hN
  refine Ct.weak (c_NS_insert (kyF F v) (W v) (by unfold kyF; omega) hW.2 hA hO) ?_
  rintro r z' h' ⟨b, rfl, rfl, g1, g2⟩
  cases b with
  | false =>
    exfalso
    rcases (g1 rfl).2 with e | ⟨j, j1, j2⟩
    · omega
    · rw [(hkw j j1).1] at j2
      exact hnm (mem_getD.mpr ⟨j, j1, kyF_inj (hv _ (getD_mem j1)) hv9 j2⟩)
  | true =>
    obtain ⟨-, -, q3, kf', wf', p9, q4, q5, q6⟩ := g2 rfl
    exact ⟨rfl, rfl, q3, _, ins_perm _ _ _, nsR.ins hv hv9 hkw hw1 hW.1 q6 q4 q5⟩
theorem prs_map {β : Type} {kf wf : Nat → Nat} (g : Nat × Nat → β) : ∀ n, (prs kf wf n).map g = (List.range n).map (fun j => g (kf j, wf j))
  | 0 => rfl
  | n + 1 => by
    rw [show prs kf wf (n + 1) = prs kf wf n ++ [(kf n, wf n)] from rfl, List.map_append, prs_map g n, List.range_succ, List.map_append]
    rfl
theorem range_getD (L : List Nat) : (List.range L.length).map (fun j => L.getD j 0) = L := by
  apply List.ext_getElem
  · simp
  · intro j h1 h2
    rw [List.getElem_map, List.getElem_range, List.getD_eq_getElem?_getD, List.getElem?_eq_getElem h2]; rfl
theorem rmap_getD (f : Nat → Nat) {n j : Nat} (h : j < n) : ((List.range n).map f).getD j 0 = f j := by
  rw [List.getD_eq_getElem?_getD, List.getElem?_map, List.getElem?_range h]; rfl
theorem c_NS_putR {G : Gd} {z : Nat} {h : AH} {q : Nat} {F W : Nat → Nat} {L : List Nat} {a cap tsz : Nat} {tn tv : Nat → Nat} (hT : tabAt G h a cap tn tv tsz) (hTO : tabOk cap tn tsz) (haq : a + 3 ≤ q) (hF : ∀ v, tF tn tv tsz v ≤ 60) (hN : nsR G h q F W L) : Ct G yX3_putInOrder cX3_putInOrder 4 none 3 0 0 [.ref q, .ref a] z h (fun r z' h' => r = none ∧ z' = z ∧ fr q (q + 3) h h' ∧ ∃ L', L'.Perm L ∧ nsR G h' q (tF tn tv tsz) W L') := by
  have hnd := hN.nd
  obtain ⟨hv, kf, wf, am, hA, hO, hkw, hw1⟩ := hN
  have em : ∀ j, j < L.length → kf j % 1000000 = L.getD j 0 := fun j hj => by rw [(hkw j hj).1, kyF_mod (hv _ (getD_mem hj))]
  refine Ct.weak (c_NS_putInOrder hT hTO haq hF (fun i j hij hj => by rw [em i (by omega), em j hj]; exact hnd i j hij hj) hA hO) ?_
  rintro r z' h' ⟨rfl, rfl, g1, kf', wf', g2, g3, g4⟩
  have hj' : ∀ j, j < L.length → ∃ i, i < L.length ∧ kf' j = kyF (tF tn tv tsz) (L.getD i 0) ∧ wf' j = wf i := fun j hj => by
    obtain ⟨i, i1, i2⟩ := prs_mem.mp (g4.mem_iff.mp (prs_mem.mpr ⟨j, hj, rfl⟩))
    have e1 := congrArg Prod.fst i2
    have e2 := congrArg Prod.snd i2
    refine ⟨i, i1, ?_, e2⟩
    rw [← em i i1]; exact e1
  have hp : ((List.range L.length).map (fun j => kf' j % 1000000)).Perm L := by
    have g5 := g4.map (fun e => e.1 % 1000000)
    rw [prs_map, prs_map] at g5
    have e : (List.range L.length).map (fun j => kyF (tF tn tv tsz) (kf j % 1000000) % 1000000) = L := by
      refine Eq.trans ?_ (range_getD L)
      apply List.map_congr_left
      intro j hj
      have hj := List.mem_range.mp hj
      rw [em j hj, kyF_mod (hv _ (getD_mem hj))]
    have g6 : ((List.range L.length).map (fun j => kf' j % 1000000)).Perm ((List.range L.length).map (fun j => kyF (tF tn tv tsz) (kf j % 1000000) % 1000000)) := g5
    rw [e] at g6
    exact g6
  refine ⟨rfl, rfl, g1, _, hp, fun v hv' => hv v (hp.mem_iff.mp hv'), kf', wf', am, ?_, ?_, fun j hj => ?_, fun j hj => ?_⟩
  · rw [List.length_map, List.length_range]; exact g2
  · rw [List.length_map, List.length_range]; exact g3
  · rw [List.length_map, List.length_range] at hj
    obtain ⟨i, i1, i2, i3⟩ := hj' j hj
    rw [rmap_getD _ hj, i2, kyF_mod (hv _ (getD_mem i1)), i3, (hkw i i1).2]
    exact ⟨rfl, rfl⟩
  · rw [List.length_map, List.length_range] at hj
    obtain ⟨i, i1, i2, i3⟩ := hj' j hj
    rw [i3]; exact hw1 i i1
/-! all numbers of the first n records -/
def allL (sa : Nat → Option Nat) (L : Nat → List Nat) : Nat → List Nat
  | 0 => []
  | n + 1 => allL sa L n ++ (if (sa n).isSome = true then L n else [])
theorem allL_s (sa : Nat → Option Nat) (L : Nat → List Nat) (n : Nat) : allL sa L (n + 1) = allL sa L n ++ (if (sa n).isSome = true then L n else []) := rfl
def cntO (A : List Nat) (u : Nat) : Option Nat := if u ∈ A then some (A.count u) else none
theorem cntO_nil (u : Nat) : cntO [] u = none := by unfold cntO; rw [if_neg (by simp)]
theorem cntO_snoc (A : List Nat) (k u : Nat) : cntO (A ++ [k]) u = if u = k then some ((cntO A k).getD 0 + 1) else cntO A u := by
  unfold cntO
  by_cases e : u = k
  · subst e
    rw [if_pos rfl, if_pos (by simp), List.count_append]
    by_cases hm : u ∈ A
    · rw [if_pos hm]; simp
    · rw [if_neg hm, List.count_eq_zero_of_not_mem hm]; simp
  · rw [if_neg e, List.count_append]
    have h0 : [k].count u = 0 := List.count_eq_zero_of_not_mem (fun h => e (List.mem_singleton.mp h))
    by_cases hm : u ∈ A
    · rw [if_pos hm, if_pos (List.mem_append_left _ hm), h0]; rfl
    · rw [if_neg hm, if_neg (fun h => by
        rcases List.mem_append.mp h with h | h
        · exact hm h
        · exact e (List.mem_singleton.mp h))]
theorem allL_count {sa : Nat → Option Nat} {L : Nat → List Nat} {u : Nat} : ∀ {n : Nat}, (∀ r, r < n → (sa r).isSome = true → (L r).Nodup) → (allL sa L n).count u ≤ n
  | 0, _ => by simp [allL]
  | n + 1, h => by
    have ih := allL_count (u := u) (n := n) (fun r hr => h r (by omega))
    rw [allL_s, List.count_append]
    by_cases hs : (sa n).isSome = true
    · rw [if_pos hs]
      have := List.nodup_iff_count.mp (h n (by omega) hs) u
      omega
    · rw [if_neg hs]; simp; omega
theorem tF_cnt {fn fv : Nat → Nat} {fs : Nat} {A : List Nat} (h : ∀ u, tget fn fv fs u = cntO A u) (u : Nat) : tF fn fv fs u = A.count u := by
  unfold tF
  rw [h]
  unfold cntO
  by_cases hm : u ∈ A
  · rw [if_pos hm]; rfl
  · rw [if_neg hm, List.count_eq_zero_of_not_mem hm]; rfl
