/-! the same over lists of numbers -/
theorem getD_at {L : List Nat} {j : Nat} (h : j < L.length) : L[j]? = some (L.getD j 0) := by
  rw [List.getD_eq_getElem?_getD, List.getElem?_eq_getElem h]; rfl
theorem getD_mem {L : List Nat} {j : Nat} (h : j < L.length) : L.getD j 0 ∈ L := List.mem_of_getElem? (getD_at h)
theorem mem_getD {L : List Nat} {v : Nat} : v ∈ L ↔ ∃ j, j < L.length ∧ L.getD j 0 = v := by
  constructor
  · intro h
    obtain ⟨j, hj⟩ := List.getElem?_of_mem h
    have hl : j < L.length := (List.getElem?_eq_some_iff.mp hj).1
    exact ⟨j, hl, Option.some.inj ((getD_at hl).symm.trans hj)⟩
  · rintro ⟨j, hj, rfl⟩
    exact getD_mem hj
theorem take_s {L : List Nat} {n : Nat} (h : n < L.length) : L.take (n + 1) = L.take n ++ [L.getD n 0] := by
  rw [List.take_succ, getD_at h]; rfl
theorem sm_take {f g : Nat → Nat} {L : List Nat} (h : ∀ j, j < L.length → f j = g (L.getD j 0)) : ∀ n, n ≤ L.length → sm f n = ((L.take n).map g).sum
  | 0, _ => by simp [sm]
  | n + 1, hn => by
    rw [sm_s, sm_take h n (by omega), take_s (by omega), List.map_append, List.sum_append, h n (by omega)]
    simp
theorem sm_list {f g : Nat → Nat} {L : List Nat} (h : ∀ j, j < L.length → f j = g (L.getD j 0)) : sm f L.length = (L.map g).sum := by
  rw [sm_take h L.length (Nat.le_refl _), List.take_length]
theorem mem_take {L : List Nat} {v n : Nat} (hn : n ≤ L.length) : v ∈ L.take n ↔ ∃ j, j < n ∧ L.getD j 0 = v := by
  rw [mem_getD]
  have e : ∀ j, j < n → (L.take n).getD j 0 = L.getD j 0 := fun j hj => by
    rw [List.getD_eq_getElem?_getD, List.getD_eq_getElem?_getD, List.getElem?_take_of_lt hj]
  have hl : (L.take n).length = n := by rw [List.length_take]; omega
  rw [hl]
  constructor
  · rintro ⟨j, a, b⟩; exact ⟨j, a, by rw [← e j a]; exact b⟩
  · rintro ⟨j, a, b⟩; exact ⟨j, a, by rw [e j a]; exact b⟩
/-- amounts, what two have in common -/
def amL (w : Nat → Nat) (L : List Nat) : Nat := (L.map w).sum
def shL (w : Nat → Nat) (L M : List Nat) : Nat := (L.map (fun v => if v ∈ M then w v else 0)).sum
def sbL (b c : Nat) (L M : List Nat) : Nat := ((L.take b).map (fun v => if v ∈ M.take c then 1 else 0)).sum
theorem amL_nil (w : Nat → Nat) : amL w [] = 0 := rfl
theorem amL_cons (w : Nat → Nat) (v : Nat) (L : List Nat) : amL w (v :: L) = w v + amL w L := by simp [amL]
theorem amL_app (w : Nat → Nat) (L M : List Nat) : amL w (L ++ M) = amL w L + amL w M := by simp [amL]
theorem shL_le (w : Nat → Nat) (L M : List Nat) : shL w L M ≤ amL w L := by
  induction L with
  | nil => exact Nat.le_refl _
  | cons v L ih =>
    unfold shL amL at *
    simp only [List.map_cons, List.sum_cons]
    split <;> omega
/-- p is how many numbers the beginning of L has -/
def begP (w : Nat → Nat) (L : List Nat) (least p : Nat) : Prop := p ≤ L.length ∧ (∀ j, j < p → least ≤ amL w (L.drop j)) ∧ (p < L.length → amL w (L.drop p) < least)
theorem begP.one {w : Nat → Nat} {L : List Nat} {least p p' : Nat} (h : begP w L least p) (h' : begP w L least p') : p = p' := by
  rcases Nat.lt_trichotomy p p' with q | q | q
  · have a := h'.2.1 p q
    have b := h.2.2 (by have := h'.1; omega)
    omega
  · exact q
  · have a := h.2.1 p' q
    have b := h'.2.2 (by have := h.1; omega)
    omega
theorem amL_split (w : Nat → Nat) (L : List Nat) (j : Nat) : amL w L = amL w (L.take j) + amL w (L.drop j) := by
  rw [← amL_app, List.take_append_drop]
/-- the most that both can have, by the first that both have -/
def mbL (w : Nat → Nat) (L M : List Nat) (mb : Nat) : Prop := ((∀ v, v ∈ L → v ∉ M) ∧ mb = 0) ∨ ∃ A x B C D, L = A ++ x :: B ∧ M = C ++ x :: D ∧ (∀ v, v ∈ A → v ∉ M) ∧ mb = w x + min (amL w B) (amL w D)
section
variable {F w : Nat → Nat} {L M : List Nat} {kf wf kf2 wf2 : Nat → Nat} {am am2 : Nat}
theorem ns_am (hO : nsOk kf wf L.length am) (hk : ∀ j, j < L.length → kf j = kyF F (L.getD j 0) ∧ wf j = w (L.getD j 0)) : am = amL w L := by
  rw [hO.2.2.2.2]; exact sm_list (fun j hj => (hk j hj).2)
theorem ns_rest (hO : nsOk kf wf L.length am) (hk : ∀ j, j < L.length → kf j = kyF F (L.getD j 0) ∧ wf j = w (L.getD j 0)) {j : Nat} (hj : j ≤ L.length) : am - sm wf j = amL w (L.drop j) := by
  rw [ns_am hO hk, sm_take (fun j hj => (hk j hj).2) j hj, amL_split w L j]
  unfold amL; omega
theorem ns_beg (hO : nsOk kf wf L.length am) (hk : ∀ j, j < L.length → kf j = kyF F (L.getD j 0) ∧ wf j = w (L.getD j 0)) {t p : Nat} (h : isBeg wf L.length am t p) : begP w L t p := by
  obtain ⟨h1, h2, h3⟩ := h
  exact ⟨h1, fun j hj => by rw [← ns_rest hO hk (by omega)]; exact h2 j hj, fun e => by rw [← ns_rest hO hk h1]; exact h3 e⟩
theorem ns_has (hv : ∀ v, v ∈ M → v < 1000000) (hk2 : ∀ j, j < M.length → kf2 j = kyF F (M.getD j 0) ∧ wf2 j = w (M.getD j 0)) {v n : Nat} (hv9 : v < 1000000) (hn : n ≤ M.length) : hasN kf2 n (kyF F v) = true ↔ v ∈ M.take n := by
  rw [hasN_iff, mem_take hn]
  constructor
  · rintro ⟨j, a, b⟩
    rw [(hk2 j (by omega)).1] at b
    exact ⟨j, a, kyF_inj (hv _ (getD_mem (by omega))) hv9 b⟩
  · rintro ⟨j, a, b⟩
    exact ⟨j, a, by rw [(hk2 j (by omega)).1, b]⟩
theorem ns_hasA (hv : ∀ v, v ∈ M → v < 1000000) (hk2 : ∀ j, j < M.length → kf2 j = kyF F (M.getD j 0) ∧ wf2 j = w (M.getD j 0)) {v : Nat} (hv9 : v < 1000000) : hasN kf2 M.length (kyF F v) = true ↔ v ∈ M := by
  rw [ns_has hv hk2 hv9 (Nat.le_refl _), List.take_length]
theorem ns_sh (hvL : ∀ v, v ∈ L → v < 1000000) (hv : ∀ v, v ∈ M → v < 1000000) (hk : ∀ j, j < L.length → kf j = kyF F (L.getD j 0) ∧ wf j = w (L.getD j 0)) (hk2 : ∀ j, j < M.length → kf2 j = kyF F (M.getD j 0) ∧ wf2 j = w (M.getD j 0)) : sm (shF kf wf kf2 M.length) L.length = shL w L M := by
  refine sm_list (fun j hj => ?_)
  unfold shF
  rw [(hk j hj).1, (hk j hj).2]
  have := ns_hasA hv hk2 (hvL _ (getD_mem hj))
  by_cases hm : L.getD j 0 ∈ M
  · rw [if_pos (this.mpr hm), if_pos hm]
  · rw [if_neg (fun e => hm (this.mp e)), if_neg hm]
theorem ns_sb (hvL : ∀ v, v ∈ L → v < 1000000) (hv : ∀ v, v ∈ M → v < 1000000) (hk : ∀ j, j < L.length → kf j = kyF F (L.getD j 0) ∧ wf j = w (L.getD j 0)) (hk2 : ∀ j, j < M.length → kf2 j = kyF F (M.getD j 0) ∧ wf2 j = w (M.getD j 0)) {b c : Nat} (hb : b ≤ L.length) (hc : c ≤ M.length) : sm (sbF kf kf2 b c) L.length = sbL b c L M := by
  have e1 : sm (sbF kf kf2 b c) L.length = sm (sbF kf kf2 b c) b := sm_tail hb (fun a h1 _ => by unfold sbF; rw [if_neg (by omega)])
  rw [e1]
  unfold sbL
  rw [← sm_take (f := fun a => if L.getD a 0 ∈ M.take c then 1 else 0) (g := fun v => if v ∈ M.take c then 1 else 0) (L := L) (fun _ _ => rfl) b hb]
  refine sm_congr (fun j hj => ?_)
  unfold sbF
  have hj' : j < L.length := by omega
  rw [(hk j hj').1]
  have := ns_has hv hk2 (hvL _ (getD_mem hj')) hc
  by_cases hm : L.getD j 0 ∈ M.take c
  · rw [if_pos ⟨hj, this.mpr hm⟩, if_pos hm]
  · rw [if_neg (fun e => hm (this.mp e.2)), if_neg hm]
theorem split_at {L : List Nat} {j : Nat} (h : j < L.length) : L = L.take j ++ L.getD j 0 :: L.drop (j + 1) := by
  have := List.take_append_drop j L
  rw [List.drop_eq_getElem_cons h] at this
  have e : L[j] = L.getD j 0 := by rw [List.getD_eq_getElem?_getD, List.getElem?_eq_getElem h]; rfl
  rw [e] at this
  exact this.symm
theorem ns_mb (hvL : ∀ v, v ∈ L → v < 1000000) (hv : ∀ v, v ∈ M → v < 1000000) (hO : nsOk kf wf L.length am) (hO2 : nsOk kf2 wf2 M.length am2) (hk : ∀ j, j < L.length → kf j = kyF F (L.getD j 0) ∧ wf j = w (L.getD j 0)) (hk2 : ∀ j, j < M.length → kf2 j = kyF F (M.getD j 0) ∧ wf2 j = w (M.getD j 0)) {mb : Nat} (h : mbP kf wf kf2 wf2 L.length am M.length am2 mb) : mbL w L M mb := by
  have no : ∀ a, a < L.length → hasN kf2 M.length (kf a) = false → L.getD a 0 ∉ M := fun a ha e hm => by
    rw [(hk a ha).1, (ns_hasA hv hk2 (hvL _ (getD_mem ha))).mpr hm] at e
    cases e
  rcases h with ⟨h1, h2⟩ | ⟨a, b, h1, h2, h3, h4, h5⟩
  · refine Or.inl ⟨fun v hv' => ?_, h2⟩
    obtain ⟨j, hj, rfl⟩ := mem_getD.mp hv'
    exact no j hj (h1 j hj)
  · right
    have e : L.getD a 0 = M.getD b 0 := by
      rw [(hk a h1).1, (hk2 b h2).1] at h3
      exact kyF_inj (hvL _ (getD_mem h1)) (hv _ (getD_mem h2)) h3
    refine ⟨L.take a, L.getD a 0, L.drop (a + 1), M.take b, M.drop (b + 1), split_at h1, by rw [e]; exact split_at h2, fun v hv' => ?_, ?_⟩
    · obtain ⟨j, hj, rfl⟩ := (mem_take (by omega)).mp hv'
      exact no j (by omega) (h4 j hj)
    · rw [h5, (hk a h1).2, ns_rest hO hk (by omega), ns_rest hO2 hk2 (by omega)]
end
/-- what becomes of two in the sieve -/
def fateN (kd p q a b sb mb sh : Nat) : Nat := if sb = 0 then 1 else if min a b < neededN kd p q a b then 2 else if mb < neededN kd p q a b then 3 else if reachN kd p q a b sh = true then 0 else 4
