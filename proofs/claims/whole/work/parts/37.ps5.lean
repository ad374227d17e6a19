theorem va_up_const {α : Type} (a : α) (i : Nat) : va_up (fun _ => a) i a = fun _ => a := by
  funext j
  unfold va_up
  split <;> rfl
theorem ins_getD {L : List Nat} {v p j : Nat} (hp : p ≤ L.length) (hj : j < L.length + 1) : (L.take p ++ v :: L.drop p).getD j 0 = if j < p then L.getD j 0 else if j = p then v else L.getD (j - 1) 0 := by
  have hl : (L.take p).length = p := by rw [List.length_take]; omega
  rw [List.getD_eq_getElem?_getD]
  by_cases h1 : j < p
  · rw [if_pos h1, List.getElem?_append_left (by omega), List.getElem?_take_of_lt h1, List.getD_eq_getElem?_getD]
  · rw [if_neg h1, List.getElem?_append_right (by omega), hl]
    by_cases h2 : j = p
    · rw [if_pos h2, h2, Nat.sub_self]; rfl
    · rw [if_neg h2]
      obtain ⟨k, hk⟩ : ∃ k, j - p = k + 1 := ⟨j - p - 1, by omega⟩
      rw [hk, List.getElem?_cons_succ, List.getElem?_drop, List.getD_eq_getElem?_getD]
      congr 2; omega
theorem ins_len {L : List Nat} {v p : Nat} (hp : p ≤ L.length) : (L.take p ++ v :: L.drop p).length = L.length + 1 := by
  rw [List.length_append, List.length_take, List.length_cons, List.length_drop]; omega
theorem ins_perm (L : List Nat) (v p : Nat) : (L.take p ++ v :: L.drop p).Perm (v :: L) := by
  have h : (L.take p ++ v :: L.drop p).Perm (v :: (L.take p ++ L.drop p)) := List.perm_middle
  rw [List.take_append_drop] at h
  exact h
theorem nsR.ins {G : Gd} {h : AH} {q : Nat} {F W : Nat → Nat} {L : List Nat} {v am p : Nat} {kf wf kf' wf' : Nat → Nat} (hv : ∀ u, u ∈ L → u < 1000000) (hv9 : v < 1000000) (hkw : ∀ j, j < L.length → kf j = kyF F (L.getD j 0) ∧ wf j = W (L.getD j 0)) (hw1 : ∀ j, j < L.length → 1 ≤ wf j) (hWv : 1 ≤ W v) (hI : nsIn kf wf kf' wf' L.length (kyF F v) (W v) p) (hN : nsAt G h q kf' wf' (L.length + 1) am) (hO : nsOk kf' wf' (L.length + 1) am) : nsR G h q F W (L.take p ++ v :: L.drop p) := by
  obtain ⟨p1, p2, p3, p4, p5, -⟩ := hI
  have e : ∀ j, j < L.length + 1 → kf' j = kyF F ((L.take p ++ v :: L.drop p).getD j 0) ∧ wf' j = W ((L.take p ++ v :: L.drop p).getD j 0) ∧ 1 ≤ wf' j := by
    intro j hj
    rw [ins_getD p1 hj]
    rcases Nat.lt_trichotomy j p with r | r | r
    · rw [if_pos r, (p2 j r).1, (p2 j r).2.1]
      exact ⟨(hkw j (by omega)).1, (hkw j (by omega)).2, hw1 j (by omega)⟩
    · rw [if_neg (by omega), if_pos r, r, p3, p4]
      exact ⟨rfl, rfl, hWv⟩
    · rw [if_neg (by omega), if_neg (by omega)]
      have := p5 (j - 1) (by omega) (by omega)
      rw [show j - 1 + 1 = j by omega] at this
      rw [this.1, this.2.1]
      exact ⟨(hkw (j - 1) (by omega)).1, (hkw (j - 1) (by omega)).2, hw1 (j - 1) (by omega)⟩
  refine ⟨fun u hu => ?_, kf', wf', am, by rw [ins_len p1]; exact hN, by rw [ins_len p1]; exact hO, fun j hj => ?_, fun j hj => ?_⟩
  · rcases List.mem_cons.mp ((ins_perm L v p).mem_iff.mp hu) with rfl | h'
    · exact hv9
    · exact hv u h'
  · rw [ins_len p1] at hj
    exact ⟨(e j hj).1, (e j hj).2.1⟩
  · rw [ins_len p1] at hj
    exact (e j hj).2.2
theorem del_getD {L : List Nat} {p j : Nat} (hp : p < L.length) : (L.take p ++ L.drop (p + 1)).getD j 0 = if j < p then L.getD j 0 else L.getD (j + 1) 0 := by
  have hl : (L.take p).length = p := by rw [List.length_take]; omega
  rw [List.getD_eq_getElem?_getD]
  by_cases h1 : j < p
  · rw [if_pos h1, List.getElem?_append_left (by omega), List.getElem?_take_of_lt h1, List.getD_eq_getElem?_getD]
  · rw [if_neg h1, List.getElem?_append_right (by omega), hl, List.getElem?_drop, List.getD_eq_getElem?_getD]
    congr 2; omega
theorem del_len {L : List Nat} {p : Nat} (hp : p < L.length) : (L.take p ++ L.drop (p + 1)).length = L.length - 1 := by
  rw [List.length_append, List.length_take, List.length_drop]; omega
theorem del_perm {L : List Nat} {p : Nat} (hp : p < L.length) : L.Perm (L.getD p 0 :: (L.take p ++ L.drop (p + 1))) := by
  have h := split_at hp
  have h2 : (L.take p ++ L.getD p 0 :: L.drop (p + 1)).Perm (L.getD p 0 :: (L.take p ++ L.drop (p + 1))) := List.perm_middle
  rw [← h] at h2
  exact h2
theorem nsR.del {G : Gd} {h : AH} {q : Nat} {F W : Nat → Nat} {L : List Nat} {am p : Nat} {kf wf kf' wf' : Nat → Nat} (hv : ∀ u, u ∈ L → u < 1000000) (hkw : ∀ j, j < L.length → kf j = kyF F (L.getD j 0) ∧ wf j = W (L.getD j 0)) (hw1 : ∀ j, j < L.length → 1 ≤ wf j) (hO : nsOk kf wf L.length am) (hp : p < L.length) (h1 : ∀ j, j < p → kf' j = kf j ∧ wf' j = wf j) (h2 : ∀ j, p ≤ j → j + 1 < L.length → kf' j = kf (j + 1) ∧ wf' j = wf (j + 1)) (hN : nsAt G h q kf' wf' (L.length - 1) (am - wf p)) : nsR G h q F W (L.take p ++ L.drop (p + 1)) := by
  obtain ⟨o1, o2, o3, o4, o5⟩ := hO
  have e : ∀ j, j < L.length - 1 → ∃ i, i < L.length ∧ (i = if j < p then j else j + 1) ∧ kf' j = kf i ∧ wf' j = wf i := fun j hj => by
    by_cases r : j < p
    · exact ⟨j, by omega, by rw [if_pos r], h1 j r⟩
    · exact ⟨j + 1, by omega, by rw [if_neg r], h2 j (by omega) (by omega)⟩
  refine ⟨fun u hu => hv u ((del_perm hp).mem_iff.mpr (List.mem_cons_of_mem _ hu)), kf', wf', am - wf p, by rw [del_len hp]; exact hN, ?_, fun j hj => ?_, fun j hj => ?_⟩
  · rw [del_len hp]
    refine ⟨by omega, fun j hj => ?_, fun i j hij hj => ?_, fun j hj => ?_, ?_⟩
    · obtain ⟨i, a, -, b, -⟩ := e j hj
      rw [b]; exact o2 i a
    · obtain ⟨i1, a1, c1, b1, -⟩ := e i (by omega)
      obtain ⟨i2, a2, c2, b2, -⟩ := e j hj
      rw [b1, b2]
      refine o3 i1 i2 ?_ a2
      rw [c1, c2]
      split <;> split <;> omega
    · obtain ⟨i, a, -, -, b⟩ := e j hj
      rw [b]; exact o4 i a
    · have := sm_ins (f := wf') (g := wf) (p := p) (w := wf p) (n := L.length - 1) (by omega) (fun j hj => ((h1 j hj).2).symm) rfl (fun j a b => ((h2 j a (by omega)).2).symm)
      rw [show L.length - 1 + 1 = L.length by omega] at this
      rw [o5]; omega
  · rw [del_len hp] at hj
    obtain ⟨i, a, c, b1, b2⟩ := e j hj
    rw [del_getD hp, b1, b2]
    by_cases r : j < p
    · rw [if_pos r] at c ⊢; rw [c]; exact hkw j (by omega)
    · rw [if_neg r] at c ⊢; rw [c]; exact hkw (j + 1) (by omega)
  · rw [del_len hp] at hj
    obtain ⟨i, a, c, b1, b2⟩ := e j hj
    rw [b2]; exact hw1 i a
