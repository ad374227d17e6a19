/-! weights anew, all sets -/
theorem vu_self {α : Type} (f : Nat → α) (i : Nat) : va_up f i (f i) = f := by
  funext j
  unfold va_up
  split
  · rename_i e; rw [e]
  · rfl
theorem vu_up {α : Type} (f : Nat → α) (i : Nat) (a b : α) : va_up (va_up f i a) i b = va_up f i b := by
  funext j
  unfold va_up
  split <;> rfl
theorem vu_at {α : Type} (f : Nat → α) (i : Nat) (a : α) : va_up f i a i = a := by unfold va_up; rw [if_pos rfl]
theorem vu_ne {α : Type} (f : Nat → α) {i j : Nat} (a : α) (h : j ≠ i) : va_up f i a j = f j := by unfold va_up; rw [if_neg h]
theorem nsR.cong {G : Gd} {h : AH} {q : Nat} {F w F' w' : Nat → Nat} {L : List Nat} (hN : nsR G h q F w L) (hc : ∀ v, v ∈ L → F v = F' v ∧ w v = w' v) : nsR G h q F' w' L := by
  obtain ⟨a, kf, wf, am, b, c, d, e⟩ := hN
  refine ⟨a, kf, wf, am, b, c, fun j hj => ?_, e⟩
  obtain ⟨h1, h2⟩ := hc _ (getD_mem hj)
  rw [(d j hj).1, (d j hj).2]
  unfold kyF
  rw [h1, h2]
  exact ⟨rfl, rfl⟩
theorem nsR.nd {G : Gd} {h : AH} {q : Nat} {F w : Nat → Nat} {L : List Nat} (hN : nsR G h q F w L) : ∀ i j, i < j → j < L.length → L.getD i 0 ≠ L.getD j 0 := by
  obtain ⟨-, kf, wf, am, -, hO, hk, -⟩ := hN
  intro i j hij hj e
  have h1 := hO.2.2.1 i j hij hj
  rw [(hk i (by omega)).1, (hk j hj).1, e] at h1
  omega
theorem nd_of {L : List Nat} (h : ∀ i j, i < j → j < L.length → L.getD i 0 ≠ L.getD j 0) : L.Nodup := by
  rw [List.nodup_iff_pairwise_ne, List.pairwise_iff_getElem]
  intro i j hi hj hij
  have := h i j hij hj
  rw [List.getD_eq_getElem?_getD, List.getD_eq_getElem?_getD, List.getElem?_eq_getElem hi, List.getElem?_eq_getElem hj] at this
  exact this
theorem c_NS_numR {G : Gd} {z : Nat} {h : AH} {q : Nat} {F w : Nat → Nat} {L : List Nat} (j : Nat) (hj : j < L.length) (hN : nsR G h q F w L) : Ct G yX3_numberAt cX3_numberAt 2 (some .int) 0 0 0 [.ref q, .int (nI j)] z h (fun r z' h' => r = some (.int (nI (L.getD j 0))) ∧ z' = z ∧ h' = h) := by
  have hl := hN.len
  obtain ⟨hv, kf, wf, am, hA, hO, hk, -⟩ := hN
  refine Ct.weak (c_NS_numberAt (nI j) hA hO) ?_
  rintro v z' h' ⟨y, rfl, rfl, rfl, hy⟩
  refine ⟨?_, rfl, rfl⟩
  rcases hy with ⟨i, h1, h2, rfl⟩ | ⟨h1, -⟩
  · have e : j = i := by
      have := congrArg Int32.toInt h2
      rw [nI_toInt (by omega), nI_toInt (by omega)] at this
      omega
    subst e
    rw [(hk j hj).1, kyF_mod (hv _ (getD_mem hj))]
  · rw [nI_toInt (by omega)] at h1
    omega
theorem c_NS_rewR {G : Gd} {z : Nat} {h : AH} {q : Nat} {F w : Nat → Nat} {L : List Nat} (w' : Nat → Nat) (i : Nat) (hi : i < L.length) (hw' : ∀ j, j < L.length → j ≠ i → w' (L.getD j 0) = w (L.getD j 0)) (hb : 1 ≤ w' (L.getD i 0) ∧ w' (L.getD i 0) ≤ 100) (hN : nsR G h q F w L) : Ct G yX3_reweigh cX3_reweigh 3 none 0 0 0 [.ref q, .int (nI i), .int (nI (w' (L.getD i 0)))] z h (fun r z' h' => r = none ∧ z' = z ∧ nsR G h' q F w' L ∧ fr q (q + 3) h h') := by
  obtain ⟨hv, kf, wf, am, hA, hO, hk, h1⟩ := hN
  refine Ct.weak (c_NS_reweigh i (w' (L.getD i 0)) hi hA hO) ?_
  rintro v z' h' ⟨rfl, rfl, q1, q2⟩
  refine ⟨rfl, rfl, ⟨hv, kf, _, _, q1, ?_, fun j hj => ?_, fun j hj => ?_⟩, q2⟩
  · obtain ⟨o1, o2, o3, o4, o5⟩ := hO
    refine ⟨o1, o2, o3, fun j hj => ?_, ?_⟩
    · by_cases e : j = i
      · rw [e, vu_at]; exact hb.2
      · rw [vu_ne _ _ e]; exact o4 j hj
    · have := sm_up (f := wf) (w := w' (L.getD i 0)) hi
      omega
  · by_cases e : j = i
    · rw [e, vu_at]; exact ⟨(hk i hi).1, rfl⟩
    · rw [vu_ne _ _ e, hw' j hj e]; exact hk j hj
  · by_cases e : j = i
    · rw [e, vu_at]; exact hb.1
    · rw [vu_ne _ _ e]; exact h1 j hj
/-- the weights midway -/
def midW (W W' : Nat → Nat) (L : List Nat) (j v : Nat) : Nat := if v ∈ L.take j then W' v else W v
theorem midW_0 (W W' : Nat → Nat) (L : List Nat) : midW W W' L 0 = W := by
  funext v
  unfold midW
  rw [if_neg (by simp)]
theorem midW_s {W W' : Nat → Nat} {L : List Nat} (hd : ∀ i j, i < j → j < L.length → L.getD i 0 ≠ L.getD j 0) {j k : Nat} (hj : j < L.length) (hk : k < L.length) (hne : k ≠ j) : midW W W' L (j + 1) (L.getD k 0) = midW W W' L j (L.getD k 0) := by
  have hn : L.getD k 0 ≠ L.getD j 0 := by
    rcases Nat.lt_or_ge k j with r | r
    · exact hd k j r hj
    · exact fun e => hd j k (by omega) hk e.symm
  unfold midW
  rw [take_s hj]
  by_cases hm : L.getD k 0 ∈ L.take j
  · rw [if_pos hm, if_pos (List.mem_append_left _ hm)]
  · rw [if_neg hm, if_neg (fun e => by
      rcases List.mem_append.mp e with e | e
      · exact hm e
      · exact hn (List.mem_singleton.mp e))]
theorem midW_at {W W' : Nat → Nat} {L : List Nat} {j : Nat} (hj : j < L.length) : midW W W' L (j + 1) (L.getD j 0) = W' (L.getD j 0) := by
  unfold midW
  rw [take_s hj, if_pos (List.mem_append_right _ (List.mem_singleton.mpr rfl))]
theorem or_bit (a k i : Nat) : (a ||| 2 ^ k).testBit i = (a.testBit i || decide (k = i)) := by rw [Nat.testBit_or, Nat.testBit_two_pow]
/-! generated: psAt.cong -/
theorem wtF_bd {kd ts : Nat} {tn tv : Nat → Nat} (h : ∀ u w, tget tn tv ts u = some w → 1 ≤ w ∧ w ≤ 100) (v : Nat) : 1 ≤ wtF kd tn tv ts v ∧ wtF kd tn tv ts v ≤ 100 := by
  unfold wtF
  split
  · cases e : tget tn tv ts v with
    | none => exact ⟨Nat.le_refl _, by decide⟩
    | some w => exact h v w e
  · omega
def msIn (kd p q : Int32) : Prop := (kd.toInt = 0 ∧ 1 ≤ p.toInt ∧ p.toInt ≤ 3000 ∧ q.toInt = 1) ∨ (1 ≤ kd.toInt ∧ kd.toInt ≤ 5 ∧ 1 ≤ p.toInt ∧ p.toInt ≤ q.toInt ∧ q.toInt ≤ 1000)
theorem psAt.cong {G : Gd} {h : AH} {z x : Nat} {mk : Nat} {sa : Nat → Option Nat} {L : Nat → List Nat} {Fr : Nat → Nat → Nat} {Wr : Nat → Nat → Nat} {fn : Nat → Nat} {fv : Nat → Nat} {fs : Nat} {tn : Nat → Nat} {tv : Nat → Nat} {ts : Nat} {kd : Nat} {p : Nat} {q : Nat} {bf : Nat → Nat} {len : Nat} {ta : Nat → Nat} {sp : Nat} {f1 : Nat → Nat} {f2 : Nat → Nat} {f3 : Nat → Nat} {ks : Nat} {ff : Nat → Nat} {fg : Nat} {co : Nat} {L' : Nat → List Nat} {Fr' Wr' : Nat → Nat → Nat} (hP : psAt G h z x mk sa L Fr Wr fn fv fs tn tv ts kd p q bf len ta sp f1 f2 f3 ks ff fg co) (hc : ∀ r q0, sa r = some q0 → L' r = L r ∧ ∀ v, v ∈ L r → Fr r v = Fr' r v ∧ Wr r v = Wr' r v) : psAt G h z x mk sa (L') (Fr') (Wr') fn fv fs tn tv ts kd p q bf len ta sp f1 f2 f3 ks ff fg co := by
  obtain ⟨⟨hx, hsa⟩, ⟨hF, hFO⟩, ⟨hT, hTO⟩, ⟨hm, hM⟩, ⟨⟨nf, hp⟩, hPO⟩, ⟨s0, s1, s2, ho⟩, ⟨bg, hbg⟩, hta, ⟨⟨ab, bw, hk⟩, hks⟩, ⟨hn, hnO⟩, hS, hmk, hnone, hxz, hco⟩ := hP
  refine ⟨⟨hx, hsa⟩, ⟨hF, hFO⟩, ⟨hT, hTO⟩, ⟨hm, hM⟩, ⟨⟨nf, hp⟩, hPO⟩, ⟨s0, s1, s2, ho⟩, ⟨bg, hbg⟩, hta, ⟨⟨ab, bw, hk⟩, hks⟩, ⟨hn, hnO⟩, ⟨fun r q0 hq => ⟨?_, (hS.1 r q0 hq).2⟩, hS.2⟩, hmk, hnone, hxz, hco⟩
  rw [(hc r q0 hq).1]
  exact (hS.1 r q0 hq).1.cong (hc r q0 hq).2
