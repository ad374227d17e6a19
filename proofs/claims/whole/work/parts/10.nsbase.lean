/-! sums of the first n -/
def sm (f : Nat → Nat) : Nat → Nat
  | 0 => 0
  | n + 1 => sm f n + f n
theorem sm_s (f : Nat → Nat) (n : Nat) : sm f (n + 1) = sm f n + f n := rfl
theorem sm_congr {f g : Nat → Nat} : ∀ {n : Nat}, (∀ j, j < n → f j = g j) → sm f n = sm g n
  | 0, _ => rfl
  | n + 1, h => by rw [sm_s, sm_s, sm_congr (fun j hj => h j (by omega)), h n (by omega)]
theorem sm_le {f : Nat → Nat} {n m : Nat} (h : n ≤ m) : sm f n ≤ sm f m := by
  induction m with
  | zero => rw [show n = 0 by omega]; exact Nat.le_refl _
  | succ m ih =>
    rcases Nat.lt_or_ge n (m + 1) with q | q
    · have := ih (by omega); rw [sm_s]; omega
    · rw [show n = m + 1 by omega]; exact Nat.le_refl _
theorem sm_at {f : Nat → Nat} {n j : Nat} (h : j < n) : f j ≤ sm f n := by
  have := sm_le (f := f) (show j + 1 ≤ n by omega)
  rw [sm_s] at this; omega
theorem sm_bd {f : Nat → Nat} {c : Nat} : ∀ {n : Nat}, (∀ j, j < n → f j ≤ c) → sm f n ≤ n * c
  | 0, _ => by simp [sm]
  | n + 1, h => by
    have h1 := sm_bd (n := n) (fun j hj => h j (by omega))
    have h2 := h n (by omega)
    rw [sm_s, Nat.add_mul, Nat.one_mul]; omega
theorem sm_ins {f g : Nat → Nat} {p w : Nat} : ∀ {n : Nat}, p ≤ n → (∀ j, j < p → g j = f j) → g p = w → (∀ j, p ≤ j → j < n → g (j + 1) = f j) → sm g (n + 1) = sm f n + w
  | 0, h, h1, h2, h3 => by rw [show p = 0 by omega] at h2; simp [sm, h2]
  | n + 1, h, h1, h2, h3 => by
    rcases Nat.lt_or_ge p (n + 1) with q | q
    · have ih := sm_ins (n := n) (by omega) h1 h2 (fun j a b => h3 j a (by omega))
      have := h3 n (by omega) (by omega)
      rw [sm_s, ih, this, sm_s]; omega
    · have hp : p = n + 1 := by omega
      subst hp
      show sm g (n + 1) + g (n + 1) = _
      rw [h2, sm_congr (fun j hj => h1 j hj)]
theorem sm_up {f : Nat → Nat} {i w : Nat} : ∀ {n : Nat}, i < n → sm (va_up f i w) n + f i = sm f n + w
  | 0, h => by omega
  | n + 1, h => by
    rcases Nat.lt_or_ge i n with q | q
    · have ih := sm_up (f := f) (w := w) q
      rw [sm_s, sm_s]
      have : va_up f i w n = f n := by unfold va_up; rw [if_neg (by omega)]
      rw [this]; omega
    · have hi : i = n := by omega
      subst hi
      rw [sm_s, sm_s]
      have e : sm (va_up f i w) i = sm f i := sm_congr (fun j hj => by unfold va_up; rw [if_neg (by omega)])
      rw [e]; unfold va_up; rw [if_pos rfl]; omega
/-! NumberSet: the keys kf and the weights wf of the first sz places; am: what they weigh -/
def nsAt (G : Gd) (h : AH) (q : Nat) (kf wf : Nat → Nat) (sz am : Nat) : Prop := h q = some (oO 3 [.ref (q + 1), .ref (q + 2), .int (nI sz), .int (nI am)]) ∧ h (q + 1) = some (aI G 30 kf) ∧ h (q + 2) = some (aI G 30 wf)
def nsOk (kf wf : Nat → Nat) (sz am : Nat) : Prop := sz ≤ 30 ∧ (∀ j, j < sz → kf j < 100000000) ∧ (∀ i j, i < j → j < sz → kf i < kf j) ∧ (∀ j, j < sz → wf j ≤ 100) ∧ am = sm wf sz
theorem nsOk.am {kf wf : Nat → Nat} {sz am : Nat} (h : nsOk kf wf sz am) : am ≤ 3000 := by
  obtain ⟨h1, -, -, h4, rfl⟩ := h
  have := sm_bd (f := wf) (c := 100) (n := sz) h4
  omega
def nsPl (kf : Nat → Nat) (sz k p : Nat) : Prop := p ≤ sz ∧ (∀ j, j < p → kf j < k) ∧ (p < sz → k ≤ kf p)
theorem nsPl.up {kf wf : Nat → Nat} {sz am k p : Nat} (hO : nsOk kf wf sz am) (hp : nsPl kf sz k p) : ∀ j, p ≤ j → j < sz → k ≤ kf j := fun j h1 h2 => by
  have a := hp.2.2 (by omega)
  rcases Nat.lt_or_ge p j with q | q
  · have := hO.2.2.1 p j q h2; omega
  · rw [show j = p by omega]; exact a
/-- how the places stand behind an insertion at p -/
def nsIn (kf wf kf' wf' : Nat → Nat) (sz k w p : Nat) : Prop := p ≤ sz ∧ (∀ j, j < p → kf' j = kf j ∧ wf' j = wf j ∧ kf j < k) ∧ kf' p = k ∧ wf' p = w ∧ (∀ j, p ≤ j → j < sz → kf' (j + 1) = kf j ∧ wf' (j + 1) = wf j ∧ k < kf j) ∧ ∀ j, sz < j → kf' j = kf j ∧ wf' j = wf j
theorem nsIn.ok {kf wf kf' wf' : Nat → Nat} {sz am k w p : Nat} (hO : nsOk kf wf sz am) (hI : nsIn kf wf kf' wf' sz k w p) (hs : sz < 30) (hk : k < 100000000) (hw : w ≤ 100) : nsOk kf' wf' (sz + 1) (am + w) := by
  obtain ⟨o1, o2, o3, o4, o5⟩ := hO
  obtain ⟨p1, p2, p3, p4, p5, -⟩ := hI
  have at' : ∀ j, j < sz + 1 → (j < p ∧ kf' j = kf j ∧ wf' j = wf j ∧ kf j < k) ∨ (j = p ∧ kf' j = k ∧ wf' j = w) ∨ (p < j ∧ kf' j = kf (j - 1) ∧ wf' j = wf (j - 1) ∧ k < kf (j - 1)) := by
    intro j hj
    rcases Nat.lt_trichotomy j p with q | q | q
    · exact Or.inl ⟨q, p2 j q⟩
    · exact Or.inr (Or.inl ⟨q, by rw [q]; exact p3, by rw [q]; exact p4⟩)
    · have := p5 (j - 1) (by omega) (by omega)
      rw [show j - 1 + 1 = j by omega] at this
      exact Or.inr (Or.inr ⟨q, this⟩)
  refine ⟨by omega, fun j hj => ?_, fun i j hij hj => ?_, fun j hj => ?_, ?_⟩
  · rcases at' j hj with ⟨a, b, -⟩ | ⟨a, b, -⟩ | ⟨a, b, -⟩
    · rw [b]; exact o2 j (by omega)
    · rw [b]; exact hk
    · rw [b]; exact o2 (j - 1) (by omega)
  · rcases at' j hj with ⟨a, b, -, e⟩ | ⟨a, b, -⟩ | ⟨a, b, -, e⟩ <;> rcases at' i (by omega) with ⟨a', b', -, e'⟩ | ⟨a', b', -⟩ | ⟨a', b', -, e'⟩
    · rw [b, b']; exact o3 i j hij (by omega)
    · omega
    · omega
    · rw [b, b']; omega
    · omega
    · omega
    · rw [b, b']; omega
    · rw [b, b']; omega
    · rw [b, b']; exact o3 (i - 1) (j - 1) (by omega) (by omega)
  · rcases at' j hj with ⟨a, -, b, -⟩ | ⟨a, -, b⟩ | ⟨a, -, b, -⟩
    · rw [b]; exact o4 j (by omega)
    · rw [b]; exact hw
    · rw [b]; exact o4 (j - 1) (by omega)
  · rw [o5]
    exact (sm_ins p1 (fun j hj => (p2 j hj).2.1) p4 (fun j a b => (p5 j a b).2.1)).symm
theorem cpy_up {f : Nat → Nat} {p sz x j : Nat} (h : p ≤ sz) : va_up (va_cpy f f p (p + 1) (sz - p)) p x j = if j < p then f j else if j = p then x else if j ≤ sz then f (j - 1) else f j := by
  unfold va_up va_cpy
  by_cases h1 : j = p
  · rw [if_pos h1, if_neg (by omega), if_pos h1]
  · rw [if_neg h1]
    by_cases h2 : j < p
    · rw [if_pos h2, if_neg (by omega)]
    · rw [if_neg h2, if_neg h1]
      by_cases h3 : j ≤ sz
      · rw [if_pos h3, if_pos (by omega)]
        congr 1; omega
      · rw [if_neg h3, if_neg (by omega)]
theorem cpy_dn {f : Nat → Nat} {p m j : Nat} : va_cpy f f (p + 1) p m j = if p ≤ j ∧ j < p + m then f (j + 1) else f j := by
  unfold va_cpy
  by_cases h1 : p ≤ j ∧ j < p + m
  · rw [if_pos h1, if_pos h1]
    congr 1; omega
  · rw [if_neg h1, if_neg h1]
/-- the beginning: the fewest first places so that the rest weighs less than least -/
def isBeg (wf : Nat → Nat) (sz am least p : Nat) : Prop := p ≤ sz ∧ (∀ j, j < p → least ≤ am - sm wf j) ∧ (p < sz → am - sm wf p < least)
theorem isBeg.one {wf : Nat → Nat} {sz am least p p' : Nat} (h : isBeg wf sz am least p) (h' : isBeg wf sz am least p') : p = p' := by
  rcases Nat.lt_trichotomy p p' with q | q | q
  · have a := h'.2.1 p q
    have b := h.2.2 (by have := h'.1; omega)
    omega
  · exact q
  · have a := h.2.1 p' q
    have b := h'.2.2 (by have := h.1; omega)
    omega
/-! keys: the frequency in millions and the number -/
def tF (tn tv : Nat → Nat) (sz : Nat) : Nat → Nat := fun v => (tget tn tv sz v).getD 0
def kyF (F : Nat → Nat) (v : Nat) : Nat := F v * 1000000 + v
theorem kyF_mod {F : Nat → Nat} {v : Nat} (h : v < 1000000) : kyF F v % 1000000 = v := by unfold kyF; omega
theorem kyF_inj {F : Nat → Nat} {u v : Nat} (hu : u < 1000000) (hv : v < 1000000) (h : kyF F u = kyF F v) : u = v := by
  have := congrArg (· % 1000000) h
  simp only [kyF_mod hu, kyF_mod hv] at this
  exact this
theorem tabAt.kept {G : Gd} {h h' : AH} {a cap sz lo hi : Nat} {tn tv : Nat → Nat} (hT : tabAt G h a cap tn tv sz) (hf : fr lo hi h h') (hd : a + 3 ≤ lo ∨ hi ≤ a) : tabAt G h' a cap tn tv sz :=
  ⟨(hf _ (by omega)).trans hT.1, (hf _ (by omega)).trans hT.2.1, (hf _ (by omega)).trans hT.2.2⟩
theorem nsAt.kept {G : Gd} {h h' : AH} {q sz am lo hi : Nat} {kf wf : Nat → Nat} (hT : nsAt G h q kf wf sz am) (hf : fr lo hi h h') (hd : q + 3 ≤ lo ∨ hi ≤ q) : nsAt G h' q kf wf sz am :=
  ⟨(hf _ (by omega)).trans hT.1, (hf _ (by omega)).trans hT.2.1, (hf _ (by omega)).trans hT.2.2⟩
/-- the first n pairs -/
def prs (kf wf : Nat → Nat) : Nat → List (Nat × Nat)
  | 0 => []
  | n + 1 => prs kf wf n ++ [(kf n, wf n)]
theorem prs_congr {kf wf kf' wf' : Nat → Nat} : ∀ {n : Nat}, (∀ j, j < n → kf' j = kf j ∧ wf' j = wf j) → prs kf' wf' n = prs kf wf n
  | 0, _ => rfl
  | n + 1, h => by
    unfold prs
    rw [prs_congr (fun j hj => h j (by omega)), (h n (by omega)).1, (h n (by omega)).2]
theorem prs_len {kf wf : Nat → Nat} : ∀ {n : Nat}, (prs kf wf n).length = n
  | 0 => rfl
  | n + 1 => by unfold prs; simp [prs_len]
theorem prs_mem {kf wf : Nat → Nat} {e : Nat × Nat} : ∀ {n : Nat}, e ∈ prs kf wf n ↔ ∃ j, j < n ∧ e = (kf j, wf j)
  | 0 => by simp [prs]
  | n + 1 => by
    unfold prs
    rw [List.mem_append, prs_mem, List.mem_singleton]
    constructor
    · rintro (⟨j, h1, h2⟩ | h)
      · exact ⟨j, by omega, h2⟩
      · exact ⟨n, by omega, h⟩
    · rintro ⟨j, h1, h2⟩
      rcases Nat.lt_or_ge j n with q | q
      · exact Or.inl ⟨j, q, h2⟩
      · rw [show j = n by omega] at h2; exact Or.inr h2
theorem prs_ins {kf wf kf' wf' : Nat → Nat} {k w p : Nat} : ∀ {n : Nat}, p ≤ n → (∀ j, j < p → kf' j = kf j ∧ wf' j = wf j) → kf' p = k → wf' p = w → (∀ j, p ≤ j → j < n → kf' (j + 1) = kf j ∧ wf' (j + 1) = wf j) → (prs kf' wf' (n + 1)).Perm ((k, w) :: prs kf wf n)
  | 0, h, h1, h2, h3, h4 => by
    rw [show p = 0 by omega] at h2 h3
    simp [prs, h2, h3]
  | n + 1, h, h1, h2, h3, h4 => by
    rcases Nat.lt_or_ge p (n + 1) with q | q
    · have ih := prs_ins (n := n) (by omega) h1 h2 h3 (fun j a b => h4 j a (by omega))
      have e := h4 n (by omega) (by omega)
      show (prs kf' wf' (n + 1) ++ [(kf' (n + 1), wf' (n + 1))]).Perm ((k, w) :: (prs kf wf n ++ [(kf n, wf n)]))
      rw [e.1, e.2, ← List.cons_append]
      exact ih.append_right _
    · have hp : p = n + 1 := by omega
      subst hp
      show (prs kf' wf' (n + 1) ++ [(kf' (n + 1), wf' (n + 1))]).Perm _
      rw [h2, h3, prs_congr (fun j hj => h1 j hj)]
      exact List.perm_append_singleton _ _
theorem nsIn.perm {kf wf kf' wf' : Nat → Nat} {sz k w p : Nat} (h : nsIn kf wf kf' wf' sz k w p) : (prs kf' wf' (sz + 1)).Perm ((k, w) :: prs kf wf sz) :=
  prs_ins h.1 (fun j hj => ⟨(h.2.1 j hj).1, (h.2.1 j hj).2.1⟩) h.2.2.1 h.2.2.2.1 (fun j a b => ⟨(h.2.2.2.2.1 j a b).1, (h.2.2.2.2.1 j a b).2.1⟩)
