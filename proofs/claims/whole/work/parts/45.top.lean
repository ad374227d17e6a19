/-! the likest ones -/
def abE (kd : Nat) (W : Nat → Nat) (L : Nat → List Nat) (e : Nat × Nat) : Nat := aboveN kd (shE W L e)
def blE (kd : Nat) (W : Nat → Nat) (L : Nat → List Nat) (e : Nat × Nat) : Nat := belowN kd (amL W (L e.1)) (amL W (L e.2)) (shE W L e)
/-- e is liker than f -/
def lkE (kd : Nat) (W : Nat → Nat) (L : Nat → List Nat) (e f : Nat × Nat) : Bool := decide (abE kd W L f * blE kd W L e < abE kd W L e * blE kd W L f)
/-- e is not liker than f -/
def leE (kd : Nat) (W : Nat → Nat) (L : Nat → List Nat) (e f : Nat × Nat) : Prop := abE kd W L e * blE kd W L f ≤ abE kd W L f * blE kd W L e
def gdE (kd : Nat) (W : Nat → Nat) (L : Nat → List Nat) (e : Nat × Nat) : Prop := 0 < blE kd W L e ∧ abE kd W L e ≤ 9000000 ∧ blE kd W L e ≤ 9000000
theorem lkE_no {kd : Nat} {W : Nat → Nat} {L : Nat → List Nat} {e f : Nat × Nat} : lkE kd W L e f = false ↔ leE kd W L e f := by
  unfold lkE leE
  rw [decide_eq_false_iff_not, Nat.not_lt]
theorem lkE_le {kd : Nat} {W : Nat → Nat} {L : Nat → List Nat} {e f : Nat × Nat} (h : lkE kd W L e f = true) : leE kd W L f e := by
  unfold lkE at h
  unfold leE
  exact Nat.le_of_lt (of_decide_eq_true h)
theorem mul_tr {a b c x y w : Nat} (hy : 0 < y) (h1 : a * y ≤ b * x) (h2 : b * w ≤ c * y) : a * w ≤ c * x := by
  refine Nat.le_of_mul_le_mul_right (?_ : a * w * y ≤ c * x * y) hy
  calc a * w * y = a * y * w := Nat.mul_right_comm _ _ _
    _ ≤ b * x * w := Nat.mul_le_mul_right w h1
    _ = b * w * x := Nat.mul_right_comm _ _ _
    _ ≤ c * y * x := Nat.mul_le_mul_right x h2
    _ = c * x * y := Nat.mul_right_comm _ _ _
theorem leE_tr {kd : Nat} {W : Nat → Nat} {L : Nat → List Nat} {a b c : Nat × Nat} (hb : gdE kd W L b) (h1 : leE kd W L a b) (h2 : leE kd W L b c) : leE kd W L a c := mul_tr hb.1 h1 h2
def insE {α : Type} (lk : α → α → Bool) (e : α) : List α → List α
  | [] => [e]
  | x :: K => if lk e x = true then e :: x :: K else x :: insE lk e K
theorem insE_at {α : Type} {lk : α → α → Bool} {e d : α} : ∀ {K : List α} {p : Nat}, p ≤ K.length → (∀ j, j < p → lk e (K.getD j d) = false) → (p < K.length → lk e (K.getD p d) = true) → insE lk e K = K.take p ++ e :: K.drop p
  | [], p, h1, _, _ => by
    rw [show p = 0 by simpa using h1]; rfl
  | x :: K, 0, _, _, h3 => by
    have h4 : lk e x = true := h3 (by simp)
    show (if lk e x = true then e :: x :: K else x :: insE lk e K) = _
    rw [if_pos h4]; rfl
  | x :: K, p + 1, h1, h2, h3 => by
    have h4 : lk e x = false := h2 0 (by omega)
    show (if lk e x = true then e :: x :: K else x :: insE lk e K) = _
    rw [if_neg (by rw [h4]; decide), insE_at (d := d) (K := K) (p := p) (by simpa using h1) (fun j hj => h2 (j + 1) (by omega)) (fun h => h3 (by simpa using h))]
    rfl
theorem insG_getD {α : Type} {K : List α} {v d : α} {p j : Nat} (hp : p ≤ K.length) (hj : j < K.length + 1) : (K.take p ++ v :: K.drop p).getD j d = if j < p then K.getD j d else if j = p then v else K.getD (j - 1) d := by
  have hl : (K.take p).length = p := by rw [List.length_take]; omega
  rw [List.getD_eq_getElem?_getD]
  by_cases h1 : j < p
  · rw [if_pos h1, List.getElem?_append_left (by omega), List.getElem?_take_of_lt h1, List.getD_eq_getElem?_getD]
  · rw [if_neg h1, List.getElem?_append_right (by omega), hl]
    by_cases h2 : j = p
    · rw [if_pos h2, h2, Nat.sub_self]; rfl
    · rw [if_neg h2]
      obtain ⟨k, hk⟩ : ∃ k, j - p = k + 1 := ⟨j - p - 1, by omega⟩
      rw [hk, List.getElem?_cons_succ, List.getElem?_drop, List.getD_eq_getElem?_getD]
      congr 2; omega
theorem insG_len {α : Type} {K : List α} {v : α} {p : Nat} (hp : p ≤ K.length) : (K.take p ++ v :: K.drop p).length = K.length + 1 := by
  rw [List.length_append, List.length_take, List.length_cons, List.length_drop]; omega
theorem take_getD {α : Type} {K : List α} {d : α} {n j : Nat} (hj : j < n) : (K.take n).getD j d = K.getD j d := by
  rw [List.getD_eq_getElem?_getD, List.getD_eq_getElem?_getD, List.getElem?_take_of_lt hj]
theorem getDG_at {α : Type} {K : List α} {d : α} {j : Nat} (h : j < K.length) : K[j]? = some (K.getD j d) := by
  rw [List.getD_eq_getElem?_getD, List.getElem?_eq_getElem h]; rfl
theorem getDG_mem {α : Type} {K : List α} {d : α} {j : Nat} (h : j < K.length) : K.getD j d ∈ K := List.mem_of_getElem? (getDG_at h)
theorem memG_getD {α : Type} {K : List α} {v d : α} : v ∈ K ↔ ∃ j, j < K.length ∧ K.getD j d = v := by
  constructor
  · intro h
    obtain ⟨j, hj⟩ := List.getElem?_of_mem h
    have hl : j < K.length := (List.getElem?_eq_some_iff.mp hj).1
    exact ⟨j, hl, Option.some.inj ((getDG_at hl).symm.trans hj)⟩
  · rintro ⟨j, hj, rfl⟩
    exact getDG_mem hj
/-- the likest so far: K, and the rows that hold them -/
def topI (kd : Nat) (W : Nat → Nat) (L : Nat → List Nat) (n : Nat) (K : List (Nat × Nat)) : Prop := K.length ≤ n ∧ (∀ i j, i < j → j < K.length → leE kd W L (K.getD j (0, 0)) (K.getD i (0, 0))) ∧ ∀ e, e ∈ K → gdE kd W L e
def lkOk (kd : Nat) (W : Nat → Nat) (L : Nat → List Nat) (K : List (Nat × Nat)) (ab bw : Nat → Nat) : Prop := ∀ j, j < K.length → ab j = abE kd W L (K.getD j (0, 0)) ∧ bw j = blE kd W L (K.getD j (0, 0))
def topS (kd : Nat) (W : Nat → Nat) (L : Nat → List Nat) (n : Nat) (K : List (Nat × Nat)) (e : Nat × Nat) : List (Nat × Nat) := if 0 < shE W L e then (insE (lkE kd W L) e K).take n else K
def topA (kd : Nat) (W : Nat → Nat) (L : Nat → List Nat) (n : Nat) (A : List (Nat × Nat)) : List (Nat × Nat) := A.foldl (topS kd W L n) []
theorem topA_snoc {kd : Nat} {W : Nat → Nat} {L : Nat → List Nat} {n : Nat} {A : List (Nat × Nat)} {e : Nat × Nat} : topA kd W L n (A ++ [e]) = topS kd W L n (topA kd W L n A) e := by
  unfold topA
  rw [List.foldl_append]; rfl
theorem topI.nil {kd : Nat} {W : Nat → Nat} {L : Nat → List Nat} {n : Nat} : topI kd W L n [] := ⟨Nat.zero_le _, fun i j _ h => by simp at h, fun e h => by cases h⟩
/-- e comes in at p -/
theorem topI.ins {kd : Nat} {W : Nat → Nat} {L : Nat → List Nat} {n p : Nat} {K : List (Nat × Nat)} {e : Nat × Nat} (h : topI kd W L n K) (he : gdE kd W L e) (hs : 0 < shE W L e) (hp : p ≤ K.length) (h1 : ∀ j, j < p → leE kd W L e (K.getD j (0, 0))) (h2 : ∀ j, p ≤ j → j < K.length → lkE kd W L e (K.getD j (0, 0)) = true) :
    topS kd W L n K e = (K.take p ++ e :: K.drop p).take n ∧ topI kd W L n (topS kd W L n K e) := by
  have e1 : topS kd W L n K e = (K.take p ++ e :: K.drop p).take n := by
    unfold topS
    rw [if_pos hs, insE_at (d := (0, 0)) hp (fun j hj => lkE_no.mpr (h1 j hj)) (fun hl => h2 p (Nat.le_refl _) hl)]
  refine ⟨e1, ?_⟩
  rw [e1]
  have hl : ((K.take p ++ e :: K.drop p).take n).length ≤ K.length + 1 := by rw [List.length_take, insG_len hp]; omega
  have hln : ((K.take p ++ e :: K.drop p).take n).length ≤ n := by rw [List.length_take]; omega
  refine ⟨hln, fun i j hij hj => ?_, fun f hf => ?_⟩
  · rw [take_getD (by omega), take_getD (by omega), insG_getD hp (by omega), insG_getD hp (by omega)]
    by_cases a1 : j < p
    · rw [if_pos a1, if_pos (by omega)]
      exact h.2.1 i j hij (by omega)
    · rw [if_neg a1]
      by_cases a2 : j = p
      · rw [if_pos a2, if_pos (by omega)]
        exact h1 i (by omega)
      · rw [if_neg a2]
        by_cases b1 : i < p
        · rw [if_pos b1]
          exact h.2.1 i (j - 1) (by omega) (by omega)
        · rw [if_neg b1]
          by_cases b2 : i = p
          · rw [if_pos b2]
            exact lkE_le (h2 (j - 1) (by omega) (by omega))
          · rw [if_neg b2]
            exact h.2.1 (i - 1) (j - 1) (by omega) (by omega)
  · have hf := List.mem_of_mem_take hf
    rcases List.mem_append.mp hf with q | q
    · exact h.2.2 f (List.mem_of_mem_take q)
    · rcases List.mem_cons.mp q with q | q
      · rw [q]; exact he
      · exact h.2.2 f (List.mem_of_mem_drop q)
theorem topI.skip {kd : Nat} {W : Nat → Nat} {L : Nat → List Nat} {n : Nat} {K : List (Nat × Nat)} {e : Nat × Nat} (hs : shE W L e = 0) : topS kd W L n K e = K := by
  unfold topS
  rw [if_neg (by omega)]
/-- the rows, when e comes in at p -/
theorem top_rows {K : List (Nat × Nat)} {e : Nat × Nat} {g : Nat × Nat → Nat} {f : Nat → Nat} {n p : Nat} (hp : p ≤ K.length) (hpn : p < n) (hK : K.length ≤ n) (hf : ∀ j, j < K.length → f j = g (K.getD j (0, 0))) :
    ((K.take p ++ e :: K.drop p).take n).length = min K.length (n - 1) + 1 ∧ ∀ j, j < min K.length (n - 1) + 1 → va_up (va_cpy f f p (p + 1) (min K.length (n - 1) - p)) p (g e) j = g (((K.take p ++ e :: K.drop p).take n).getD j (0, 0)) := by
  refine ⟨by rw [List.length_take, insG_len hp]; omega, fun j hj => ?_⟩
  rw [cpy_up (by omega), take_getD (by omega), insG_getD hp (by omega)]
  by_cases a1 : j < p
  · rw [if_pos a1, if_pos a1, hf j (by omega)]
  · rw [if_neg a1, if_neg a1]
    by_cases a2 : j = p
    · rw [if_pos a2, if_pos a2]
    · rw [if_neg a2, if_neg a2, if_pos (by omega), hf (j - 1) (by omega)]
theorem top_full {K : List (Nat × Nat)} {e : Nat × Nat} {n : Nat} (hK : K.length = n) : (K.take n ++ e :: K.drop n).take n = K := by
  rw [List.take_left' (by rw [List.length_take]; omega), ← hK, List.take_length]
