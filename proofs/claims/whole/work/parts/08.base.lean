/-! fewer locals, slot by slot -/
def lvLe : List (Option Value) → List (Option Value) → Prop
  | [], [] => True
  | none :: a, _ :: b => lvLe a b
  | some v :: a, w :: b => w = some v ∧ lvLe a b
  | _, _ => False
theorem lvLe_ok : ∀ {a b : List (Option Value)}, lvLe a b → a.length = b.length ∧ ∀ (i : Nat) (v : Value), a[i]? = some (some v) → b[i]? = some (some v)
  | [], [], _ => ⟨rfl, fun i v h => by simp at h⟩
  | none :: a, w :: b, h => by
    obtain ⟨h1, h2⟩ := lvLe_ok (a := a) (b := b) h
    refine ⟨by simp [h1], fun i v hi => ?_⟩
    cases i with
    | zero => simp at hi
    | succ i => simp only [List.getElem?_cons_succ] at hi ⊢; exact h2 i v hi
  | some u :: a, w :: b, h => by
    obtain ⟨hw, h⟩ := h
    obtain ⟨h1, h2⟩ := lvLe_ok (a := a) (b := b) h
    refine ⟨by simp [h1], fun i v hi => ?_⟩
    cases i with
    | zero => simp at hi; subst hi; simp [hw]
    | succ i => simp only [List.getElem?_cons_succ] at hi ⊢; exact h2 i v hi
  | [], _ :: _, h => h.elim
  | none :: _, [], h => h.elim
  | some _ :: _, [], h => h.elim
theorem V.loc2 {X : CX} {k n z pc : Nat} {h : AH} {lv lv' : List (Option Value)} {st : List Value} (hl : lvLe lv' lv) (kk : V X k n z h pc lv' st) : V X k n z h pc lv st := V.loc (lvLe_ok hl).1 (lvLe_ok hl).2 kk
theorem V.stk {X : CX} {k n z pc : Nat} {h : AH} {lv : List (Option Value)} {st st' : List Value} (e : st = st') (kk : V X k n z h pc lv st') : V X k n z h pc lv st := by rw [e]; exact kk
/-- nothing outside lo .. hi has changed -/
def fr (lo hi : Nat) (h h' : AH) : Prop := ∀ q, q < lo ∨ hi ≤ q → h' q = h q
theorem fr.rf {lo hi : Nat} {h : AH} : fr lo hi h h := fun _ _ => rfl
theorem fr.up {lo hi a : Nat} {h h' : AH} {e : va_E} (hf : fr lo hi h h') (h1 : lo ≤ a) (h2 : a < hi) : fr lo hi h (hup h' a e) := fun q hq => (hup_n (by omega)).trans (hf q hq)
theorem fr.tr {lo hi : Nat} {h h' h'' : AH} (h1 : fr lo hi h h') (h2 : fr lo hi h' h'') : fr lo hi h h'' := fun q hq => (h2 q hq).trans (h1 q hq)
theorem fr.mono {lo hi lo' hi' : Nat} {h h' : AH} (hf : fr lo hi h h') (h1 : lo' ≤ lo) (h2 : hi ≤ hi') : fr lo' hi' h h' := fun q hq => hf q (by omega)
theorem i32_le {x y : Int32} : x ≤ y ↔ x.toInt ≤ y.toInt := Int32.le_iff_toInt_le
theorem i32_lt {x y : Int32} : x < y ↔ x.toInt < y.toInt := Int32.lt_iff_toInt_lt
theorem i32_eq {x y : Int32} : x = y ↔ x.toInt = y.toInt := Int32.toInt_inj.symm
theorem i32_rng (x : Int32) : -2147483648 ≤ x.toInt ∧ x.toInt < 2147483648 := ⟨Int32.le_toInt x, Int32.toInt_lt x⟩
/-- a Nat in front of an int -/
theorem i32_nI {x : Int32} {n : Nat} (hn : n < 2 ^ 31) : nI n ≤ x ↔ (n : Int) ≤ x.toInt := by rw [i32_le, nI_toInt hn]
theorem i32_nI' {x : Int32} {n : Nat} (hn : n < 2 ^ 31) : x ≤ nI n ↔ x.toInt ≤ (n : Int) := by rw [i32_le, nI_toInt hn]
theorem i32_nIl {x : Int32} {n : Nat} (hn : n < 2 ^ 31) : nI n < x ↔ (n : Int) < x.toInt := by rw [i32_lt, nI_toInt hn]
theorem i32_nIl' {x : Int32} {n : Nat} (hn : n < 2 ^ 31) : x < nI n ↔ x.toInt < (n : Int) := by rw [i32_lt, nI_toInt hn]
theorem i32_nIe {x : Int32} {n : Nat} (hn : n < 2 ^ 31) : nI n = x ↔ (n : Int) = x.toInt := by rw [i32_eq, nI_toInt hn]
theorem i32_nIe' {x : Int32} {n : Nat} (hn : n < 2 ^ 31) : x = nI n ↔ x.toInt = (n : Int) := by rw [i32_eq, nI_toInt hn]
/-! Table: the numbers tn and the values tv of the first sz places -/
def tabAt (G : Gd) (h : AH) (a cap : Nat) (tn tv : Nat → Nat) (sz : Nat) : Prop := h a = some (oO 5 [.ref (a + 1), .ref (a + 2), .int (nI sz)]) ∧ h (a + 1) = some (aI G cap tn) ∧ h (a + 2) = some (aI G cap tv)
def tabOk (cap : Nat) (tn : Nat → Nat) (sz : Nat) : Prop := sz ≤ cap ∧ cap ≤ 1800 ∧ (∀ j, j < sz → tn j < 1000000) ∧ ∀ i j, i < j → j < sz → tn i < tn j
/-- p: where v stands, or would stand -/
def tabPl (tn : Nat → Nat) (sz : Nat) (v : Int32) (p : Nat) : Prop := p ≤ sz ∧ (∀ j, j < p → (tn j : Int) < v.toInt) ∧ ∀ j, p ≤ j → j < sz → v.toInt ≤ (tn j : Int)
/-- what the table says of v -/
def tget (tn tv : Nat → Nat) : Nat → Nat → Option Nat
  | 0, _ => none
  | n + 1, v => if tn n = v then some (tv n) else tget tn tv n v
theorem tget_mem {tn tv : Nat → Nat} : ∀ {n v w : Nat}, tget tn tv n v = some w → ∃ j, j < n ∧ tn j = v ∧ tv j = w
  | 0, v, w, h => by simp [tget] at h
  | n + 1, v, w, h => by
    unfold tget at h
    by_cases hv : tn n = v
    · rw [if_pos hv] at h
      exact ⟨n, by omega, hv, Option.some.inj h⟩
    · rw [if_neg hv] at h
      obtain ⟨j, h1, h2⟩ := tget_mem h
      exact ⟨j, by omega, h2⟩
theorem tget_no {tn tv : Nat → Nat} : ∀ {n v : Nat}, tget tn tv n v = none ↔ ∀ j, j < n → tn j ≠ v
  | 0, v => by simp [tget]
  | n + 1, v => by
    unfold tget
    by_cases hv : tn n = v
    · rw [if_pos hv]
      constructor
      · intro h; cases h
      · intro h; exact absurd hv (h n (by omega))
    · rw [if_neg hv, tget_no]
      constructor
      · intro h j hj
        rcases Nat.lt_or_ge j n with q | q
        · exact h j q
        · rw [show j = n by omega]; exact hv
      · intro h j hj; exact h j (by omega)
theorem tget_at {cap : Nat} {tn tv : Nat → Nat} {sz j : Nat} (hO : tabOk cap tn sz) (hj : j < sz) : tget tn tv sz (tn j) = some (tv j) := by
  cases hg : tget tn tv sz (tn j) with
  | none => exact absurd rfl (tget_no.mp hg j hj)
  | some w =>
    obtain ⟨i, h1, h2, h3⟩ := tget_mem hg
    have : i = j := by
      rcases Nat.lt_trichotomy i j with q | q | q
      · have := hO.2.2.2 i j q hj; omega
      · exact q
      · have := hO.2.2.2 j i q h1; omega
    rw [← h3, this]
theorem tget_iff {cap : Nat} {tn tv : Nat → Nat} {sz v w : Nat} (hO : tabOk cap tn sz) : tget tn tv sz v = some w ↔ ∃ j, j < sz ∧ tn j = v ∧ tv j = w := by
  constructor
  · exact tget_mem
  · rintro ⟨j, h1, rfl, rfl⟩
    exact tget_at hO h1
theorem opt_ext {α : Type} {x y : Option α} (h : ∀ w, x = some w ↔ y = some w) : x = y := by
  cases x with
  | none => cases y with
    | none => rfl
    | some b => exact absurd ((h b).mpr rfl) (by simp)
  | some a => exact ((h a).mp rfl).symm
/-- a new number at its place -/
theorem tab_ins {cap : Nat} {tn tv : Nat → Nat} {sz p k w : Nat} (hO : tabOk cap tn sz) (hp : tabPl tn sz (nI k) p) (hne : ∀ j, j < sz → tn j ≠ k) (hc : sz < cap) (hk : k < 1000000) :
    tabOk cap (va_up (va_cpy tn tn p (p + 1) (sz - p)) p k) (sz + 1) ∧ ∀ u, tget (va_up (va_cpy tn tn p (p + 1) (sz - p)) p k) (va_up (va_cpy tv tv p (p + 1) (sz - p)) p w) (sz + 1) u = if u = k then some w else tget tn tv sz u := by
  obtain ⟨o1, o2, o3, o4⟩ := id hO
  obtain ⟨p1, p2, p3⟩ := hp
  rw [nI_toInt (by omega)] at p2 p3
  have e : ∀ (f : Nat → Nat) (x j : Nat), j < sz + 1 → va_up (va_cpy f f p (p + 1) (sz - p)) p x j = if j < p then f j else if j = p then x else f (j - 1) := by
    intro f x j hj
    unfold va_up va_cpy
    by_cases h1 : j = p
    · rw [if_pos h1, if_neg (by omega), if_pos h1]
    · rw [if_neg h1]
      by_cases h2 : j < p
      · rw [if_pos h2, if_neg (by omega)]
      · rw [if_neg h2, if_neg h1, if_pos (by omega)]
        congr 1; omega
  have hO' : tabOk cap (va_up (va_cpy tn tn p (p + 1) (sz - p)) p k) (sz + 1) := by
    refine ⟨by omega, o2, fun j hj => ?_, fun i j hij hj => ?_⟩
    · rw [e tn k j hj]
      by_cases h1 : j < p
      · rw [if_pos h1]; exact o3 j (by omega)
      · rw [if_neg h1]
        by_cases h2 : j = p
        · rw [if_pos h2]; exact hk
        · rw [if_neg h2]; exact o3 (j - 1) (by omega)
    · rw [e tn k j hj, e tn k i (by omega)]
      by_cases h1 : j < p
      · rw [if_pos h1, if_pos (by omega)]; exact o4 i j hij (by omega)
      · rw [if_neg h1]
        by_cases h2 : j = p
        · rw [if_pos h2, if_pos (by omega)]
          have := p2 i (by omega); omega
        · rw [if_neg h2]
          have hkj : k < tn (j - 1) := by
            have := p3 (j - 1) (by omega) (by omega)
            have := hne (j - 1) (by omega)
            omega
          by_cases h3 : i < p
          · rw [if_pos h3]
            have := p2 i h3; omega
          · rw [if_neg h3]
            by_cases h4 : i = p
            · rw [if_pos h4]; exact hkj
            · rw [if_neg h4]; exact o4 (i - 1) (j - 1) (by omega) (by omega)
  refine ⟨hO', fun u => opt_ext fun x => ?_⟩
  rw [tget_iff hO']
  constructor
  · rintro ⟨j, h1, h2, h3⟩
    rw [e tn k j h1] at h2
    rw [e tv w j h1] at h3
    by_cases q1 : j < p
    · rw [if_pos q1] at h2 h3
      rw [if_neg (by have := hne j (by omega); omega)]
      exact (tget_iff hO).mpr ⟨j, by omega, h2, h3⟩
    · rw [if_neg q1] at h2 h3
      by_cases q2 : j = p
      · rw [if_pos q2] at h2 h3
        rw [if_pos h2.symm, h3]
      · rw [if_neg q2] at h2 h3
        rw [if_neg (by have := hne (j - 1) (by omega); omega)]
        exact (tget_iff hO).mpr ⟨j - 1, by omega, h2, h3⟩
  · intro hx
    by_cases hu : u = k
    · rw [if_pos hu] at hx
      refine ⟨p, by omega, ?_, ?_⟩
      · rw [e tn k p (by omega), if_neg (by omega), if_pos rfl]; exact hu.symm
      · rw [e tv w p (by omega), if_neg (by omega), if_pos rfl]; exact Option.some.inj hx
    · rw [if_neg hu] at hx
      obtain ⟨j, h1, h2, h3⟩ := tget_mem hx
      by_cases q : j < p
      · exact ⟨j, by omega, by rw [e tn k j (by omega), if_pos q]; exact h2, by rw [e tv w j (by omega), if_pos q]; exact h3⟩
      · exact ⟨j + 1, by omega, by rw [e tn k (j + 1) (by omega), if_neg (by omega), if_neg (by omega)]; exact h2, by rw [e tv w (j + 1) (by omega), if_neg (by omega), if_neg (by omega)]; exact h3⟩
/-- another value at the place of a number that is there -/
theorem tab_set {cap : Nat} {tn tv : Nat → Nat} {sz p w : Nat} (hO : tabOk cap tn sz) (hp : p < sz) (u : Nat) : tget tn (va_up tv p w) sz u = if u = tn p then some w else tget tn tv sz u := by
  refine opt_ext fun x => ?_
  rw [tget_iff hO]
  constructor
  · rintro ⟨j, h1, h2, h3⟩
    unfold va_up at h3
    by_cases q : j = p
    · rw [if_pos q] at h3
      rw [if_pos (by rw [← h2, q]), h3]
    · rw [if_neg q] at h3
      rw [if_neg (fun z => q (by
        rcases Nat.lt_trichotomy j p with r | r | r
        · have := hO.2.2.2 j p r hp; omega
        · exact r
        · have := hO.2.2.2 p j r h1; omega))]
      exact (tget_iff hO).mpr ⟨j, h1, h2, h3⟩
  · intro hx
    by_cases hu : u = tn p
    · rw [if_pos hu] at hx
      exact ⟨p, hp, hu.symm, by unfold va_up; rw [if_pos rfl]; exact Option.some.inj hx⟩
    · rw [if_neg hu] at hx
      obtain ⟨j, h1, h2, h3⟩ := tget_mem hx
      exact ⟨j, h1, h2, by unfold va_up; rw [if_neg (fun z => hu (by rw [← h2, z]))]; exact h3⟩
/-- the place of a number that isn't there holds no number like it -/
theorem tabPl_no {cap : Nat} {tn : Nat → Nat} {sz p : Nat} {v : Int32} (hO : tabOk cap tn sz) (hp : tabPl tn sz v p) (h : ¬ (p < sz ∧ (tn p : Int) = v.toInt)) : ∀ j, j < sz → (tn j : Int) ≠ v.toInt := by
  intro j hj e
  obtain ⟨p1, p2, p3⟩ := hp
  rcases Nat.lt_trichotomy j p with q | q | q
  · have := p2 j q; omega
  · subst q; exact h ⟨hj, e⟩
  · have a1 := hO.2.2.2 p j q hj
    have a2 := p3 p (by omega) (by omega)
    omega
/-- a weaker end of a contract -/
theorem Ct.weak {G : Gd} {y : MethodName} {cc : ByteArray} {mL : Nat} {ret : Option FieldType} {d mc ms : Nat} {av : List Value} {z : Nat} {h : AH} {post post' : Option Value → Nat → AH → Prop} (hC : Ct G y cc mL ret d mc ms av z h post) (hp : ∀ v z' h', post v z' h' → post' v z' h') : Ct G y cc mL ret d mc ms av z h post' := by
  intro l p e ha hc hk s m args below hf happ hP hK
  obtain ⟨n, o, h1, h2, h3, ⟨⟨v, z', h', q1, q2, q3, q4⟩, q5⟩, q6⟩ := hC l p e ha hc hk s m args below hf happ hP hK
  exact ⟨n, o, h1, h2, h3, ⟨⟨v, z', h', q1, hp v z' h' q2, q3, q4⟩, q5⟩, q6⟩
