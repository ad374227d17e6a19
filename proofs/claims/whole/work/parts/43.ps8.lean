/-! beginnings, places and fates as functions -/
def begF (w : Nat → Nat) (least : Nat) : List Nat → Nat
  | [] => 0
  | v :: L => if least ≤ amL w (v :: L) then begF w least L + 1 else 0
theorem begF_P (w : Nat → Nat) (least : Nat) : ∀ L, begP w L least (begF w least L)
  | [] => ⟨Nat.le_refl _, fun j hj => by simp [begF] at hj, fun h => by simp at h⟩
  | v :: L => by
    obtain ⟨h1, h2, h3⟩ := begF_P w least L
    by_cases h : least ≤ amL w (v :: L)
    · have e : begF w least (v :: L) = begF w least L + 1 := by rw [show begF w least (v :: L) = if least ≤ amL w (v :: L) then begF w least L + 1 else 0 from rfl, if_pos h]
      rw [e]
      refine ⟨by simp; omega, fun j hj => ?_, fun hl => ?_⟩
      · cases j with
        | zero => exact h
        | succ j => exact h2 j (by omega)
      · exact h3 (by simp at hl; omega)
    · have e : begF w least (v :: L) = 0 := by rw [show begF w least (v :: L) = if least ≤ amL w (v :: L) then begF w least L + 1 else 0 from rfl, if_neg h]
      rw [e]
      exact ⟨Nat.zero_le _, fun j hj => by omega, fun _ => by rw [List.drop_zero]; omega⟩
def aft (x : Nat) : List Nat → List Nat
  | [] => []
  | y :: D => if y = x then D else aft x D
theorem aft_at {x : Nat} {D : List Nat} : ∀ {C : List Nat}, x ∉ C → aft x (C ++ x :: D) = D
  | [], _ => by show aft x (x :: D) = D; unfold aft; rw [if_pos rfl]
  | c :: C, h => by
    rw [List.mem_cons, not_or] at h
    show aft x (c :: (C ++ x :: D)) = D
    unfold aft
    rw [if_neg (fun e => h.1 e.symm)]
    exact aft_at h.2
def mbF (w : Nat → Nat) : List Nat → List Nat → Nat
  | [], _ => 0
  | x :: B, M => if x ∈ M then w x + min (amL w B) (amL w (aft x M)) else mbF w B M
theorem mbF_no {w : Nat → Nat} {M : List Nat} : ∀ {L : List Nat}, (∀ v, v ∈ L → v ∉ M) → mbF w L M = 0
  | [], _ => rfl
  | x :: B, h => by
    unfold mbF
    rw [if_neg (h x List.mem_cons_self)]
    exact mbF_no (fun v hv => h v (List.mem_cons_of_mem _ hv))
theorem mbF_app {w : Nat → Nat} {M B : List Nat} : ∀ {A : List Nat}, (∀ v, v ∈ A → v ∉ M) → mbF w (A ++ B) M = mbF w B M
  | [], _ => rfl
  | x :: A, h => by
    show mbF w (x :: (A ++ B)) M = _
    unfold mbF
    rw [if_neg (h x List.mem_cons_self), mbF_app (fun v hv => h v (List.mem_cons_of_mem _ hv))]
    cases B <;> rfl
theorem mbL_F {w : Nat → Nat} {L M : List Nat} {mb : Nat} (hM : M.Nodup) (h : mbL w L M mb) : mb = mbF w L M := by
  rcases h with ⟨h1, h2⟩ | ⟨A, x, B, C, D, e1, e2, h3, h4⟩
  · rw [mbF_no h1, h2]
  · have hx : x ∈ M := by rw [e2]; simp
    have hC : x ∉ C := fun hc => by
      rw [e2, List.nodup_append] at hM
      exact hM.2.2 x hc x List.mem_cons_self rfl
    rw [e1, mbF_app h3]
    unfold mbF
    rw [if_pos hx, h4]
    congr 2
    rw [e2, aft_at hC]
def bgn (kd p q : Nat) (W : Nat → Nat) (L : List Nat) : Nat := begF W (leastN kd p q (amL W L)) L
theorem bgn_le (kd p q : Nat) (W : Nat → Nat) (L : List Nat) : bgn kd p q W L ≤ L.length := (begF_P W _ L).1
theorem begP_bgn {kd p q : Nat} {W : Nat → Nat} {L : List Nat} {b : Nat} (h : begP W L (leastN kd p q (amL W L)) b) : b = bgn kd p q W L := h.one (begF_P W _ L)
def whyN (kd p q : Nat) (W : Nat → Nat) (L M : List Nat) : Nat := fateN kd p q (amL W L) (amL W M) (sbL (bgn kd p q W L) (bgn kd p q W M) L M) (mbF W L M) (shL W L M)
theorem whyR_N {kd p q f : Nat} {W : Nat → Nat} {L M : List Nat} (hM : M.Nodup) (h : whyR kd p q W L M f) : f = whyN kd p q W L M := by
  obtain ⟨b, c, mb, h1, h2, h3, rfl⟩ := h
  unfold whyN
  rw [begP_bgn h1, begP_bgn h2, mbL_F hM h3]
theorem fateN_lt (kd p q a b sb mb sh : Nat) : fateN kd p q a b sb mb sh < 5 := by
  unfold fateN
  repeat' split
  all_goals omega
/-! all twos of records -/
def prS (al : Nat → Bool) (r : Nat) : Nat → List (Nat × Nat)
  | 0 => []
  | n + 1 => prS al r n ++ (if r < n ∧ al r = true ∧ al n = true then [(r, n)] else [])
def prL (al : Nat → Bool) (mk : Nat) : Nat → List (Nat × Nat)
  | 0 => []
  | r + 1 => prL al mk r ++ prS al r mk
theorem prS_s (al : Nat → Bool) (r n : Nat) : prS al r (n + 1) = prS al r n ++ (if r < n ∧ al r = true ∧ al n = true then [(r, n)] else []) := rfl
theorem prL_s (al : Nat → Bool) (mk r : Nat) : prL al mk (r + 1) = prL al mk r ++ prS al r mk := rfl
theorem prS_nil {al : Nat → Bool} {r : Nat} : ∀ {n : Nat}, n ≤ r + 1 → prS al r n = []
  | 0, _ => rfl
  | n + 1, h => by rw [prS_s, prS_nil (by omega), if_neg (by omega)]; rfl
theorem prS_len {al : Nat → Bool} {r : Nat} : ∀ {n : Nat}, (prS al r n).length ≤ n - (r + 1)
  | 0 => Nat.zero_le _
  | n + 1 => by
    have ih := prS_len (al := al) (r := r) (n := n)
    rw [prS_s, List.length_append]
    by_cases h : r < n ∧ al r = true ∧ al n = true
    · rw [if_pos h]; simp; omega
    · rw [if_neg h]; simp; omega
theorem prL_len {al : Nat → Bool} {mk : Nat} (hmk : mk ≤ 60) : ∀ {r : Nat}, r ≤ 60 → 2 * (prL al mk r).length ≤ r * (119 - r)
  | 0, _ => by simp [prL]
  | r + 1, h => by
    have ih := prL_len (al := al) hmk (r := r) (by omega)
    have hs := prS_len (al := al) (r := r) (n := mk)
    have hb : ∀ r, r < 60 → r * (119 - r) + 2 * (59 - r) ≤ (r + 1) * (119 - (r + 1)) := by decide
    have := hb r (by omega)
    rw [prL_s, List.length_append]
    omega
theorem prLS_len {al : Nat → Bool} {mk r s : Nat} (hmk : mk ≤ 60) (h1 : r < s) (h2 : s < mk) : (prL al mk r ++ prS al r s).length < 1770 := by
  have h3 := prL_len (al := al) hmk (r := r) (by omega)
  have h4 := prS_len (al := al) (r := r) (n := s)
  have hb : ∀ r, r < 59 → r * (119 - r) + 2 * (58 - r) < 3540 := by decide
  have := hb r (by omega)
  rw [List.length_append]
  omega
theorem prS_mem {al : Nat → Bool} {r : Nat} {e : Nat × Nat} : ∀ {n : Nat}, e ∈ prS al r n → e.1 = r ∧ r < e.2 ∧ e.2 < n ∧ al r = true ∧ al e.2 = true
  | 0, h => by cases h
  | n + 1, h => by
    rw [prS_s, List.mem_append] at h
    rcases h with h | h
    · have := prS_mem h
      exact ⟨this.1, this.2.1, by omega, this.2.2.2⟩
    · by_cases c : r < n ∧ al r = true ∧ al n = true
      · rw [if_pos c, List.mem_singleton] at h
        subst h
        exact ⟨rfl, c.1, by show n < n + 1; omega, c.2⟩
      · rw [if_neg c] at h; cases h
theorem prL_mem {al : Nat → Bool} {mk : Nat} {e : Nat × Nat} : ∀ {r : Nat}, e ∈ prL al mk r → e.1 < r ∧ e.1 < e.2 ∧ e.2 < mk ∧ al e.1 = true ∧ al e.2 = true
  | 0, h => by cases h
  | r + 1, h => by
    rw [prL_s, List.mem_append] at h
    rcases h with h | h
    · have := prL_mem h
      exact ⟨by omega, this.2⟩
    · obtain ⟨h1, h2, h3, h4, h5⟩ := prS_mem h
      rw [h1]
      exact ⟨by omega, h2, h3, h4, h5⟩
/-- the twos that are kept -/
def ktOk (sh : Nat × Nat → Nat) (K : List (Nat × Nat)) (f1 f2 f3 : Nat → Nat) (ks : Nat) : Prop := ks = K.length ∧ ∀ j, j < ks → f1 j = (K.getD j (0, 0)).1 ∧ f2 j = (K.getD j (0, 0)).2 ∧ f3 j = sh (K.getD j (0, 0))
theorem getD_app1 {α : Type} {K M : List α} {d : α} {j : Nat} (h : j < K.length) : (K ++ M).getD j d = K.getD j d := by
  rw [List.getD_eq_getElem?_getD, List.getD_eq_getElem?_getD, List.getElem?_append_left h]
theorem getD_app2 {α : Type} {K : List α} {e d : α} : (K ++ [e]).getD K.length d = e := by
  rw [List.getD_eq_getElem?_getD, List.getElem?_append_right (Nat.le_refl _), Nat.sub_self]; rfl
theorem ktOk.snoc {sh : Nat × Nat → Nat} {K : List (Nat × Nat)} {f1 f2 f3 : Nat → Nat} {ks : Nat} (h : ktOk sh K f1 f2 f3 ks) (r s b : Nat) (hb : b = sh (r, s)) : ktOk sh (K ++ [(r, s)]) (va_up f1 ks r) (va_up f2 ks s) (va_up f3 ks b) (ks + 1) := by
  obtain ⟨h1, h2⟩ := h
  refine ⟨by rw [List.length_append, h1]; rfl, fun j hj => ?_⟩
  by_cases e : j = ks
  · rw [e, vu_at, vu_at, vu_at, h1, getD_app2]
    exact ⟨rfl, rfl, hb⟩
  · rw [vu_ne _ _ e, vu_ne _ _ e, vu_ne _ _ e, getD_app1 (by omega)]
    exact h2 j (by omega)
def sbE (kd p q : Nat) (W : Nat → Nat) (L : Nat → List Nat) (e : Nat × Nat) : Nat := sbL (bgn kd p q W (L e.1)) (bgn kd p q W (L e.2)) (L e.1) (L e.2)
def shE (W : Nat → Nat) (L : Nat → List Nat) (e : Nat × Nat) : Nat := shL W (L e.1) (L e.2)
def fdE (kd p q : Nat) (W : Nat → Nat) (L : Nat → List Nat) (e : Nat × Nat) : Nat := whyN kd p q W (L e.1) (L e.2)
def cnE (kd p q : Nat) (W : Nat → Nat) (L : Nat → List Nat) (A : List (Nat × Nat)) (f : Nat) : List (Nat × Nat) := A.filter (fun e => decide (fdE kd p q W L e = f))
theorem cnE_snoc {kd p q : Nat} {W : Nat → Nat} {L : Nat → List Nat} {A : List (Nat × Nat)} {e : Nat × Nat} {f : Nat} : cnE kd p q W L (A ++ [e]) f = cnE kd p q W L A f ++ (if fdE kd p q W L e = f then [e] else []) := by
  unfold cnE
  rw [List.filter_append]
  congr 1
  by_cases h : fdE kd p q W L e = f
  · rw [if_pos h, List.filter_cons_of_pos (by simp [h])]; rfl
  · rw [if_neg h, List.filter_cons_of_neg (by simp [h])]; rfl
/-- the sieve, when the twos of A are through -/
def svOk (kd p q : Nat) (W : Nat → Nat) (L : Nat → List Nat) (A : List (Nat × Nat)) (ta : Nat → Nat) (sp : Nat) (f1 f2 f3 : Nat → Nat) (ks : Nat) : Prop := (∀ f, f < 5 → ta f = (cnE kd p q W L A f).length) ∧ sp = (A.map (sbE kd p q W L)).sum ∧ ktOk (shE W L) (cnE kd p q W L A 0) f1 f2 f3 ks
theorem svOk.yes {kd p q : Nat} {W : Nat → Nat} {L : Nat → List Nat} {A : List (Nat × Nat)} {ta : Nat → Nat} {sp : Nat} {f1 f2 f3 : Nat → Nat} {ks r s b : Nat} (h : svOk kd p q W L A ta sp f1 f2 f3 ks) (hf : fdE kd p q W L (r, s) = 0) (hb : b = shE W L (r, s)) : svOk kd p q W L (A ++ [(r, s)]) (va_up ta 0 (ta 0 + 1)) (sp + sbE kd p q W L (r, s)) (va_up f1 ks r) (va_up f2 ks s) (va_up f3 ks b) (ks + 1) := by
  obtain ⟨h1, h2, h3⟩ := h
  refine ⟨fun f hf5 => ?_, by rw [List.map_append, List.sum_append, h2]; simp, ?_⟩
  · rw [cnE_snoc, List.length_append]
    by_cases e : f = 0
    · rw [e, vu_at, if_pos hf, h1 0 (by omega)]; rfl
    · rw [vu_ne _ _ e, if_neg (by omega), h1 f hf5]; rfl
  · rw [cnE_snoc, if_pos hf]
    exact h3.snoc r s b hb
theorem svOk.no {kd p q : Nat} {W : Nat → Nat} {L : Nat → List Nat} {A : List (Nat × Nat)} {ta : Nat → Nat} {sp : Nat} {f1 f2 f3 : Nat → Nat} {ks r s g : Nat} (h : svOk kd p q W L A ta sp f1 f2 f3 ks) (hf : fdE kd p q W L (r, s) = g) (hg : g ≠ 0) : svOk kd p q W L (A ++ [(r, s)]) (va_up ta g (ta g + 1)) (sp + sbE kd p q W L (r, s)) f1 f2 f3 ks := by
  obtain ⟨h1, h2, h3⟩ := h
  refine ⟨fun f hf5 => ?_, by rw [List.map_append, List.sum_append, h2]; simp, ?_⟩
  · rw [cnE_snoc, List.length_append]
    by_cases e : f = g
    · rw [e, vu_at, if_pos hf, h1 g (by omega)]; rfl
    · rw [vu_ne _ _ e, if_neg (by omega), h1 f hf5]; rfl
  · rw [cnE_snoc, if_neg (by omega), List.append_nil]
    exact h3
theorem svOk.nil {kd p q : Nat} {W : Nat → Nat} {L : Nat → List Nat} {ta f1 f2 f3 : Nat → Nat} (h : ∀ f, f < 5 → ta f = 0) : svOk kd p q W L [] ta 0 f1 f2 f3 0 := ⟨fun f hf => h f hf, rfl, rfl, fun j hj => by omega⟩
def al (sa : Nat → Option Nat) : Nat → Bool := fun r => (sa r).isSome
