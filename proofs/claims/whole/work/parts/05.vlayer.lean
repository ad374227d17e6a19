/-! THE LAYER V: a machine over an abstract heap. X: all that stays during one activation; h: the cells by their addresses; z: the heap's size; lv: the locals by their slots -/
abbrev Gd : Type := va_G × (Nat → ClassId)
abbrev AH : Type := Nat → Option va_E
def tysG (G : Gd) : List (ClassId × FieldType) := [(G.2 0, .int), (G.2 1, .long), (G.2 2, .boolean), (G.2 3, .object "PairSieve$NumberSet")]
def KK (G : Gd) (U : State) : Prop := va_K G.1 vwCl (tysG G) U ∧ va_AO "PairSieve$NumberSet" U ∧ (∀ w ∈ NNf, va_Nw w U) ∧ ∀ w ∈ NNm, va_Nw w U
abbrev oI (G : Gd) (n : Nat) (f : Nat → Int32) : va_E := .inl (G.2 0, n, .inl f)
abbrev oJ (G : Gd) (n : Nat) (f : Nat → Int64) : va_E := .inl (G.2 1, n, .inr (.inl f))
abbrev oZ (G : Gd) (n : Nat) (f : Nat → Int32) : va_E := .inl (G.2 2, n, .inl f)
abbrev oN (G : Gd) (n : Nat) (f : Nat → Option Nat) : va_E := .inl (G.2 3, n, .inr (.inr (.inr (.inr f))))
abbrev oO (ci : Nat) (fs : List Value) : va_E := .inr (ci, fs)
def hv (G : Gd) (z : Nat) (h : AH) (H : Heap) : Prop := H.size = z ∧ ∀ (q : Nat) (e : va_E), h q = some e → va_at G.1 vwCl (q, e) H
def dm (h : AH) (z : Nat) : Nat → Prop := fun q => (∃ e, h q = some e) ∨ z ≤ q
def hup (h : AH) (a : Nat) (e : va_E) : AH := fun q => if q = a then some e else h q
theorem hup_s {h : AH} {a : Nat} {e : va_E} : hup h a e a = some e := if_pos rfl
theorem hup_n {h : AH} {a q : Nat} {e : va_E} (hq : q ≠ a) : hup h a e q = h q := if_neg hq
theorem hup_hup {h : AH} {a : Nat} {e e' : va_E} : hup (hup h a e) a e' = hup h a e' := by
  funext q
  unfold hup
  by_cases hq : q = a <;> simp [hq]
theorem hv.set {G : Gd} {z : Nat} {h : AH} {H H1 : Heap} {a : Nat} {e : va_E} (hh : hv G z h H) (he : va_at G.1 vwCl (a, e) H1) (z1 : H1.size = H.size) (oq : ∀ q : Nat, q ≠ a → H1[q]? = H[q]?) : hv G z (hup h a e) H1 := by
  refine ⟨z1.trans hh.1, fun q e' h' => ?_⟩
  by_cases hq : q = a
  · subst hq
    rw [hup_s] at h'
    cases h'
    exact he
  · rw [hup_n hq] at h'
    exact (hh.2 q e' h').kept (oq q hq)
theorem hv.push {G : Gd} {z : Nat} {h : AH} {H H1 : Heap} {e : va_E} (hh : hv G z h H) (he : va_at G.1 vwCl (z, e) H1) (z1 : H1.size = z + 1) (oq : ∀ q : Nat, q < z → H1[q]? = H[q]?) : hv G (z + 1) (hup h z e) H1 := by
  refine ⟨z1, fun q e' h' => ?_⟩
  by_cases hq : q = z
  · subst hq
    rw [hup_s] at h'
    cases h'
    exact he
  · rw [hup_n hq] at h'
    have hl : q < H.size := (hh.2 q e' h').lt
    rw [hh.1] at hl
    exact (hh.2 q e' h').kept (oq q hl)
/-- the locals: slot by slot; none: nothing is known of it -/
def lvh (ls : Array Slot) (lv : List (Option Value)) : Prop := ls.size = lv.length ∧ lv_wf ls ∧ ∀ (i : Nat) (v : Value), lv[i]? = some (some v) → ls[i]? = some (.val v)
def lvA (lv : List (Option Value)) : List (Nat × Value) := (List.range lv.length).filterMap (fun i => (lv[i]?.join).map (fun v => (i, v)))
theorem lvA_mem {lv : List (Option Value)} {i : Nat} {v : Value} : (i, v) ∈ lvA lv ↔ lv[i]? = some (some v) := by
  unfold lvA
  rw [List.mem_filterMap]
  constructor
  · rintro ⟨j, -, hj⟩
    cases hx : lv[j]? with
    | none => rw [hx] at hj; simp at hj
    | some o =>
      rw [hx] at hj
      cases o with
      | none => simp at hj
      | some w =>
        simp at hj
        obtain ⟨rfl, rfl⟩ := hj
        exact hx
  · intro h
    have hl : i < lv.length := (List.getElem?_eq_some_iff.mp h).1
    exact ⟨i, List.mem_range.mpr hl, by rw [h]; rfl⟩
theorem lvh.has {ls : Array Slot} {lv : List (Option Value)} (h : lvh ls lv) : lv_has ls lv.length (lvA lv) := ⟨h.1, h.2.1, fun q hq => h.2.2 q.1 q.2 (lvA_mem.mp hq)⟩
/-- a value of one slot, or of two, is put at i -/
def lvP (lv : List (Option Value)) (i : Nat) (v : Value) : List (Option Value) :=
  (match i with
    | 0 => lv
    | j + 1 => match lv[j]? with
      | some (some (.long _)) => lv.set j none
      | some (some (.double _)) => lv.set j none
      | _ => lv).set i (some v)
def lvQ (lv : List (Option Value)) (i : Nat) (v : Value) : List (Option Value) := (lvP lv i v).set (i + 1) none
theorem lvP_len (lv : List (Option Value)) (i : Nat) (v : Value) : (lvP lv i v).length = lv.length := by
  unfold lvP
  rw [List.length_set]
  split
  · rfl
  · split <;> simp
theorem lvP_at {lv : List (Option Value)} {i j : Nat} {v w : Value} (h : (lvP lv i v)[j]? = some (some w)) : (j = i ∧ w = v) ∨ (j ≠ i ∧ lv[j]? = some (some w) ∧ ¬ (j + 1 = i ∧ w.category = 2)) := by
  unfold lvP at h
  by_cases hj : j = i
  · subst hj
    left
    rw [List.getElem?_set] at h
    simp at h
    exact ⟨rfl, h.2.symm⟩
  · right
    rw [List.getElem?_set_ne (Ne.symm hj)] at h
    refine ⟨hj, ?_⟩
    cases i with
    | zero => exact ⟨h, by omega⟩
    | succ k =>
      simp only at h
      by_cases hk : j = k
      · subst hk
        cases hx : lv[j]? with
        | none => rw [hx] at h; simp only at h; rw [hx] at h; cases h
        | some o =>
          rw [hx] at h
          cases o with
          | none => simp only at h; rw [hx] at h; simp at h
          | some u =>
            cases u <;> simp only at h
            all_goals first
              | (rw [hx] at h; simp at h; subst h; exact ⟨rfl, by simp [Value.category]⟩)
              | (rw [List.getElem?_set] at h; simp at h)
      · have hne : ¬ (j + 1 = k + 1 ∧ w.category = 2) := by omega
        split at h
        · rw [List.getElem?_set_ne (Ne.symm hk)] at h; exact ⟨h, hne⟩
        · rw [List.getElem?_set_ne (Ne.symm hk)] at h; exact ⟨h, hne⟩
        · exact ⟨h, hne⟩
theorem lvh.put1 {ls ls' : Array Slot} {lv : List (Option Value)} {i : Nat} {v : Value} (h : lv_has ls' lv.length ((i, v) :: (lvA lv).filter (fun q => !(q.1 == i) && !(q.1 + 1 == i && q.2.category == 2)))) : lvh ls' (lvP lv i v) := by
  refine ⟨h.1.trans (lvP_len _ _ _).symm, h.2.1, fun j w hj => ?_⟩
  rcases lvP_at hj with ⟨rfl, rfl⟩ | ⟨h1, h2, h3⟩
  · exact h.2.2 (j, w) List.mem_cons_self
  · refine h.2.2 (j, w) (List.mem_cons_of_mem _ (List.mem_filter.mpr ⟨lvA_mem.mpr h2, ?_⟩))
    simp only [Bool.and_eq_true, Bool.not_eq_true', beq_eq_false_iff_ne, ne_eq, Bool.and_eq_false_iff]
    refine ⟨h1, ?_⟩
    by_cases hq : j + 1 = i
    · exact Or.inr (fun z => h3 ⟨hq, z⟩)
    · exact Or.inl hq
theorem lvh.put2 {ls ls' : Array Slot} {lv : List (Option Value)} {i : Nat} {v : Value} (h : lv_has ls' lv.length ((i, v) :: (lvA lv).filter (fun q => !(q.1 == i) && (!(q.1 == i + 1) && !(q.1 + 1 == i && q.2.category == 2))))) : lvh ls' (lvQ lv i v) := by
  refine ⟨by unfold lvQ; rw [List.length_set, lvP_len]; exact h.1, h.2.1, fun j w hj => ?_⟩
  unfold lvQ at hj
  by_cases hji : j = i + 1
  · subst hji
    rw [List.getElem?_set] at hj
    simp at hj
  · rw [List.getElem?_set_ne (Ne.symm hji)] at hj
    rcases lvP_at hj with ⟨rfl, rfl⟩ | ⟨h1, h2, h3⟩
    · exact h.2.2 (j, w) List.mem_cons_self
    · refine h.2.2 (j, w) (List.mem_cons_of_mem _ (List.mem_filter.mpr ⟨lvA_mem.mpr h2, ?_⟩))
      simp only [Bool.and_eq_true, Bool.not_eq_true', beq_eq_false_iff_ne, ne_eq, Bool.and_eq_false_iff]
      refine ⟨h1, hji, ?_⟩
      by_cases hq : j + 1 = i
      · exact Or.inr (fun z => h3 ⟨hq, z⟩)
      · exact Or.inl hq
/-- fewer values are known -/
theorem lvh.sub {ls : Array Slot} {lv lv' : List (Option Value)} (h : lvh ls lv) (hl : lv'.length = lv.length) (hs : ∀ (i : Nat) (v : Value), lv'[i]? = some (some v) → lv[i]? = some (some v)) : lvh ls lv' := ⟨h.1.trans hl.symm, h.2.1, fun i v hi => h.2.2 i v (hs i v hi)⟩
/-- the locals at a method's entry -/
def lvE : List Value → List (Option Value)
  | [] => []
  | v :: vs => if v.category = 2 then some v :: none :: lvE vs else some v :: lvE vs
def lvN (vs : List Value) (n : Nat) : List (Option Value) := lvE vs ++ List.replicate (n - (lvE vs).length) none
theorem lvE_args : ∀ (vs : List Value) (k i : Nat) (v : Value), (lvE vs)[i]? = some (some v) → (k + i, v) ∈ lv_args k vs
  | [], k, i, v, h => by simp [lvE] at h
  | w :: ws, k, i, v, h => by
    unfold lvE at h
    unfold lv_args
    by_cases hc : w.category = 2
    · rw [if_pos hc] at h ⊢
      match i, h with
      | 0, h => simp at h; subst h; exact List.mem_cons_self
      | 1, h => simp at h
      | j + 2, h =>
        simp only [List.getElem?_cons_succ] at h
        have := lvE_args ws (k + 2) j v h
        rw [show k + (j + 2) = k + 2 + j by omega]
        exact List.mem_cons_of_mem _ this
    · rw [if_neg hc] at h ⊢
      match i, h with
      | 0, h => simp at h; subst h; exact List.mem_cons_self
      | j + 1, h =>
        simp only [List.getElem?_cons_succ] at h
        have := lvE_args ws (k + 1) j v h
        rw [show k + (j + 1) = k + 1 + j by omega]
        exact List.mem_cons_of_mem _ this
theorem lvE_len : ∀ vs : List Value, (lvE vs).length = (lg_sl vs).length
  | [] => rfl
  | w :: ws => by
    have ih := lvE_len ws
    unfold lg_sl at ih
    unfold lvE lg_sl
    rw [List.flatMap_cons]
    by_cases hc : w.category = 2
    · rw [if_pos hc, if_pos hc]; simp [ih]
    · rw [if_neg hc, if_neg hc]; simp [ih]
theorem lvh.entry (vs : List Value) {n : Nat} (h : (lg_sl vs).length ≤ n) : lvh ((lg_sl vs ++ List.replicate (n - (lg_sl vs).length) Slot.unset).toArray) (lvN vs n) := by
  have e := lv_entry vs h
  refine ⟨?_, e.2.1, fun i v hi => ?_⟩
  · rw [e.1]; unfold lvN; rw [List.length_append, List.length_replicate, lvE_len]; omega
  · unfold lvN at hi
    by_cases hl : i < (lvE vs).length
    · rw [List.getElem?_append_left hl] at hi
      have := lvE_args vs 0 i v hi
      rw [Nat.zero_add] at this
      exact e.2.2 (i, v) this
    · rw [List.getElem?_append_right (by omega)] at hi
      have := List.eq_of_mem_replicate (List.mem_of_getElem? hi)
      cases this
/-! what stays in one activation -/
abbrev CX : Type := Program × Launch × Env × Room × State × MethodId × Array Value × List Frame × Method × Code × Gd × (Nat → Prop) × Heap × (State → Prop)
abbrev CX.p (X : CX) : Program := X.1
abbrev CX.l (X : CX) : Launch := X.2.1
abbrev CX.e (X : CX) : Env := X.2.2.1
abbrev CX.R (X : CX) : Room := X.2.2.2.1
abbrev CX.s (X : CX) : State := X.2.2.2.2.1
abbrev CX.m (X : CX) : MethodId := X.2.2.2.2.2.1
abbrev CX.a (X : CX) : Array Value := X.2.2.2.2.2.2.1
abbrev CX.b (X : CX) : List Frame := X.2.2.2.2.2.2.2.1
abbrev CX.mt (X : CX) : Method := X.2.2.2.2.2.2.2.2.1
abbrev CX.c (X : CX) : Code := X.2.2.2.2.2.2.2.2.2.1
abbrev CX.G (X : CX) : Gd := X.2.2.2.2.2.2.2.2.2.2.1
abbrev CX.A (X : CX) : Nat → Prop := X.2.2.2.2.2.2.2.2.2.2.2.1
abbrev CX.H (X : CX) : Heap := X.2.2.2.2.2.2.2.2.2.2.2.2.1
abbrev CX.Q (X : CX) : State → Prop := X.2.2.2.2.2.2.2.2.2.2.2.2.2
/-- the activation is sound: cc its code, nL its locals, own its class; d frames, mc cells, ms slots of room -/
def okX (X : CX) (cc : ByteArray) (nL : Nat) (own : String) (d mc ms : Nat) : Prop :=
  X.p.tables.exec = Jvm.exec ∧ X.c.code = cc ∧ X.c.maxLocals = nL ∧ X.s.vm.findClass own = some X.m.cls ∧ (∀ w ∈ GG, w.before X.a X.s = true) ∧ KK X.G X.s ∧ (∀ q, X.H.size ≤ q → X.A q) ∧ (d ≤ X.R.frames ∧ 40 * d ≤ X.R.locals ∧ mc ≤ X.R.cells ∧ ms ≤ X.R.slots) ∧ X.mt.locks = false
abbrev XW (X : CX) (H : Heap) (locs : List Loc) (k n : Nat) (g : JFrame) : Prop := W X.p X.l X.e X.R X.s X.m X.a X.b X.mt X.c H locs k n X.Q g
/-- from here (heap h of size z, k cells and n slots made, at pc, locals lv, stack st) the activation comes to its end -/
def V (X : CX) (k n z : Nat) (h : AH) (pc : Nat) (lv : List (Option Value)) (st : List Value) : Prop :=
  (∀ (q : Nat) (e : va_E), h q = some e → X.A q) → ∀ (H : Heap) (locs : List Loc) (ls : Array Slot), hv X.G z h H → va_S X.A X.H H locs → lvh ls lv → XW X H locs k n (F0 X.m pc ls st)
section VR
variable {X : CX} {cc : ByteArray} {nL : Nat} {own : String} {d mc ms : Nat} {k n z : Nat} {h : AH} {pc pc' : Nat} {lv lv' : List (Option Value)} {st st' : List Value}
theorem V.s (hs : ∀ (H : Heap) (locs : List Loc) (ls : Array Slot), lvh ls lv → XW X H locs k n (F0 X.m pc' ls st') → XW X H locs k n (F0 X.m pc ls st)) (kk : V X k n z h pc' lv st') : V X k n z h pc lv st :=
  fun hA H locs ls a b c => hs H locs ls c (kk hA H locs ls a b c)
/-- fewer locals are known -/
theorem V.loc (hl : lv'.length = lv.length) (hs : ∀ (i : Nat) (v : Value), lv'[i]? = some (some v) → lv[i]? = some (some v)) (kk : V X k n z h pc lv' st) : V X k n z h pc lv st :=
  fun hA H locs ls a b c => kk hA H locs ls a b (c.sub hl hs)
theorem V.widen {k' n' : Nat} (h1 : k ≤ k') (h2 : n ≤ n') (kk : V X k' n' z h pc lv st) : V X k n z h pc lv st :=
  fun hA H locs ls a b c => W.widen h1 h2 (kk hA H locs ls a b c)
/-- a cell is forgotten, or the heap is known by another name -/
theorem V.heap {h' : AH} (hs : ∀ (q : Nat) (e : va_E), h' q = some e → h q = some e) (kk : V X k n z h' pc lv st) : V X k n z h pc lv st :=
  fun hA H locs ls a b c => kk (fun q e he => hA q e (hs q e he)) H locs ls ⟨a.1, fun q e he => a.2 q e (hs q e he)⟩ b c
theorem V_iconst (hX : okX X cc nL own d mc ms) {i : Int} {v : Int32} (hd : decode cc pc = .ok (.iconst i, 1)) (hv : Int32.ofInt i = v) (hp : pc + 1 = pc') (kk : V X k n z h pc' lv (.int v :: st)) : V X k n z h pc lv (st) := by
  subst hp
  exact V.s (fun H locs ls _ w => lv_iconst hX.1 hX.2.1 hd hv w) kk
theorem V_bipush (hX : okX X cc nL own d mc ms) {i : Int} {v : Int32} (hd : decode cc pc = .ok (.bipush i, 2)) (hv : (Int8.ofInt i).toInt32 = v) (hp : pc + 2 = pc') (kk : V X k n z h pc' lv (.int v :: st)) : V X k n z h pc lv (st) := by
  subst hp
  exact V.s (fun H locs ls _ w => lv_bipush hX.1 hX.2.1 hd hv w) kk
theorem V_sipush (hX : okX X cc nL own d mc ms) {i : Int} {v : Int32} (hd : decode cc pc = .ok (.sipush i, 3)) (hv : (Int16.ofInt i).toInt32 = v) (hp : pc + 3 = pc') (kk : V X k n z h pc' lv (.int v :: st)) : V X k n z h pc lv (st) := by
  subst hp
  exact V.s (fun H locs ls _ w => lv_sipush hX.1 hX.2.1 hd hv w) kk
theorem V_lconst (hX : okX X cc nL own d mc ms) {i : Fin 2} {v : Int64} (hd : decode cc pc = .ok (.lconst i, 1)) (hv : Int64.ofNat (i : Nat) = v) (hp : pc + 1 = pc') (kk : V X k n z h pc' lv (.long v :: st)) : V X k n z h pc lv (st) := by
  subst hp
  exact V.s (fun H locs ls _ w => lv_lconst hX.1 hX.2.1 hd hv w) kk
theorem V_ldc (hX : okX X cc nL own d mc ms) {i : Nat} {v : Int32} (hd : decode cc pc = .ok (.ldc i, 2)) (hw : Cond.constant own i v ∈ GG) (hp : pc + 2 = pc') (kk : V X k n z h pc' lv (.int v :: st)) : V X k n z h pc lv (st) := by
  subst hp
  exact V.s (fun H locs ls _ w => lv_ldc hX.1 hX.2.1 hX.2.2.2.1 (hX.2.2.2.2.1 _ hw) hd w) kk
theorem V_ldcw (hX : okX X cc nL own d mc ms) {i : Nat} {v : Int32} (hd : decode cc pc = .ok (.ldc_w i, 3)) (hw : Cond.constant own i v ∈ GG) (hp : pc + 3 = pc') (kk : V X k n z h pc' lv (.int v :: st)) : V X k n z h pc lv (st) := by
  subst hp
  exact V.s (fun H locs ls _ w => lv_ldcw hX.1 hX.2.1 hX.2.2.2.1 (hX.2.2.2.2.1 _ hw) hd w) kk
theorem V_ldc2 (hX : okX X cc nL own d mc ms) {i : Nat} {v : Int64} (hd : decode cc pc = .ok (.ldc2_w i, 3)) (hw : Cond.constantLong own i v ∈ GG) (hp : pc + 3 = pc') (kk : V X k n z h pc' lv (.long v :: st)) : V X k n z h pc lv (st) := by
  subst hp
  exact V.s (fun H locs ls _ w => lv_ldc2 hX.1 hX.2.1 hX.2.2.2.1 (hX.2.2.2.2.1 _ hw) hd w) kk
theorem V_null (hX : okX X cc nL own d mc ms)  (hd : decode cc pc = .ok (.aconst_null, 1)) (hp : pc + 1 = pc') (kk : V X k n z h pc' lv (.null :: st)) : V X k n z h pc lv (st) := by
  subst hp
  exact V.s (fun H locs ls _ w => lv_null hX.1 hX.2.1 hd w) kk
theorem V_iload_n (hX : okX X cc nL own d mc ms) {i : Fin 4} {x : Int32} (hd : decode cc pc = .ok (.iload_n i, 1)) (hl : lv[(i : Nat)]? = some (some (.int x))) (hp : pc + 1 = pc') (kk : V X k n z h pc' lv (.int x :: st)) : V X k n z h pc lv st := by
  subst hp
  exact V.s (fun H locs ls c w => lv_iload_n hX.1 hX.2.1 hd rfl (c.2.2 _ _ hl) w) kk
theorem V_iload (hX : okX X cc nL own d mc ms) {i : Nat} {x : Int32} (hd : decode cc pc = .ok (.iload i, 2)) (hl : lv[i]? = some (some (.int x))) (hp : pc + 2 = pc') (kk : V X k n z h pc' lv (.int x :: st)) : V X k n z h pc lv st := by
  subst hp
  exact V.s (fun H locs ls c w => lv_iload hX.1 hX.2.1 hd (c.2.2 _ _ hl) w) kk
theorem V_lload_n (hX : okX X cc nL own d mc ms) {i : Fin 4} {x : Int64} (hd : decode cc pc = .ok (.lload_n i, 1)) (hl : lv[(i : Nat)]? = some (some (.long x))) (hp : pc + 1 = pc') (kk : V X k n z h pc' lv (.long x :: st)) : V X k n z h pc lv st := by
  subst hp
  exact V.s (fun H locs ls c w => lv_lload_n hX.1 hX.2.1 hd rfl (c.2.2 _ _ hl) w) kk
theorem V_lload (hX : okX X cc nL own d mc ms) {i : Nat} {x : Int64} (hd : decode cc pc = .ok (.lload i, 2)) (hl : lv[i]? = some (some (.long x))) (hp : pc + 2 = pc') (kk : V X k n z h pc' lv (.long x :: st)) : V X k n z h pc lv st := by
  subst hp
  exact V.s (fun H locs ls c w => lv_lload hX.1 hX.2.1 hd (c.2.2 _ _ hl) w) kk
theorem V_aload_n (hX : okX X cc nL own d mc ms) {i : Fin 4} {x : Nat} (hd : decode cc pc = .ok (.aload_n i, 1)) (hl : lv[(i : Nat)]? = some (some (.ref x))) (hp : pc + 1 = pc') (kk : V X k n z h pc' lv (.ref x :: st)) : V X k n z h pc lv st := by
  subst hp
  exact V.s (fun H locs ls c w => lv_aload_n hX.1 hX.2.1 hd rfl (c.2.2 _ _ hl) w) kk
theorem V_aload (hX : okX X cc nL own d mc ms) {i : Nat} {x : Nat} (hd : decode cc pc = .ok (.aload i, 2)) (hl : lv[i]? = some (some (.ref x))) (hp : pc + 2 = pc') (kk : V X k n z h pc' lv (.ref x :: st)) : V X k n z h pc lv st := by
  subst hp
  exact V.s (fun H locs ls c w => lv_aload hX.1 hX.2.1 hd (c.2.2 _ _ hl) w) kk
theorem V_aload_nN (hX : okX X cc nL own d mc ms) {i : Fin 4} (hd : decode cc pc = .ok (.aload_n i, 1)) (hl : lv[(i : Nat)]? = some (some .null)) (hp : pc + 1 = pc') (kk : V X k n z h pc' lv (.null :: st)) : V X k n z h pc lv st := by
  subst hp
  exact V.s (fun H locs ls c w => lv_aload_nN hX.1 hX.2.1 hd rfl (c.2.2 _ _ hl) w) kk
theorem V_aloadN (hX : okX X cc nL own d mc ms) {i : Nat} (hd : decode cc pc = .ok (.aload i, 2)) (hl : lv[i]? = some (some .null)) (hp : pc + 2 = pc') (kk : V X k n z h pc' lv (.null :: st)) : V X k n z h pc lv st := by
  subst hp
  exact V.s (fun H locs ls c w => lv_aloadN hX.1 hX.2.1 hd (c.2.2 _ _ hl) w) kk
theorem V_istore_n (hX : okX X cc nL own d mc ms) {i : Fin 4} {x : Int32} (hd : decode cc pc = .ok (.istore_n i, 1)) (hi : (i : Nat) < lv.length) (hl : lvP lv (i : Nat) (.int x) = lv') (hp : pc + 1 = pc') (kk : V X k n z h pc' lv' st) : V X k n z h pc lv (.int x :: st) := by
  subst hp; subst hl
  exact fun hA H locs ls a b c => lv_istore_n hX.1 hX.2.1 hd rfl c.has hi rfl (fun ls' c' => kk hA H locs ls' a b (lvh.put1 (ls := ls) c'))
theorem V_istore (hX : okX X cc nL own d mc ms) {i : Nat} {x : Int32} (hd : decode cc pc = .ok (.istore i, 2)) (hi : i < lv.length) (hl : lvP lv i (.int x) = lv') (hp : pc + 2 = pc') (kk : V X k n z h pc' lv' st) : V X k n z h pc lv (.int x :: st) := by
  subst hp; subst hl
  exact fun hA H locs ls a b c => lv_istore hX.1 hX.2.1 hd c.has hi rfl (fun ls' c' => kk hA H locs ls' a b (lvh.put1 (ls := ls) c'))
theorem V_lstore_n (hX : okX X cc nL own d mc ms) {i : Fin 4} {x : Int64} (hd : decode cc pc = .ok (.lstore_n i, 1)) (hi : (i : Nat) + 1 < lv.length) (hl : lvQ lv (i : Nat) (.long x) = lv') (hp : pc + 1 = pc') (kk : V X k n z h pc' lv' st) : V X k n z h pc lv (.long x :: st) := by
  subst hp; subst hl
  exact fun hA H locs ls a b c => lv_lstore_n hX.1 hX.2.1 hd rfl c.has hi rfl (fun ls' c' => kk hA H locs ls' a b (lvh.put2 (ls := ls) c'))
theorem V_lstore (hX : okX X cc nL own d mc ms) {i : Nat} {x : Int64} (hd : decode cc pc = .ok (.lstore i, 2)) (hi : i + 1 < lv.length) (hl : lvQ lv i (.long x) = lv') (hp : pc + 2 = pc') (kk : V X k n z h pc' lv' st) : V X k n z h pc lv (.long x :: st) := by
  subst hp; subst hl
  exact fun hA H locs ls a b c => lv_lstore hX.1 hX.2.1 hd c.has hi rfl (fun ls' c' => kk hA H locs ls' a b (lvh.put2 (ls := ls) c'))
theorem V_astore_n (hX : okX X cc nL own d mc ms) {i : Fin 4} {x : Nat} (hd : decode cc pc = .ok (.astore_n i, 1)) (hi : (i : Nat) < lv.length) (hl : lvP lv (i : Nat) (.ref x) = lv') (hp : pc + 1 = pc') (kk : V X k n z h pc' lv' st) : V X k n z h pc lv (.ref x :: st) := by
  subst hp; subst hl
  exact fun hA H locs ls a b c => lv_astore_n hX.1 hX.2.1 hd rfl c.has hi rfl (fun ls' c' => kk hA H locs ls' a b (lvh.put1 (ls := ls) c'))
theorem V_astore (hX : okX X cc nL own d mc ms) {i : Nat} {x : Nat} (hd : decode cc pc = .ok (.astore i, 2)) (hi : i < lv.length) (hl : lvP lv i (.ref x) = lv') (hp : pc + 2 = pc') (kk : V X k n z h pc' lv' st) : V X k n z h pc lv (.ref x :: st) := by
  subst hp; subst hl
  exact fun hA H locs ls a b c => lv_astore hX.1 hX.2.1 hd c.has hi rfl (fun ls' c' => kk hA H locs ls' a b (lvh.put1 (ls := ls) c'))
theorem V_astore_nN (hX : okX X cc nL own d mc ms) {i : Fin 4}  (hd : decode cc pc = .ok (.astore_n i, 1)) (hi : (i : Nat) < lv.length) (hl : lvP lv (i : Nat) (.null) = lv') (hp : pc + 1 = pc') (kk : V X k n z h pc' lv' st) : V X k n z h pc lv (.null :: st) := by
  subst hp; subst hl
  exact fun hA H locs ls a b c => lv_astore_nN hX.1 hX.2.1 hd rfl c.has hi rfl (fun ls' c' => kk hA H locs ls' a b (lvh.put1 (ls := ls) c'))
theorem V_astoreN (hX : okX X cc nL own d mc ms) {i : Nat}  (hd : decode cc pc = .ok (.astore i, 2)) (hi : i < lv.length) (hl : lvP lv i (.null) = lv') (hp : pc + 2 = pc') (kk : V X k n z h pc' lv' st) : V X k n z h pc lv (.null :: st) := by
  subst hp; subst hl
  exact fun hA H locs ls a b c => lv_astoreN hX.1 hX.2.1 hd c.has hi rfl (fun ls' c' => kk hA H locs ls' a b (lvh.put1 (ls := ls) c'))
theorem V_iinc (hX : okX X cc nL own d mc ms) {i : Nat} {j : Int} {x v : Int32} (hd : decode cc pc = .ok (.iinc i j, 3)) (hx : lv[i]? = some (some (.int x))) (hv : x + Int32.ofInt j = v) (hl : lvP lv i (.int v) = lv') (hp : pc + 3 = pc') (kk : V X k n z h pc' lv' st) : V X k n z h pc lv st := by
  subst hp; subst hl
  intro hA H locs ls a b c
  have hm : (i, Value.int x) ∈ lvA lv := lvA_mem.mpr hx
  obtain ⟨q, hq⟩ := List.getElem?_of_mem hm
  exact lv_iinc hX.1 hX.2.1 hd c.has hq hv (List.getElem?_eq_some_iff.mp hx).1 rfl (fun ls' c' => kk hA H locs ls' a b (lvh.put1 (ls := ls) c'))
theorem V_iadd (hX : okX X cc nL own d mc ms) {x y : Int32} (hd : decode cc pc = .ok (.iadd, 1)) (hp : pc + 1 = pc') (kk : V X k n z h pc' lv (.int (x + y) :: st)) : V X k n z h pc lv (.int y :: .int x :: st) := by
  subst hp
  exact V.s (fun H locs ls _ w => lv_iadd hX.1 hX.2.1 hd w) kk
theorem V_isub (hX : okX X cc nL own d mc ms) {x y : Int32} (hd : decode cc pc = .ok (.isub, 1)) (hp : pc + 1 = pc') (kk : V X k n z h pc' lv (.int (x - y) :: st)) : V X k n z h pc lv (.int y :: .int x :: st) := by
  subst hp
  exact V.s (fun H locs ls _ w => lv_isub hX.1 hX.2.1 hd w) kk
theorem V_imul (hX : okX X cc nL own d mc ms) {x y : Int32} (hd : decode cc pc = .ok (.imul, 1)) (hp : pc + 1 = pc') (kk : V X k n z h pc' lv (.int (x * y) :: st)) : V X k n z h pc lv (.int y :: .int x :: st) := by
  subst hp
  exact V.s (fun H locs ls _ w => lv_imul hX.1 hX.2.1 hd w) kk
theorem V_iand (hX : okX X cc nL own d mc ms) {x y : Int32} (hd : decode cc pc = .ok (.iand, 1)) (hp : pc + 1 = pc') (kk : V X k n z h pc' lv (.int (x &&& y) :: st)) : V X k n z h pc lv (.int y :: .int x :: st) := by
  subst hp
  exact V.s (fun H locs ls _ w => lv_iand hX.1 hX.2.1 hd w) kk
theorem V_ior (hX : okX X cc nL own d mc ms) {x y : Int32} (hd : decode cc pc = .ok (.ior, 1)) (hp : pc + 1 = pc') (kk : V X k n z h pc' lv (.int (x ||| y) :: st)) : V X k n z h pc lv (.int y :: .int x :: st) := by
  subst hp
  exact V.s (fun H locs ls _ w => lv_ior hX.1 hX.2.1 hd w) kk
theorem V_ixor (hX : okX X cc nL own d mc ms) {x y : Int32} (hd : decode cc pc = .ok (.ixor, 1)) (hp : pc + 1 = pc') (kk : V X k n z h pc' lv (.int (x ^^^ y) :: st)) : V X k n z h pc lv (.int y :: .int x :: st) := by
  subst hp
  exact V.s (fun H locs ls _ w => lv_ixor hX.1 hX.2.1 hd w) kk
theorem V_ladd (hX : okX X cc nL own d mc ms) {x y : Int64} (hd : decode cc pc = .ok (.ladd, 1)) (hp : pc + 1 = pc') (kk : V X k n z h pc' lv (.long (x + y) :: st)) : V X k n z h pc lv (.long y :: .long x :: st) := by
  subst hp
  exact V.s (fun H locs ls _ w => lv_ladd hX.1 hX.2.1 hd w) kk
theorem V_lsub (hX : okX X cc nL own d mc ms) {x y : Int64} (hd : decode cc pc = .ok (.lsub, 1)) (hp : pc + 1 = pc') (kk : V X k n z h pc' lv (.long (x - y) :: st)) : V X k n z h pc lv (.long y :: .long x :: st) := by
  subst hp
  exact V.s (fun H locs ls _ w => lv_lsub hX.1 hX.2.1 hd w) kk
theorem V_lmul (hX : okX X cc nL own d mc ms) {x y : Int64} (hd : decode cc pc = .ok (.lmul, 1)) (hp : pc + 1 = pc') (kk : V X k n z h pc' lv (.long (x * y) :: st)) : V X k n z h pc lv (.long y :: .long x :: st) := by
  subst hp
  exact V.s (fun H locs ls _ w => lv_lmul hX.1 hX.2.1 hd w) kk
theorem V_land (hX : okX X cc nL own d mc ms) {x y : Int64} (hd : decode cc pc = .ok (.land, 1)) (hp : pc + 1 = pc') (kk : V X k n z h pc' lv (.long (x &&& y) :: st)) : V X k n z h pc lv (.long y :: .long x :: st) := by
  subst hp
  exact V.s (fun H locs ls _ w => lv_land hX.1 hX.2.1 hd w) kk
theorem V_lor (hX : okX X cc nL own d mc ms) {x y : Int64} (hd : decode cc pc = .ok (.lor, 1)) (hp : pc + 1 = pc') (kk : V X k n z h pc' lv (.long (x ||| y) :: st)) : V X k n z h pc lv (.long y :: .long x :: st) := by
  subst hp
  exact V.s (fun H locs ls _ w => lv_lor hX.1 hX.2.1 hd w) kk
theorem V_lxor (hX : okX X cc nL own d mc ms) {x y : Int64} (hd : decode cc pc = .ok (.lxor, 1)) (hp : pc + 1 = pc') (kk : V X k n z h pc' lv (.long (x ^^^ y) :: st)) : V X k n z h pc lv (.long y :: .long x :: st) := by
  subst hp
  exact V.s (fun H locs ls _ w => lv_lxor hX.1 hX.2.1 hd w) kk
theorem V_irem (hX : okX X cc nL own d mc ms) {x y : Int32} (hd : decode cc pc = .ok (.irem, 1)) (hne : ¬ y = 0) (hp : pc + 1 = pc') (kk : V X k n z h pc' lv (.int (x - x / y * y) :: st)) : V X k n z h pc lv (.int y :: .int x :: st) := by
  subst hp
  exact V.s (fun H locs ls _ w => lv_irem hX.1 hX.2.1 hd hne w) kk
theorem V_ldiv (hX : okX X cc nL own d mc ms) {x y : Int64} (hd : decode cc pc = .ok (.ldiv, 1)) (hne : ¬ y = 0) (hp : pc + 1 = pc') (kk : V X k n z h pc' lv (.long (x / y) :: st)) : V X k n z h pc lv (.long y :: .long x :: st) := by
  subst hp
  exact V.s (fun H locs ls _ w => lv_ldiv hX.1 hX.2.1 hd hne w) kk
theorem V_lrem (hX : okX X cc nL own d mc ms) {x y : Int64} (hd : decode cc pc = .ok (.lrem, 1)) (hne : ¬ y = 0) (hp : pc + 1 = pc') (kk : V X k n z h pc' lv (.long (x - x / y * y) :: st)) : V X k n z h pc lv (.long y :: .long x :: st) := by
  subst hp
  exact V.s (fun H locs ls _ w => lv_lrem hX.1 hX.2.1 hd hne w) kk
theorem V_lneg (hX : okX X cc nL own d mc ms) {x : Int64} (hd : decode cc pc = .ok (.lneg, 1)) (hp : pc + 1 = pc') (kk : V X k n z h pc' lv (.long (-x) :: st)) : V X k n z h pc lv (.long x :: st) := by
  subst hp
  exact V.s (fun H locs ls _ w => lv_lneg hX.1 hX.2.1 hd w) kk
theorem V_ishl (hX : okX X cc nL own d mc ms) {x y : Int32} (hd : decode cc pc = .ok (.ishl, 1)) (hp : pc + 1 = pc') (kk : V X k n z h pc' lv (.int (x <<< (y &&& 31)) :: st)) : V X k n z h pc lv (.int y :: .int x :: st) := by
  subst hp
  exact V.s (fun H locs ls _ w => lv_ishl hX.1 hX.2.1 hd w) kk
theorem V_ishr (hX : okX X cc nL own d mc ms) {x y : Int32} (hd : decode cc pc = .ok (.ishr, 1)) (hp : pc + 1 = pc') (kk : V X k n z h pc' lv (.int (x >>> (y &&& 31)) :: st)) : V X k n z h pc lv (.int y :: .int x :: st) := by
  subst hp
  exact V.s (fun H locs ls _ w => lv_ishr hX.1 hX.2.1 hd w) kk
theorem V_iushr (hX : okX X cc nL own d mc ms) {x y : Int32} (hd : decode cc pc = .ok (.iushr, 1)) (hp : pc + 1 = pc') (kk : V X k n z h pc' lv (.int ((x.toUInt32 >>> (y.toUInt32 &&& Int32.toUInt32 31)).toInt32) :: st)) : V X k n z h pc lv (.int y :: .int x :: st) := by
  subst hp
  exact V.s (fun H locs ls _ w => lv_iushr hX.1 hX.2.1 hd rfl w) kk
theorem V_lushr (hX : okX X cc nL own d mc ms) {x : Int64} {y : Int32} (hd : decode cc pc = .ok (.lushr, 1)) (hp : pc + 1 = pc') (kk : V X k n z h pc' lv (.long ((x.toUInt64 >>> (y.toInt64.toUInt64 &&& Int64.toUInt64 63)).toInt64) :: st)) : V X k n z h pc lv (.int y :: .long x :: st) := by
  subst hp
  exact V.s (fun H locs ls _ w => lv_lushr hX.1 hX.2.1 hd rfl w) kk
theorem V_lshl (hX : okX X cc nL own d mc ms) {x : Int64} {y : Int32} (hd : decode cc pc = .ok (.lshl, 1)) (hp : pc + 1 = pc') (kk : V X k n z h pc' lv (.long (x <<< (y.toInt64 &&& 63)) :: st)) : V X k n z h pc lv (.int y :: .long x :: st) := by
  subst hp
  exact V.s (fun H locs ls _ w => lv_lshl hX.1 hX.2.1 hd rfl w) kk
theorem V_i2l (hX : okX X cc nL own d mc ms) {x : Int32} (hd : decode cc pc = .ok (.i2l, 1)) (hp : pc + 1 = pc') (kk : V X k n z h pc' lv (.long x.toInt64 :: st)) : V X k n z h pc lv (.int x :: st) := by
  subst hp
  exact V.s (fun H locs ls _ w => lv_i2l hX.1 hX.2.1 hd rfl w) kk
theorem V_l2i (hX : okX X cc nL own d mc ms) {x : Int64} (hd : decode cc pc = .ok (.l2i, 1)) (hp : pc + 1 = pc') (kk : V X k n z h pc' lv (.int x.toInt32 :: st)) : V X k n z h pc lv (.long x :: st) := by
  subst hp
  exact V.s (fun H locs ls _ w => lv_l2i hX.1 hX.2.1 hd rfl w) kk
theorem V_dup (hX : okX X cc nL own d mc ms) {va : Value} (hd : decode cc pc = .ok (.dup, 1)) (hc : va.category = 1) (hp : pc + 1 = pc') (kk : V X k n z h pc' lv (va :: va :: st)) : V X k n z h pc lv (va :: st) := by
  subst hp
  exact V.s (fun H locs ls _ w => lv_dup hX.1 hX.2.1 hd hc w) kk
theorem V_pop (hX : okX X cc nL own d mc ms) {va : Value} (hd : decode cc pc = .ok (.pop, 1)) (hc : va.category = 1) (hp : pc + 1 = pc') (kk : V X k n z h pc' lv (st)) : V X k n z h pc lv (va :: st) := by
  subst hp
  exact V.s (fun H locs ls _ w => lv_pop hX.1 hX.2.1 hd hc w) kk
theorem V_dup2_11 (hX : okX X cc nL own d mc ms) {va vb : Value} (hd : decode cc pc = .ok (.dup2, 1)) (hc : va.category = 1) (hc2 : vb.category = 1) (hp : pc + 1 = pc') (kk : V X k n z h pc' lv (va :: vb :: va :: vb :: st)) : V X k n z h pc lv (va :: vb :: st) := by
  subst hp
  exact V.s (fun H locs ls _ w => lv_dup2_11 hX.1 hX.2.1 hd hc hc2 w) kk
theorem V_dup2_2 (hX : okX X cc nL own d mc ms) {va : Value} (hd : decode cc pc = .ok (.dup2, 1)) (hc : va.category = 2) (hp : pc + 1 = pc') (kk : V X k n z h pc' lv (va :: va :: st)) : V X k n z h pc lv (va :: st) := by
  subst hp
  exact V.s (fun H locs ls _ w => lv_dup2_2 hX.1 hX.2.1 hd hc w) kk
theorem V_goto (hX : okX X cc nL own d mc ms) {off : Int} (hd : decode cc pc = .ok (.goto off, 3)) (ht : (pc : Int) + off = (pc' : Int)) (kk : V X k n z h pc' lv st) : V X k n z h pc lv st := V.s (fun H locs ls _ w => lv_goto hX.1 hX.2.1 hd ht w) kk
/-- two ways on -/
theorem V.br {C : Prop} {pt pf : Nat} {st'' : List Value} (hs : ∀ (H : Heap) (locs : List Loc) (ls : Array Slot), (C → XW X H locs k n (F0 X.m pt ls st')) → (¬ C → XW X H locs k n (F0 X.m pf ls st'')) → XW X H locs k n (F0 X.m pc ls st)) (kt : C → V X k n z h pt lv st') (kf : ¬ C → V X k n z h pf lv st'') : V X k n z h pc lv st :=
  fun hA H locs ls a b c => hs H locs ls (fun q => kt q hA H locs ls a b c) (fun q => kf q hA H locs ls a b c)
theorem V_if_eq (hX : okX X cc nL own d mc ms) {x : Int32} {off : Int} {pt : Nat} (hd : decode cc pc = .ok (.ifCond .eq off, 3)) (ht : (pc : Int) + off = (pt : Int)) (hp : pc + 3 = pc') (kt : x = 0 → V X k n z h pt lv st) (kf : ¬ (x = 0) → V X k n z h pc' lv st) : V X k n z h pc lv (.int x :: st) := by
  subst hp
  exact V.br (fun H locs ls a b => lv_if_eq hX.1 hX.2.1 hd ht a b) kt kf
theorem V_icmp_eq (hX : okX X cc nL own d mc ms) {x y : Int32} {off : Int} {pt : Nat} (hd : decode cc pc = .ok (.if_icmp .eq off, 3)) (ht : (pc : Int) + off = (pt : Int)) (hp : pc + 3 = pc') (kt : x = y → V X k n z h pt lv st) (kf : ¬ (x = y) → V X k n z h pc' lv st) : V X k n z h pc lv (.int y :: .int x :: st) := by
  subst hp
  exact V.br (fun H locs ls a b => lv_icmp_eq hX.1 hX.2.1 hd ht a b) kt kf
theorem V_if_ne (hX : okX X cc nL own d mc ms) {x : Int32} {off : Int} {pt : Nat} (hd : decode cc pc = .ok (.ifCond .ne off, 3)) (ht : (pc : Int) + off = (pt : Int)) (hp : pc + 3 = pc') (kt : ¬ x = 0 → V X k n z h pt lv st) (kf : x = 0 → V X k n z h pc' lv st) : V X k n z h pc lv (.int x :: st) := by
  subst hp
  exact V.br (fun H locs ls a b => lv_if_ne hX.1 hX.2.1 hd ht b a) kf kt
theorem V_icmp_ne (hX : okX X cc nL own d mc ms) {x y : Int32} {off : Int} {pt : Nat} (hd : decode cc pc = .ok (.if_icmp .ne off, 3)) (ht : (pc : Int) + off = (pt : Int)) (hp : pc + 3 = pc') (kt : ¬ x = y → V X k n z h pt lv st) (kf : x = y → V X k n z h pc' lv st) : V X k n z h pc lv (.int y :: .int x :: st) := by
  subst hp
  exact V.br (fun H locs ls a b => lv_icmp_ne hX.1 hX.2.1 hd ht b a) kf kt
theorem V_if_lt (hX : okX X cc nL own d mc ms) {x : Int32} {off : Int} {pt : Nat} (hd : decode cc pc = .ok (.ifCond .lt off, 3)) (ht : (pc : Int) + off = (pt : Int)) (hp : pc + 3 = pc') (kt : x < 0 → V X k n z h pt lv st) (kf : ¬ (x < 0) → V X k n z h pc' lv st) : V X k n z h pc lv (.int x :: st) := by
  subst hp
  exact V.br (fun H locs ls a b => lv_if_lt hX.1 hX.2.1 hd ht a b) kt kf
theorem V_icmp_lt (hX : okX X cc nL own d mc ms) {x y : Int32} {off : Int} {pt : Nat} (hd : decode cc pc = .ok (.if_icmp .lt off, 3)) (ht : (pc : Int) + off = (pt : Int)) (hp : pc + 3 = pc') (kt : x < y → V X k n z h pt lv st) (kf : ¬ (x < y) → V X k n z h pc' lv st) : V X k n z h pc lv (.int y :: .int x :: st) := by
  subst hp
  exact V.br (fun H locs ls a b => lv_icmp_lt hX.1 hX.2.1 hd ht a b) kt kf
theorem V_if_ge (hX : okX X cc nL own d mc ms) {x : Int32} {off : Int} {pt : Nat} (hd : decode cc pc = .ok (.ifCond .ge off, 3)) (ht : (pc : Int) + off = (pt : Int)) (hp : pc + 3 = pc') (kt : 0 ≤ x → V X k n z h pt lv st) (kf : ¬ (0 ≤ x) → V X k n z h pc' lv st) : V X k n z h pc lv (.int x :: st) := by
  subst hp
  exact V.br (fun H locs ls a b => lv_if_ge hX.1 hX.2.1 hd ht a b) kt kf
theorem V_icmp_ge (hX : okX X cc nL own d mc ms) {x y : Int32} {off : Int} {pt : Nat} (hd : decode cc pc = .ok (.if_icmp .ge off, 3)) (ht : (pc : Int) + off = (pt : Int)) (hp : pc + 3 = pc') (kt : y ≤ x → V X k n z h pt lv st) (kf : ¬ (y ≤ x) → V X k n z h pc' lv st) : V X k n z h pc lv (.int y :: .int x :: st) := by
  subst hp
  exact V.br (fun H locs ls a b => lv_icmp_ge hX.1 hX.2.1 hd ht a b) kt kf
theorem V_if_gt (hX : okX X cc nL own d mc ms) {x : Int32} {off : Int} {pt : Nat} (hd : decode cc pc = .ok (.ifCond .gt off, 3)) (ht : (pc : Int) + off = (pt : Int)) (hp : pc + 3 = pc') (kt : 0 < x → V X k n z h pt lv st) (kf : ¬ (0 < x) → V X k n z h pc' lv st) : V X k n z h pc lv (.int x :: st) := by
  subst hp
  exact V.br (fun H locs ls a b => lv_if_gt hX.1 hX.2.1 hd ht a b) kt kf
theorem V_icmp_gt (hX : okX X cc nL own d mc ms) {x y : Int32} {off : Int} {pt : Nat} (hd : decode cc pc = .ok (.if_icmp .gt off, 3)) (ht : (pc : Int) + off = (pt : Int)) (hp : pc + 3 = pc') (kt : y < x → V X k n z h pt lv st) (kf : ¬ (y < x) → V X k n z h pc' lv st) : V X k n z h pc lv (.int y :: .int x :: st) := by
  subst hp
  exact V.br (fun H locs ls a b => lv_icmp_gt hX.1 hX.2.1 hd ht a b) kt kf
theorem V_if_le (hX : okX X cc nL own d mc ms) {x : Int32} {off : Int} {pt : Nat} (hd : decode cc pc = .ok (.ifCond .le off, 3)) (ht : (pc : Int) + off = (pt : Int)) (hp : pc + 3 = pc') (kt : x ≤ 0 → V X k n z h pt lv st) (kf : ¬ (x ≤ 0) → V X k n z h pc' lv st) : V X k n z h pc lv (.int x :: st) := by
  subst hp
  exact V.br (fun H locs ls a b => lv_if_le hX.1 hX.2.1 hd ht a b) kt kf
theorem V_icmp_le (hX : okX X cc nL own d mc ms) {x y : Int32} {off : Int} {pt : Nat} (hd : decode cc pc = .ok (.if_icmp .le off, 3)) (ht : (pc : Int) + off = (pt : Int)) (hp : pc + 3 = pc') (kt : x ≤ y → V X k n z h pt lv st) (kf : ¬ (x ≤ y) → V X k n z h pc' lv st) : V X k n z h pc lv (.int y :: .int x :: st) := by
  subst hp
  exact V.br (fun H locs ls a b => lv_icmp_le hX.1 hX.2.1 hd ht a b) kt kf
/-! comparing longs and going on by it -/
theorem lg_lt (x y : Int64) : lg_cmp x y < 0 ↔ x < y := by
  unfold lg_cmp
  split
  · rename_i h; simp only [Int64.lt_iff_toInt_lt] at *; constructor
    · intro q; exact absurd q (by decide)
    · intro q; omega
  · split
    · rename_i h1 h2; simp only [Int64.lt_iff_toInt_lt] at *; constructor
      · intro q; exact absurd q (by decide)
      · intro q; subst h2; omega
    · rename_i h1 h2; constructor
      · intro _; simp only [Int64.lt_iff_toInt_lt] at *; have : x.toInt ≠ y.toInt := fun q => h2 (Int64.toInt_inj.mp q); omega
      · intro _; decide
theorem lg_eq (x y : Int64) : lg_cmp x y = 0 ↔ x = y := by
  unfold lg_cmp
  split
  · rename_i h; constructor
    · intro q; exact absurd q (by decide)
    · intro q; subst q; exact absurd h (Int64.lt_irrefl)
  · split
    · rename_i h1 h2; exact ⟨fun _ => h2, fun _ => rfl⟩
    · rename_i h1 h2; exact ⟨fun q => absurd q (by decide), fun q => absurd q h2⟩
theorem lg_gt (x y : Int64) : 0 < lg_cmp x y ↔ y < x := by
  unfold lg_cmp
  split
  · rename_i h; exact ⟨fun _ => h, fun _ => by decide⟩
  · split
    · rename_i h1 h2; exact ⟨fun q => absurd q (by decide), fun q => absurd q h1⟩
    · rename_i h1 h2; exact ⟨fun q => absurd q (by decide), fun q => absurd q h1⟩
theorem lg_le (x y : Int64) : lg_cmp x y ≤ 0 ↔ x ≤ y := by
  have h := lg_gt x y
  rw [← Int32.not_lt, h, Int64.not_lt]
theorem lg_ge (x y : Int64) : 0 ≤ lg_cmp x y ↔ y ≤ x := by
  have h := lg_lt x y
  rw [← Int32.not_lt, h, Int64.not_lt]
theorem V_lcmp_eq (hX : okX X cc nL own d mc ms) {x y : Int64} {off : Int} {p1 pt : Nat} (hd : decode cc pc = .ok (.lcmp, 1)) (hp1 : pc + 1 = p1) (hd2 : decode cc p1 = .ok (.ifCond .eq off, 3)) (ht : (p1 : Int) + off = (pt : Int)) (hp : p1 + 3 = pc') (kt : x = y → V X k n z h pt lv st) (kf : ¬ (x = y) → V X k n z h pc' lv st) : V X k n z h pc lv (.long y :: .long x :: st) := by
  subst hp1; subst hp
  refine V.s (fun H locs ls _ w => W.lcmp hX.1 hX.2.1 hd w) ?_
  exact V.br (fun H locs ls a b => lv_if_eq hX.1 hX.2.1 hd2 ht a b) (fun q => kt ((lg_eq x y).mp q)) (fun q => kf (fun q2 => q ((lg_eq x y).mpr q2)))
theorem V_lcmp_ne (hX : okX X cc nL own d mc ms) {x y : Int64} {off : Int} {p1 pt : Nat} (hd : decode cc pc = .ok (.lcmp, 1)) (hp1 : pc + 1 = p1) (hd2 : decode cc p1 = .ok (.ifCond .ne off, 3)) (ht : (p1 : Int) + off = (pt : Int)) (hp : p1 + 3 = pc') (kt : ¬ x = y → V X k n z h pt lv st) (kf : x = y → V X k n z h pc' lv st) : V X k n z h pc lv (.long y :: .long x :: st) := by
  subst hp1; subst hp
  refine V.s (fun H locs ls _ w => W.lcmp hX.1 hX.2.1 hd w) ?_
  exact V.br (fun H locs ls a b => lv_if_ne hX.1 hX.2.1 hd2 ht b a) (fun q => kf ((lg_eq x y).mp q)) (fun q => kt (fun q2 => q ((lg_eq x y).mpr q2)))
theorem V_lcmp_lt (hX : okX X cc nL own d mc ms) {x y : Int64} {off : Int} {p1 pt : Nat} (hd : decode cc pc = .ok (.lcmp, 1)) (hp1 : pc + 1 = p1) (hd2 : decode cc p1 = .ok (.ifCond .lt off, 3)) (ht : (p1 : Int) + off = (pt : Int)) (hp : p1 + 3 = pc') (kt : x < y → V X k n z h pt lv st) (kf : ¬ (x < y) → V X k n z h pc' lv st) : V X k n z h pc lv (.long y :: .long x :: st) := by
  subst hp1; subst hp
  refine V.s (fun H locs ls _ w => W.lcmp hX.1 hX.2.1 hd w) ?_
  exact V.br (fun H locs ls a b => lv_if_lt hX.1 hX.2.1 hd2 ht a b) (fun q => kt ((lg_lt x y).mp q)) (fun q => kf (fun q2 => q ((lg_lt x y).mpr q2)))
theorem V_lcmp_ge (hX : okX X cc nL own d mc ms) {x y : Int64} {off : Int} {p1 pt : Nat} (hd : decode cc pc = .ok (.lcmp, 1)) (hp1 : pc + 1 = p1) (hd2 : decode cc p1 = .ok (.ifCond .ge off, 3)) (ht : (p1 : Int) + off = (pt : Int)) (hp : p1 + 3 = pc') (kt : y ≤ x → V X k n z h pt lv st) (kf : ¬ (y ≤ x) → V X k n z h pc' lv st) : V X k n z h pc lv (.long y :: .long x :: st) := by
  subst hp1; subst hp
  refine V.s (fun H locs ls _ w => W.lcmp hX.1 hX.2.1 hd w) ?_
  exact V.br (fun H locs ls a b => lv_if_ge hX.1 hX.2.1 hd2 ht a b) (fun q => kt ((lg_ge x y).mp q)) (fun q => kf (fun q2 => q ((lg_ge x y).mpr q2)))
theorem V_lcmp_gt (hX : okX X cc nL own d mc ms) {x y : Int64} {off : Int} {p1 pt : Nat} (hd : decode cc pc = .ok (.lcmp, 1)) (hp1 : pc + 1 = p1) (hd2 : decode cc p1 = .ok (.ifCond .gt off, 3)) (ht : (p1 : Int) + off = (pt : Int)) (hp : p1 + 3 = pc') (kt : y < x → V X k n z h pt lv st) (kf : ¬ (y < x) → V X k n z h pc' lv st) : V X k n z h pc lv (.long y :: .long x :: st) := by
  subst hp1; subst hp
  refine V.s (fun H locs ls _ w => W.lcmp hX.1 hX.2.1 hd w) ?_
  exact V.br (fun H locs ls a b => lv_if_gt hX.1 hX.2.1 hd2 ht a b) (fun q => kt ((lg_gt x y).mp q)) (fun q => kf (fun q2 => q ((lg_gt x y).mpr q2)))
theorem V_lcmp_le (hX : okX X cc nL own d mc ms) {x y : Int64} {off : Int} {p1 pt : Nat} (hd : decode cc pc = .ok (.lcmp, 1)) (hp1 : pc + 1 = p1) (hd2 : decode cc p1 = .ok (.ifCond .le off, 3)) (ht : (p1 : Int) + off = (pt : Int)) (hp : p1 + 3 = pc') (kt : x ≤ y → V X k n z h pt lv st) (kf : ¬ (x ≤ y) → V X k n z h pc' lv st) : V X k n z h pc lv (.long y :: .long x :: st) := by
  subst hp1; subst hp
  refine V.s (fun H locs ls _ w => W.lcmp hX.1 hX.2.1 hd w) ?_
  exact V.br (fun H locs ls a b => lv_if_le hX.1 hX.2.1 hd2 ht a b) (fun q => kt ((lg_le x y).mp q)) (fun q => kf (fun q2 => q ((lg_le x y).mpr q2)))
/-! references and null -/
theorem V_ifnull (hX : okX X cc nL own d mc ms) {x : Nat} {off : Int} (hd : decode cc pc = .ok (.ifnull off, 3)) (hp : pc + 3 = pc') (kk : V X k n z h pc' lv st) : V X k n z h pc lv (.ref x :: st) := by
  subst hp
  exact V.s (fun H locs ls _ w => lv_ifnull hX.1 hX.2.1 hd w) kk
theorem V_ifnullN (hX : okX X cc nL own d mc ms) {off : Int} (hd : decode cc pc = .ok (.ifnull off, 3)) (ht : (pc : Int) + off = (pc' : Int)) (kk : V X k n z h pc' lv st) : V X k n z h pc lv (.null :: st) := V.s (fun H locs ls _ w => lv_ifnullN hX.1 hX.2.1 hd ht w) kk
theorem V_ifnonnull (hX : okX X cc nL own d mc ms) {x : Nat} {off : Int} (hd : decode cc pc = .ok (.ifnonnull off, 3)) (ht : (pc : Int) + off = (pc' : Int)) (kk : V X k n z h pc' lv st) : V X k n z h pc lv (.ref x :: st) := V.s (fun H locs ls _ w => lv_ifnonnull hX.1 hX.2.1 hd ht w) kk
theorem V_ifnonnullN (hX : okX X cc nL own d mc ms) {off : Int} (hd : decode cc pc = .ok (.ifnonnull off, 3)) (hp : pc + 3 = pc') (kk : V X k n z h pc' lv st) : V X k n z h pc lv (.null :: st) := by
  subst hp
  exact V.s (fun H locs ls _ w => lv_ifnonnullN hX.1 hX.2.1 hd w) kk
theorem V_tableIn (hX : okX X cc nL own d mc ms) {dflt lo hi : Int} {offs : Array Int} {len : Nat} {x : Int32} {off : Int} (hd : decode cc pc = .ok (.tableswitch dflt lo hi offs, len)) (h1 : ¬ x.toInt < lo) (h2 : ¬ hi < x.toInt) (ho : offs[(x.toInt - lo).toNat]? = some off) (ht : (pc : Int) + off = (pc' : Int)) (kk : V X k n z h pc' lv st) : V X k n z h pc lv (.int x :: st) := V.s (fun H locs ls _ w => lv_tableIn hX.1 hX.2.1 hd h1 h2 ho ht w) kk
theorem V_tableOut (hX : okX X cc nL own d mc ms) {dflt lo hi : Int} {offs : Array Int} {len : Nat} {x : Int32} (hd : decode cc pc = .ok (.tableswitch dflt lo hi offs, len)) (h1 : x.toInt < lo ∨ hi < x.toInt) (ht : (pc : Int) + dflt = (pc' : Int)) (kk : V X k n z h pc' lv st) : V X k n z h pc lv (.int x :: st) := V.s (fun H locs ls _ w => lv_tableOut hX.1 hX.2.1 hd h1 ht w) kk
theorem V_lookup (hX : okX X cc nL own d mc ms) {dflt : Int} {ps : Array (Int × Int)} {len : Nat} {x : Int32} {off : Int} (hd : decode cc pc = .ok (.lookupswitch dflt ps, len)) (hq : (ps.toList.zip (ps.toList.drop 1)).all (fun (a, next) => a.1 < next.1) = true) (ho : Op.lookupswitch.offset ps.toList dflt x.toInt = off) (ht : (pc : Int) + off = (pc' : Int)) (kk : V X k n z h pc' lv st) : V X k n z h pc lv (.int x :: st) := V.s (fun H locs ls _ w => lv_lookup hX.1 hX.2.1 hd hq ho ht w) kk
/-! fields -/
theorem hv.one {G : Gd} {H : Heap} {a : Nat} {e : va_E} (hh : hv G z h H) (ha : h a = some e) : va_P G.1 vwCl [(a, e)] H := fun k q hq => by
  match k, hq with
  | 0, hq => cases hq; exact hh.2 a e ha
  | k + 1, hq => simp at hq
theorem V_get (hX : okX X cc nL own d mc ms) {a ci index N : Nat} {C : String} {T : u_T} {fs : List Value} {v : Value} (hd : decode cc pc = .ok (.getfield index, 3)) (he : h a = some (.inr (ci, fs))) (hc : vwCl[ci]? = some (C, T, N)) (hin : ∀ w ∈ u_ws C T N, w ∈ GG) (i : Nat) (hi : i < N) (hw : Cond.fieldLink own index (T i).1 (T i).2.1 (T i).2.2.1 ∈ GG) (hf : fs[i]? = some v) (hp : pc + 3 = pc') (kk : V X k n z h pc' lv (v :: st)) : V X k n z h pc lv (.ref a :: st) := by
  subst hp
  exact fun hA H locs ls x b c => va_get hX.1 hX.2.1 hX.2.2.2.2.1 hin hX.2.2.2.1 hX.2.2.2.2.2.1.1 (x.one he) 0 rfl hc i hi (hX.2.2.2.2.1 _ hw) (fun _ h9 => h9) hf hd (kk hA H locs ls x b c)
theorem V_getN (hX : okX X cc nL own d mc ms) {a ci index N : Nat} {C host : String} {T : u_T} {fs : List Value} {v : Value} (hd : decode cc pc = .ok (.getfield index, 3)) (he : h a = some (.inr (ci, fs))) (hc : vwCl[ci]? = some (C, T, N)) (hin : ∀ w ∈ u_ws C T N, w ∈ GG) (i : Nat) (hi : i < N) (hw : Cond.fieldLinkNest own index (T i).1 (T i).2.1 (T i).2.2.1 host ∈ NNf) (hf : fs[i]? = some v) (hp : pc + 3 = pc') (kk : V X k n z h pc' lv (v :: st)) : V X k n z h pc lv (.ref a :: st) := by
  subst hp
  exact fun hA H locs ls x b c => va_getN hX.1 hX.2.1 hX.2.2.2.2.1 hin hX.2.2.2.1 hX.2.2.2.2.2.1.1 (x.one he) 0 rfl hc i hi (va_Nw.use rfl (hX.2.2.2.2.2.1.2.2.1 _ hw)) (fun _ h9 => h9) hf hd (kk hA H locs ls x b c)
theorem V_put (hX : okX X cc nL own d mc ms) {a ci index N : Nat} {C : String} {T : u_T} {fs fs' : List Value} {v : Value} {ty0 : Nat → FieldType} (hd : decode cc pc = .ok (.putfield index, 3)) (he : h a = some (.inr (ci, fs))) (hc : vwCl[ci]? = some (C, T, N)) (hin : ∀ w ∈ u_ws C T N, w ∈ GG) (hty : ∀ k, k < N → parseFieldDescriptor (T k).2.2.1 = some (ty0 k)) (hnm : ∀ a, a < N → ∀ b, b < N → a ≠ b → (T a).2.1 ≠ (T b).2.1) (i : Nat) (hi : i < N) (hw : Cond.fieldLink own index (T i).1 (T i).2.1 (T i).2.2.1 ∈ GG) (hfin : (T i).2.2.2 = false) {ty : FieldType} (hdt : parseFieldDescriptor (T i).2.2.1 = some ty) (hn : narrow ty v = v) (hfit : fits ty v = true) (hl : i < fs.length) (hfs : fs.set i v = fs') (hp : pc + 3 = pc') (kk : V X k n z (hup h a (.inr (ci, fs'))) pc' lv st) : V X k n z h pc lv (v :: .ref a :: st) := by
  subst hp; subst hfs
  intro hA H locs ls x b c
  have hts := hX.2.2.2.2.1
  have hK := hX.2.2.2.2.2.1.1
  have hap := va_apart (own := own) hts hin ty0 hty hnm hK hc
  obtain ⟨r, h1, cell, q1, q2, q3, q4⟩ := x.2 a _ he
  have hr : r = (C, T, N) := Option.some.inj (h1.symm.trans hc)
  subst hr
  obtain ⟨hS, hfc, kC, hkC, hkind⟩ := hK.1 ci _ hc
  obtain ⟨cf, kf, fi, f, hif, hsl⟩ := hS i hi
  have hlay := hts _ (hin _ (u_in_lay hi))
  unfold u_lay at hlay
  rw [if_neg (by rw [hfin]; decide)] at hlay
  have hst := (u_facts hfc hkC (u_lays hts hin hi) hif).1
  have h6 := u_store hfc hkC hkind hlay hif hdt hn hfit
  refine W.putK hX.1 hX.2.1 (f := f) ⟨hX.2.2.2.1, hts _ hw, ⟨_, _, _, hif⟩, hst⟩ (by rw [q2]; exact h6) q1 q3 (by rw [hsl]; exact k2_hasslot (q4 i hi)) rfl rfl hd fun H' e1 e2 e3 => ?_
  rw [hsl] at e1 ⊢
  have haA : X.A a := hA a _ he
  refine kk (fun q e hq => ?_) H' _ ls (x.set ⟨_, hc, t_OB.to (V := updV (vp_V fs) i v) ⟨_, e1, q2, q3, t_set q4 hap hi v⟩ (fun j _ => vp_updV_set hl v j)⟩ e2 e3) (b.put e2 e3 haA) c
  by_cases hqa : q = a
  · rw [hqa]; exact haA
  · rw [hup_n hqa] at hq; exact hA q e hq
theorem V_putF (hX : okX X cc nL own d mc ms) {a ci index N : Nat} {C : String} {T : u_T} {fs fs' : List Value} {v : Value} {ty0 : Nat → FieldType} (hd : decode cc pc = .ok (.putfield index, 3)) (hini : X.mt.name = "<init>") (he : h a = some (.inr (ci, fs))) (hc : vwCl[ci]? = some (C, T, N)) (hin : ∀ w ∈ u_ws C T N, w ∈ GG) (hty : ∀ k, k < N → parseFieldDescriptor (T k).2.2.1 = some (ty0 k)) (hnm : ∀ a, a < N → ∀ b, b < N → a ≠ b → (T a).2.1 ≠ (T b).2.1) (i : Nat) (hi : i < N) (hw : Cond.fieldLink own index (T i).1 (T i).2.1 (T i).2.2.1 ∈ GG) (hfin : (T i).2.2.2 = true) (hdecl : (T i).1 = own) {ty : FieldType} (hdt : parseFieldDescriptor (T i).2.2.1 = some ty) (hn : narrow ty v = v) (hfit : fits ty v = true) (hl : i < fs.length) (hfs : fs.set i v = fs') (hp : pc + 3 = pc') (kk : V X k n z (hup h a (.inr (ci, fs'))) pc' lv st) : V X k n z h pc lv (v :: .ref a :: st) := by
  subst hp; subst hfs
  intro hA H locs ls x b c
  have hts := hX.2.2.2.2.1
  have hK := hX.2.2.2.2.2.1.1
  have hown := hX.2.2.2.1
  have hap := va_apart (own := own) hts hin ty0 hty hnm hK hc
  obtain ⟨r, h1, cell, q1, q2, q3, q4⟩ := x.2 a _ he
  have hr : r = (C, T, N) := Option.some.inj (h1.symm.trans hc)
  subst hr
  obtain ⟨hS, hfc, kC, hkC, hkind⟩ := hK.1 ci _ hc
  obtain ⟨cf, kf, fi, f, hif, hsl⟩ := hS i hi
  have hlay := hts _ (hin _ (u_in_lay hi))
  unfold u_lay at hlay
  rw [if_pos hfin] at hlay
  have hst := (u_facts hfc hkC (u_lays hts hin hi) hif).1
  have hcf : X.m.cls = cf := by
    obtain ⟨_, _, c', _, _, _, -, -, hf', -, -, -, hown2, -⟩ := Cond.laysFinal_spec hlay
    have e1 : c' = cf := by have := hif.symm.trans hf'; simp at this; exact this.1.symm
    rw [hdecl] at hown2
    rw [← e1]; exact Option.some.inj (hown.symm.trans hown2)
  have h6 := u_fits hfc hkC hkind (Or.inr hlay) hif hdt hn hfit
  refine W.putFinK hX.1 hX.2.1 hown (hts _ hw) hif hst hcf hini (by rw [q2]; exact h6) q1 q3 (by rw [hsl]; exact k2_hasslot (q4 i hi)) rfl rfl hd fun H' e1 e2 e3 => ?_
  rw [hsl] at e1 ⊢
  have haA : X.A a := hA a _ he
  refine kk (fun q e hq => ?_) H' _ ls (x.set ⟨_, hc, t_OB.to (V := updV (vp_V fs) i v) ⟨_, e1, q2, q3, t_set q4 hap hi v⟩ (fun j _ => vp_updV_set hl v j)⟩ e2 e3) (b.put e2 e3 haA) c
  by_cases hqa : q = a
  · rw [hqa]; exact haA
  · rw [hup_n hqa] at hq; exact hA q e hq
theorem V.upd {a : Nat} {e0 e : va_E} (he : h a = some e0) (hA : ∀ (q : Nat) (e : va_E), h q = some e → X.A q) : ∀ (q : Nat) (e1 : va_E), hup h a e q = some e1 → X.A q := by
  intro q e1 hq
  by_cases hqa : q = a
  · rw [hqa]; exact hA a _ he
  · rw [hup_n hqa] at hq; exact hA q e1 hq
/-! arrays -/
theorem okX.arr (hX : okX X cc nL own d mc ms) (j : Nat) {cA : ClassId} {ty : FieldType} (hj : (tysG X.G)[j]? = some (cA, ty)) : ArrOfT X.s cA ty ∧ va_RA X.s cA ty := hX.2.2.2.2.2.1.1.2 j _ hj
theorem V_alen (hX : okX X cc nL own d mc ms) {a : Nat} {cA : ClassId} {x : vp_A} {ty : FieldType} (j : Nat) (hj : (tysG X.G)[j]? = some (cA, ty)) (hd : decode cc pc = .ok (.arraylength, 1)) (ha : h a = some (.inl (cA, x))) {v : Int32} (hv : Int32.ofNat x.1 = v) (hp : pc + 1 = pc') (kk : V X k n z h pc' lv (.int v :: st)) : V X k n z h pc lv (.ref a :: st) := by
  subst hp
  exact fun hA H locs ls x b c => va_alen hX.1 hX.2.1 hX.2.2.2.2.2.1.1 (x.one ha) 0 j rfl hj hv hd (kk hA H locs ls x b c)
theorem V_iald (hX : okX X cc nL own d mc ms) {a N : Nat} {f : Nat → Int32} {i : Int32} (hd : decode cc pc = .ok (.iaload, 1)) (ha : h a = some (oI X.G N f)) (hi : vp_in i N) (hp : pc + 1 = pc') (kk : V X k n z h pc' lv (.int (f i.toNatClampNeg) :: st)) : V X k n z h pc lv (.int i :: .ref a :: st) := by
  subst hp
  exact fun hA H locs ls x b c => va_iald hX.1 hX.2.1 hX.2.2.2.2.2.1.1 (x.one ha) 0 0 rfl rfl hi hd (kk hA H locs ls x b c)
theorem V_zald (hX : okX X cc nL own d mc ms) {a N : Nat} {f : Nat → Int32} {i : Int32} (hd : decode cc pc = .ok (.baload, 1)) (ha : h a = some (oZ X.G N f)) (hi : vp_in i N) (hp : pc + 1 = pc') (kk : V X k n z h pc' lv (.int (f i.toNatClampNeg) :: st)) : V X k n z h pc lv (.int i :: .ref a :: st) := by
  subst hp
  exact fun hA H locs ls x b c => va_zald hX.1 hX.2.1 hX.2.2.2.2.2.1.1 (x.one ha) 0 2 rfl rfl hi hd (kk hA H locs ls x b c)
theorem V_lald (hX : okX X cc nL own d mc ms) {a N : Nat} {f : Nat → Int64} {i : Int32} (hd : decode cc pc = .ok (.laload, 1)) (ha : h a = some (oJ X.G N f)) (hi : vp_in i N) (hp : pc + 1 = pc') (kk : V X k n z h pc' lv (.long (f i.toNatClampNeg) :: st)) : V X k n z h pc lv (.int i :: .ref a :: st) := by
  subst hp
  exact fun hA H locs ls x b c => va_lald hX.1 hX.2.1 hX.2.2.2.2.2.1.1 (x.one ha) 0 1 rfl rfl hi hd (kk hA H locs ls x b c)
theorem V_aald (hX : okX X cc nL own d mc ms) {a N : Nat} {f : Nat → Option Nat} {i : Int32} (hd : decode cc pc = .ok (.aaload, 1)) (ha : h a = some (oN X.G N f)) (hi : vp_in i N) (hp : pc + 1 = pc') (kk : V X k n z h pc' lv (va_rf (f i.toNatClampNeg) :: st)) : V X k n z h pc lv (.int i :: .ref a :: st) := by
  subst hp
  exact fun hA H locs ls x b c => va_aldq hX.1 hX.2.1 hX.2.2.2.2.2.1.1 (x.one ha) 0 3 rfl rfl hi hd (kk hA H locs ls x b c)
theorem V_iast (hX : okX X cc nL own d mc ms) {a N : Nat} {f : Nat → Int32} {i v : Int32} (hd : decode cc pc = .ok (.iastore, 1)) (ha : h a = some (oI X.G N f)) (hi : vp_in i N) (hp : pc + 1 = pc') (kk : V X k n z (hup h a (oI X.G N (upd f i.toNatClampNeg v))) pc' lv st) : V X k n z h pc lv (.int v :: .int i :: .ref a :: st) := by
  subst hp
  intro hA H locs ls x b c
  have harr := (hX.arr 0 rfl).1
  refine W.iast hX.1 hX.2.1 (x.2 _ _ ha) (harr N (fun j => .int (f j))) (fun q => by cases q) (by show ¬ (i < 0 ∨ (arrV _ _ _).slots.size ≤ _); rw [arrV_size]; exact hi) rfl rfl hd fun H1 e z1 oq => ?_
  refine kk (V.upd ha hA) H1 _ ls (x.set ?_ z1 oq) (b.put z1 oq (hA _ _ ha)) c
  show H1[a]? = some (vp_cell _ _)
  rw [e]
  rw [vp_cell_i, vp_cell_i, arrV_store]
  congr 2
  funext q
  by_cases hq : q = i.toNatClampNeg
  · subst hq
    simp [updV, upd]
  · simp [updV, upd, hq]
theorem V_zast (hX : okX X cc nL own d mc ms) {a N : Nat} {f : Nat → Int32} {i v : Int32} (hd : decode cc pc = .ok (.bastore, 1)) (ha : h a = some (oZ X.G N f)) (hi : vp_in i N) (hnv : narrow .boolean (.int v) = .int v) (hp : pc + 1 = pc') (kk : V X k n z (hup h a (oZ X.G N (upd f i.toNatClampNeg v))) pc' lv st) : V X k n z h pc lv (.int v :: .int i :: .ref a :: st) := by
  subst hp
  intro hA H locs ls x b c
  have harr := (hX.arr 2 rfl).1
  refine W.zast hX.1 hX.2.1 (x.2 _ _ ha) (harr N (fun j => .int (f j))) (fun q => by cases q) (by show ¬ (i < 0 ∨ (arrV _ _ _).slots.size ≤ _); rw [arrV_size]; exact hi) rfl rfl hd fun H1 e z1 oq => ?_
  refine kk (V.upd ha hA) H1 _ ls (x.set ?_ z1 oq) (b.put z1 oq (hA _ _ ha)) c
  show H1[a]? = some (vp_cell _ _)
  rw [e, hnv]
  rw [vp_cell_i, vp_cell_i, arrV_store]
  congr 2
  funext q
  by_cases hq : q = i.toNatClampNeg
  · subst hq
    simp [updV, upd]
  · simp [updV, upd, hq]
theorem V_last (hX : okX X cc nL own d mc ms) {a N : Nat} {f : Nat → Int64} {i : Int32} {v : Int64} (hd : decode cc pc = .ok (.lastore, 1)) (ha : h a = some (oJ X.G N f)) (hi : vp_in i N) (hp : pc + 1 = pc') (kk : V X k n z (hup h a (oJ X.G N (vp_updL f i.toNatClampNeg v))) pc' lv st) : V X k n z h pc lv (.long v :: .int i :: .ref a :: st) := by
  subst hp
  intro hA H locs ls x b c
  have harr := (hX.arr 1 rfl).1
  refine W.last hX.1 hX.2.1 (x.2 _ _ ha) (harr N (fun j => .long (f j))) (fun q => by cases q) (by show ¬ (i < 0 ∨ (arrV _ _ _).slots.size ≤ _); rw [arrV_size]; exact hi) rfl rfl hd fun H1 e z1 oq => ?_
  refine kk (V.upd ha hA) H1 _ ls (x.set ?_ z1 oq) (b.put z1 oq (hA _ _ ha)) c
  show H1[a]? = some (vp_cell _ _)
  rw [e]
  rw [vp_cell_l, vp_cell_l, arrV_store]
  congr 2
  funext q
  by_cases hq : q = i.toNatClampNeg
  · subst hq
    simp [updV, vp_updL]
  · simp [updV, vp_updL, hq]
theorem V_aast (hX : okX X cc nL own d mc ms) {a N v : Nat} {f : Nat → Option Nat} {i : Int32} {vs : List Value} (hd : decode cc pc = .ok (.aastore, 1)) (ha : h a = some (oN X.G N f)) (hv : h v = some (.inr (3, vs))) (hi : vp_in i N) (hp : pc + 1 = pc') (kk : V X k n z (hup h a (oN X.G N (va_up f i.toNatClampNeg (some v)))) pc' lv st) : V X k n z h pc lv (.ref v :: .int i :: .ref a :: st) := by
  subst hp
  intro hA H locs ls x b c
  have hlt : i.toNatClampNeg < N := Nat.not_le.mp fun q => hi (Or.inr q)
  have h0 : ¬ i < 0 := fun q => hi (Or.inl q)
  obtain ⟨r', hr', cellV, g1, g2, g3, -⟩ := x.2 _ _ hv
  have hcls := (hX.2.2.2.2.2.1.1.1 3 (RX3, TX3, 4) rfl).2
  obtain ⟨kA, comp, k1, k2, k3, -⟩ := (hX.arr 3 rfl).2
  have hcomp : comp = X.G.1.1 3 := Option.some.inj (k3.symm.trans hcls.1)
  subst hcomp
  obtain ⟨kC, hkC, -⟩ := hcls.2
  refine W.aast hX.1 hX.2.1 (x.2 _ _ ha) (fun q h => by cases h) (fun h => by cases h) k1 k2 rfl hkC ⟨h0, by show _ < (arrV _ _ _).slots.size; rw [arrV_size]; exact hlt⟩ g1 (fun q h => by rw [g3] at h; cases h) (by rw [g2]; exact hkC) (by rw [g2]; exact va_assign hcls) rfl rfl hd fun H1 e z1 oq => ?_
  refine kk (V.upd ha hA) H1 _ ls (x.set ?_ z1 oq) (b.put z1 oq (hA _ _ ha)) c
  show H1[a]? = some (vp_cell _ _)
  rw [e]
  rw [vp_cell_q, vp_cell_q, arrV_store]
  congr 2
  funext q
  by_cases hq : q = i.toNatClampNeg
  · subst hq
    simp [updV, va_up, va_rf]
  · simp [updV, va_up, hq]
theorem V_aastN (hX : okX X cc nL own d mc ms) {a N : Nat} {f : Nat → Option Nat} {i : Int32} (hd : decode cc pc = .ok (.aastore, 1)) (ha : h a = some (oN X.G N f)) (hi : vp_in i N) (hp : pc + 1 = pc') (kk : V X k n z (hup h a (oN X.G N (va_up f i.toNatClampNeg none))) pc' lv st) : V X k n z h pc lv (.null :: .int i :: .ref a :: st) := by
  subst hp
  intro hA H locs ls x b c
  have harr := (hX.arr 3 rfl).1
  refine va_WaastN (C := "PairSieve$NumberSet") hX.1 hX.2.1 (x.2 _ _ ha) (harr N (fun j => va_rf (f j))) (fun h => by cases h) (by show ¬ (i < 0 ∨ (arrV _ _ _).slots.size ≤ _); rw [arrV_size]; exact hi) rfl rfl hd fun H1 e z1 oq => ?_
  refine kk (V.upd ha hA) H1 _ ls (x.set ?_ z1 oq) (b.put z1 oq (hA _ _ ha)) c
  show H1[a]? = some (vp_cell _ _)
  rw [e]
  rw [vp_cell_q, vp_cell_q, arrV_store]
  congr 2
  funext q
  by_cases hq : q = i.toNatClampNeg
  · subst hq
    simp [updV, va_up, va_rf]
  · simp [updV, va_up, hq]
theorem V.born {e : va_E} (hz : X.A z) (hA : ∀ (q : Nat) (e : va_E), h q = some e → X.A q) : ∀ (q : Nat) (e1 : va_E), hup h z e q = some e1 → X.A q := by
  intro q e1 hq
  by_cases hqa : q = z
  · rw [hqa]; exact hz
  · rw [hup_n hqa] at hq; exact hA q e1 hq
theorem va_S.grow {A : Nat → Prop} {H0 H H1 : Heap} {locs : List Loc} {z : Nat} (b : va_S A H0 H locs) (hz : H.size = z) (z1 : H1.size = z + 1) (o1 : ∀ q : Nat, q < z → H1[q]? = H[q]?) : va_S A H0 H1 locs :=
  ⟨Nat.le_trans b.1 (by omega), fun q h1 h2 => (o1 q (by have := b.1; omega)).trans (b.2.1 q h1 h2), b.2.2⟩
theorem V_new (hX : okX X cc nL own d mc ms) {ci index N : Nat} {C : String} {T : u_T} {ty0 : Nat → FieldType} {fs : List Value} (hd : decode cc pc = .ok (.new index, 3)) (hc : vwCl[ci]? = some (C, T, N)) (hin : ∀ w ∈ u_ws C T N, w ∈ GG) (hty : ∀ k, k < N → parseFieldDescriptor (T k).2.2.1 = some (ty0 k)) (hw1 : Cond.classLink own index C ∈ GG) (hw2 : Cond.instantiable C N ∈ GG) (hw3 : Cond.initialized C ∈ GG) (hfs : ∀ j, j < N → defaultValue (ty0 j) = vp_V fs j) (hk : k + 1 ≤ mc) (hn : n + N ≤ ms) (hp : pc + 3 = pc') (kk : V X (k + 1) (n + N) (z + 1) (hup h z (.inr (ci, fs))) pc' lv (.ref z :: st)) : V X k n z h pc lv st := by
  subst hp
  intro hA H locs ls x b c
  have hts := hX.2.2.2.2.1
  have hK := hX.2.2.2.2.2.1.1
  obtain ⟨-, -, hmc, hms⟩ := hX.2.2.2.2.2.2.2.1
  have hKn := hK.1 ci _ hc
  refine W.newcK hX.1 hX.2.1 hX.2.2.2.1 (hts _ hw1) (hts _ hw2) (hts _ hw3) rfl hd (by omega) (by omega) hKn.2.1 x.1 fun H1 kC hkC e1 z1 o1 => ?_
  have hAz : X.A z := hX.2.2.2.2.2.2.1 z (by have := b.1; have := x.1; omega)
  exact kk (V.born hAz hA) H1 locs ls (x.push ⟨_, hc, (u_born ty0 hts hin hKn hkC e1 hty).to hfs⟩ z1 o1) (b.grow x.1 z1 o1) c
theorem V_newI (hX : okX X cc nL own d mc ms) {i : Int32} {N : Nat} (hd : decode cc pc = .ok (.newarray .int, 2)) (hw : Cond.arrayClass .int ∈ GG) (hi : ¬ i < 0) (hN : i.toNatClampNeg = N) (hsm : N ≤ 100000) (hk : k + 1 ≤ mc) (hn : n + N ≤ ms) (hp : pc + 2 = pc') (kk : V X (k + 1) (n + N) (z + 1) (hup h z (oI X.G N (fun _ => 0))) pc' lv (.ref z :: st)) : V X k n z h pc lv (.int i :: st) := by
  subst hp
  intro hA H locs ls x b c
  have hts := hX.2.2.2.2.1
  obtain ⟨-, -, hmc, hms⟩ := hX.2.2.2.2.2.2.2.1
  refine va_newaK (atype := .int) hX.1 hX.2.1 (hts _ hw) rfl hd rfl hi hN (by simp [newarray.typeOf, componentBytes]; omega) (by omega) (by omega) x.1 fun H1 cA e1 z1 o1 hAr hNm => ?_
  have hAz : X.A z := hX.2.2.2.2.2.2.1 z (by have := b.1; have := x.1; omega)
  have hcA : cA = X.G.2 0 := Option.some.inj (hNm.symm.trans (hX.arr 0 rfl).2)
  subst hcA
  exact kk (V.born hAz hA) H1 locs ls (x.push (by show H1[z]? = some (vp_cell _ _); rw [vp_cell_i]; exact e1) z1 o1) (b.grow x.1 z1 o1) c
theorem V_newJ (hX : okX X cc nL own d mc ms) {i : Int32} {N : Nat} (hd : decode cc pc = .ok (.newarray .long, 2)) (hw : Cond.arrayClass .long ∈ GG) (hi : ¬ i < 0) (hN : i.toNatClampNeg = N) (hsm : N ≤ 100000) (hk : k + 1 ≤ mc) (hn : n + N ≤ ms) (hp : pc + 2 = pc') (kk : V X (k + 1) (n + N) (z + 1) (hup h z (oJ X.G N (fun _ => 0))) pc' lv (.ref z :: st)) : V X k n z h pc lv (.int i :: st) := by
  subst hp
  intro hA H locs ls x b c
  have hts := hX.2.2.2.2.1
  obtain ⟨-, -, hmc, hms⟩ := hX.2.2.2.2.2.2.2.1
  refine va_newaK (atype := .long) hX.1 hX.2.1 (hts _ hw) rfl hd rfl hi hN (by simp [newarray.typeOf, componentBytes]; omega) (by omega) (by omega) x.1 fun H1 cA e1 z1 o1 hAr hNm => ?_
  have hAz : X.A z := hX.2.2.2.2.2.2.1 z (by have := b.1; have := x.1; omega)
  have hcA : cA = X.G.2 1 := Option.some.inj (hNm.symm.trans (hX.arr 1 rfl).2)
  subst hcA
  exact kk (V.born hAz hA) H1 locs ls (x.push (by show H1[z]? = some (vp_cell _ _); rw [vp_cell_l]; exact e1) z1 o1) (b.grow x.1 z1 o1) c
theorem V_newZ (hX : okX X cc nL own d mc ms) {i : Int32} {N : Nat} (hd : decode cc pc = .ok (.newarray .boolean, 2)) (hw : Cond.arrayClass .boolean ∈ GG) (hi : ¬ i < 0) (hN : i.toNatClampNeg = N) (hsm : N ≤ 100000) (hk : k + 1 ≤ mc) (hn : n + N ≤ ms) (hp : pc + 2 = pc') (kk : V X (k + 1) (n + N) (z + 1) (hup h z (oZ X.G N (fun _ => 0))) pc' lv (.ref z :: st)) : V X k n z h pc lv (.int i :: st) := by
  subst hp
  intro hA H locs ls x b c
  have hts := hX.2.2.2.2.1
  obtain ⟨-, -, hmc, hms⟩ := hX.2.2.2.2.2.2.2.1
  refine va_newaK (atype := .boolean) hX.1 hX.2.1 (hts _ hw) rfl hd rfl hi hN (by simp [newarray.typeOf, componentBytes]; omega) (by omega) (by omega) x.1 fun H1 cA e1 z1 o1 hAr hNm => ?_
  have hAz : X.A z := hX.2.2.2.2.2.2.1 z (by have := b.1; have := x.1; omega)
  have hcA : cA = X.G.2 2 := Option.some.inj (hNm.symm.trans (hX.arr 2 rfl).2)
  subst hcA
  exact kk (V.born hAz hA) H1 locs ls (x.push (by show H1[z]? = some (vp_cell _ _); rw [vp_cell_i]; exact e1) z1 o1) (b.grow x.1 z1 o1) c
theorem V_newN (hX : okX X cc nL own d mc ms) {i : Int32} {N index : Nat} (hd : decode cc pc = .ok (.anewarray index, 3)) (hw : Cond.classLink own index "PairSieve$NumberSet" ∈ GG) (hi : ¬ i < 0) (hN : i.toNatClampNeg = N) (hsm : N ≤ 100000) (hk : k + 1 ≤ mc) (hn : n + N ≤ ms) (hp : pc + 3 = pc') (kk : V X (k + 1) (n + N) (z + 1) (hup h z (oN X.G N (fun _ => none))) pc' lv (.ref z :: st)) : V X k n z h pc lv (.int i :: st) := by
  subst hp; subst hN
  intro hA H locs ls x b c
  have hts := hX.2.2.2.2.1
  obtain ⟨-, -, hmc, hms⟩ := hX.2.2.2.2.2.2.2.1
  refine W.anew hX.1 hX.2.1 hX.2.2.2.1 (hts _ hw) (va_AO.use hX.2.2.2.2.2.1.2.1) rfl hd rfl hi (by omega) (by omega) (by omega) fun cA kA comp f1 f2 f3 f4 => ?_
  obtain ⟨hz, -⟩ := id x
  generalize hH1 : H.push ({ cls := cA, slots := Array.replicate i.toNatClampNeg .null, vm := .none } : Cell) = H1
  have z1 : H1.size = z + 1 := by rw [← hH1, Array.size_push, hz]
  have e1 : H1[z]? = some (arrV cA i.toNatClampNeg (fun _ => .null)) := by rw [← hH1, ← hz, Array.getElem?_push_size, ← arrV_new]
  have o1 : ∀ q : Nat, q < z → H1[q]? = H[q]? := fun q hq => by rw [← hH1, Array.getElem?_push, if_neg (by omega)]
  have hAz : X.A z := hX.2.2.2.2.2.2.1 z (by have := b.1; omega)
  obtain ⟨kA2, comp2, g1, g2, g3, g4⟩ := (hX.arr 3 rfl).2
  have hcA : cA = X.G.2 3 := Option.some.inj (f1.symm.trans g4)
  subst hcA
  show XW X H1 locs (k + 1) (n + i.toNatClampNeg) (F0 X.m (pc + 3) ls (.ref H.size :: st))
  rw [hz]
  exact kk (V.born hAz hA) H1 locs ls (x.push (by show H1[z]? = some (vp_cell _ _); rw [vp_cell_q]; exact e1) z1 o1) (b.grow x.1 z1 o1) c
theorem V_objInit (hX : okX X cc nL own d mc ms) {a idx : Nat} (hd : decode cc pc = .ok (.invokespecial idx, 3)) (hw1 : Cond.methodLink own idx objectInit ∈ GG) (hw2 : Cond.instanceMethod objectInit ∈ GG) (hw3 : Cond.code objectInit ⟨#[0xb1]⟩ 1 none ∈ GG) (hdd : 1 ≤ d) (hl : lv.length = nL) (hs : st = []) (hp : pc + 3 = pc') (kk : V X k n z h pc' lv st) : V X k n z h pc lv (.ref a :: st) := by
  subst hp; subst hs
  intro hA H locs ls x b c
  obtain ⟨h1, h2, -, -⟩ := hX.2.2.2.2.2.2.2.1
  have hts := hX.2.2.2.2.1
  exact W.objInit hX.1 hX.2.1 hX.2.2.2.1 (hts _ hw1) (hts _ hw2) (hts _ hw3) rfl (by rw [hX.2.2.1, ← hl]; exact c.1) rfl hd (by omega) (by show 2 * 0 + 0 + 12 ≤ _; omega) (kk hA H locs ls x b c)
theorem V_min (hX : okX X cc nL own d mc ms) {idx : Nat} {x y : Int32} (hd : decode cc pc = .ok (.invokestatic idx, 3)) (hw1 : Cond.methodLink own idx Lib.Math.min.name ∈ GG) (hdd : 1 ≤ d) (hk : k ≤ mc) (hn : n ≤ ms) (hl : lv.length = nL) (hs : (st.map fun v => v.category).sum ≤ 8) (hp : pc + 3 = pc') (kk : V X k n z h pc' lv (.int (if y < x then y else x) :: st)) : V X k n z h pc lv (.int y :: .int x :: st) := by
  subst hp
  intro hA H locs ls u b c
  obtain ⟨h1, h2, h3, h4⟩ := hX.2.2.2.2.2.2.2.1
  have hts := hX.2.2.2.2.1
  exact va_mmin hX.1 hX.2.1 (by rw [hX.2.2.1, ← hl]; exact c.1.symm) hX.2.2.2.1 (hts _ hw1) (hts _ wS_J9_min_7cf53) (hts _ wN_J9) (hts _ wC_J9_min_7cf53) (by omega) (by omega) (by omega) (by omega) hd (kk hA H locs ls u b c)
theorem V_minL (hX : okX X cc nL own d mc ms) {idx : Nat} {x y : Int64} (hd : decode cc pc = .ok (.invokestatic idx, 3)) (hw1 : Cond.methodLink own idx Lib.MathLoose.min_long.x ∈ GG) (hdd : 1 ≤ d) (hk : k ≤ mc) (hn : n ≤ ms) (hl : lv.length = nL) (hs : (st.map fun v => v.category).sum ≤ 8) (hp : pc + 3 = pc') (kk : V X k n z h pc' lv (.long (if y < x then y else x) :: st)) : V X k n z h pc lv (.long y :: .long x :: st) := by
  subst hp
  intro hA H locs ls u b c
  obtain ⟨h1, h2, h3, h4⟩ := hX.2.2.2.2.2.2.2.1
  have hts := hX.2.2.2.2.1
  exact va_mmin_long hX.1 hX.2.1 (by rw [hX.2.2.1, ← hl]; exact c.1.symm) hX.2.2.2.1 (hts _ hw1) (hts _ wS_J9_min_f86c9) (hts _ wN_J9) (hts _ wC_J9_min_f86c9) (by omega) (by omega) (by omega) (by omega) hd (kk hA H locs ls u b c)
theorem va_S.copy {A : Nat → Prop} {H0 H H1 : Heap} {locs L : List Loc} {a : Nat} (b : va_S A H0 H locs) (z1 : H1.size = H.size) (oq : ∀ q : Nat, q ≠ a → H1[q]? = H[q]?) (ha : A a) (hL : ∀ q ∈ L, q.base = a) : va_S A H0 H1 (locs ++ L) := by
  refine ⟨by rw [z1]; exact b.1, fun q g1 g2 => ?_, fun q hq => ?_⟩
  · rw [oq q (fun e => g2 (by rw [e]; exact ha))]
    exact b.2.1 q g1 g2
  · rcases List.mem_append.mp hq with h | h
    · exact b.2.2 q h
    · rw [hL q h]; exact ha
/-- System.arraycopy over ints, its stretch within both -/
theorem V_copyI (hX : okX X cc nL own d mc ms) {a0 a1 n0 n1 idx : Nat} {f g : Nat → Int32} {sp dp m : Nat} (hd : decode cc pc = .ok (.invokestatic idx, 3)) (hw1 : Cond.methodLink own idx arraycopyName ∈ GG) (ha0 : h a0 = some (oI X.G n0 f)) (ha1 : h a1 = some (oI X.G n1 g)) (hb0 : n0 < 100000) (hb1 : n1 < 100000) (h4 : sp + m ≤ n0) (h5 : dp + m ≤ n1) (hdd : 1 ≤ d) (hl : lv.length = nL) (hs : (st.map fun v => v.category).sum ≤ 8) (hp : pc + 3 = pc') (kk : V X k n z (hup h a1 (oI X.G n1 (va_cpy f g sp dp m))) pc' lv st) : V X k n z h pc lv (.int (nI m) :: .int (nI dp) :: .ref a1 :: .int (nI sp) :: .ref a0 :: st) := by
  subst hp
  intro hA H locs ls x b c
  obtain ⟨r1, r2, -, -⟩ := hX.2.2.2.2.2.2.2.1
  have hts := hX.2.2.2.2.1
  have hsp : sp < 2 ^ 31 := by omega
  have hdp : dp < 2 ^ 31 := by omega
  have hm : m < 2 ^ 31 := by omega
  have hc0 : H[a0]? = some (vp_cell (X.G.2 0) (n0, .inl f)) := x.2 _ _ ha0
  have hc1 : H[a1]? = some (vp_cell (X.G.2 0) (n1, .inl g)) := x.2 _ _ ha1
  have harr := (hX.arr 0 rfl).1
  intro T hT Y
  obtain ⟨-, k0, hk0, cm0, hkk0⟩ := harr n0 (fun j => .int (f j))
  obtain ⟨-, k1, hk1, cm1, hkk1⟩ := harr n1 (fun j => .int (g j))
  obtain ⟨vm', Y', step⟩ := Y.arraycopy hX.1 hX.2.2.2.1 (hts _ hw1) (hts _ wV_arraycopy) (hts _ wS_arraycopy) (hts _ wN_J10) (src := a0) (dst := a1) (cs := vp_cell (X.G.2 0) (n0, .inl f)) (cd := vp_cell (X.G.2 0) (n1, .inl g)) (srcPos := nI sp) (destPos := nI dp) (n := nI m) (by rw [hT]; exact hc0) (by rw [hT]; exact hc1)
    (fun _ h => by cases h) (fun _ h => by cases h) (fun h => by cases h) (fun h => by cases h) hk0 hk1 hkk0 hkk1 (by simp [refKind]) (nI_pos hsp) (nI_pos hdp) (nI_pos hm)
    (by rw [nI_toInt hsp, nI_toInt hm]; show ¬ _ > ((arrV (X.G.2 0) n0 (fun j => .int (f j))).slots.size : Int); rw [arrV_size]; omega)
    (by rw [nI_toInt hdp, nI_toInt hm]; show ¬ _ > ((arrV (X.G.2 0) n1 (fun j => .int (g j))).slots.size : Int); rw [arrV_size]; omega)
    (fun vm₁ _ i hi => by
      rw [nI_clamp hm] at hi
      have e : (vp_cell (X.G.2 0) (n0, .inl f)).slots.getD ((nI sp).toNatClampNeg + i) .null = .int (f (sp + i)) := by
        show (arrV (X.G.2 0) n0 (fun j => .int (f j))).slots.getD _ _ = _
        rw [nI_clamp hsp, Array.getD_eq_getD_getElem?, arrV_read _ _ (by omega)]
        rfl
      refine ⟨?_, ?_⟩
      · rw [e]; rfl
      · rw [e]; exact trivial)
    (g := F0 X.m pc ls (.int (nI m) :: .int (nI dp) :: .ref a1 :: .int (nI sp) :: .ref a0 :: st)) rfl (by rw [hX.2.2.1, ← hl]; exact c.1) (rest := st) rfl (by rw [hX.2.1]; exact hd) (by omega) (by show 2 * 0 + _ + _ ≤ _; have : nativeFrameWords "java/lang/System" "arraycopy" 5 + 11 ≤ 32 := (by decide); omega)
  have e1 : copied (vp_cell (X.G.2 0) (n0, .inl f)) (vp_cell (X.G.2 0) (n1, .inl g)) (nI sp) (nI dp) (nI m) = vp_cell (X.G.2 0) (n1, .inl (va_cpy f g sp dp m)) := by
    have := va_copied (n1 := n1) (dp := (nI dp).toNatClampNeg) (fun z => Value.int z) (X.G.2 0) (X.G.2 0) f g (show (nI sp).toNatClampNeg + (nI m).toNatClampNeg ≤ n0 by rw [nI_clamp hsp, nI_clamp hm]; exact h4)
    rw [nI_clamp hsp, nI_clamp hdp, nI_clamp hm] at this
    unfold copied
    rw [nI_clamp hsp, nI_clamp hdp, nI_clamp hm]
    exact this
  rw [e1] at Y' step
  have hl1 : a1 < H.size := (Array.getElem?_eq_some_iff.mp hc1).1
  generalize hce : vp_cell (X.G.2 0) (n1, .inl (va_cpy f g sp dp m)) = ce at Y' step
  have hheap : ((T.setVm vm').setCell a1 ce).heap = H.setIfInBounds a1 ce := by rw [← hT]; rfl
  have oq : ∀ q : Nat, q ≠ a1 → (H.setIfInBounds a1 ce)[q]? = H[q]? := fun q hq => by simp [Array.getElem?_setIfInBounds, Ne.symm hq]
  obtain ⟨t, u1, u2⟩ := kk (V.upd ha1 hA) (H.setIfInBounds a1 ce) _ ls (x.set (by show (H.setIfInBounds a1 ce)[a1]? = some (vp_cell _ _); rw [hce]; simp [Array.getElem?_setIfInBounds, hl1]) (by simp) oq) (b.copy (by simp) oq (hA _ _ ha1) (fun q hq => by
    obtain ⟨w, -, hw⟩ := List.mem_map.mp hq
    rw [← hw])) c _ hheap Y'
  exact ⟨t, step t u1, u2⟩
/-- System.arraycopy over longs, its stretch within both -/
theorem V_copyJ (hX : okX X cc nL own d mc ms) {a0 a1 n0 n1 idx : Nat} {f g : Nat → Int64} {sp dp m : Nat} (hd : decode cc pc = .ok (.invokestatic idx, 3)) (hw1 : Cond.methodLink own idx arraycopyName ∈ GG) (ha0 : h a0 = some (oJ X.G n0 f)) (ha1 : h a1 = some (oJ X.G n1 g)) (hb0 : n0 < 100000) (hb1 : n1 < 100000) (h4 : sp + m ≤ n0) (h5 : dp + m ≤ n1) (hdd : 1 ≤ d) (hl : lv.length = nL) (hs : (st.map fun v => v.category).sum ≤ 8) (hp : pc + 3 = pc') (kk : V X k n z (hup h a1 (oJ X.G n1 (va_cpy f g sp dp m))) pc' lv st) : V X k n z h pc lv (.int (nI m) :: .int (nI dp) :: .ref a1 :: .int (nI sp) :: .ref a0 :: st) := by
  subst hp
  intro hA H locs ls x b c
  obtain ⟨r1, r2, -, -⟩ := hX.2.2.2.2.2.2.2.1
  have hts := hX.2.2.2.2.1
  have hsp : sp < 2 ^ 31 := by omega
  have hdp : dp < 2 ^ 31 := by omega
  have hm : m < 2 ^ 31 := by omega
  have hc0 : H[a0]? = some (vp_cell (X.G.2 1) (n0, .inr (.inl f))) := x.2 _ _ ha0
  have hc1 : H[a1]? = some (vp_cell (X.G.2 1) (n1, .inr (.inl g))) := x.2 _ _ ha1
  have harr := (hX.arr 1 rfl).1
  intro T hT Y
  obtain ⟨-, k0, hk0, cm0, hkk0⟩ := harr n0 (fun j => .long (f j))
  obtain ⟨-, k1, hk1, cm1, hkk1⟩ := harr n1 (fun j => .long (g j))
  obtain ⟨vm', Y', step⟩ := Y.arraycopy hX.1 hX.2.2.2.1 (hts _ hw1) (hts _ wV_arraycopy) (hts _ wS_arraycopy) (hts _ wN_J10) (src := a0) (dst := a1) (cs := vp_cell (X.G.2 1) (n0, .inr (.inl f))) (cd := vp_cell (X.G.2 1) (n1, .inr (.inl g))) (srcPos := nI sp) (destPos := nI dp) (n := nI m) (by rw [hT]; exact hc0) (by rw [hT]; exact hc1)
    (fun _ h => by cases h) (fun _ h => by cases h) (fun h => by cases h) (fun h => by cases h) hk0 hk1 hkk0 hkk1 (by simp [refKind]) (nI_pos hsp) (nI_pos hdp) (nI_pos hm)
    (by rw [nI_toInt hsp, nI_toInt hm]; show ¬ _ > ((arrV (X.G.2 1) n0 (fun j => .long (f j))).slots.size : Int); rw [arrV_size]; omega)
    (by rw [nI_toInt hdp, nI_toInt hm]; show ¬ _ > ((arrV (X.G.2 1) n1 (fun j => .long (g j))).slots.size : Int); rw [arrV_size]; omega)
    (fun vm₁ _ i hi => by
      rw [nI_clamp hm] at hi
      have e : (vp_cell (X.G.2 1) (n0, .inr (.inl f))).slots.getD ((nI sp).toNatClampNeg + i) .null = .long (f (sp + i)) := by
        show (arrV (X.G.2 1) n0 (fun j => .long (f j))).slots.getD _ _ = _
        rw [nI_clamp hsp, Array.getD_eq_getD_getElem?, arrV_read _ _ (by omega)]
        rfl
      refine ⟨?_, ?_⟩
      · rw [e]; rfl
      · rw [e]; exact trivial)
    (g := F0 X.m pc ls (.int (nI m) :: .int (nI dp) :: .ref a1 :: .int (nI sp) :: .ref a0 :: st)) rfl (by rw [hX.2.2.1, ← hl]; exact c.1) (rest := st) rfl (by rw [hX.2.1]; exact hd) (by omega) (by show 2 * 0 + _ + _ ≤ _; have : nativeFrameWords "java/lang/System" "arraycopy" 5 + 11 ≤ 32 := (by decide); omega)
  have e1 : copied (vp_cell (X.G.2 1) (n0, .inr (.inl f))) (vp_cell (X.G.2 1) (n1, .inr (.inl g))) (nI sp) (nI dp) (nI m) = vp_cell (X.G.2 1) (n1, .inr (.inl (va_cpy f g sp dp m))) := by
    have := va_copied (n1 := n1) (dp := (nI dp).toNatClampNeg) (fun z => Value.long z) (X.G.2 1) (X.G.2 1) f g (show (nI sp).toNatClampNeg + (nI m).toNatClampNeg ≤ n0 by rw [nI_clamp hsp, nI_clamp hm]; exact h4)
    rw [nI_clamp hsp, nI_clamp hdp, nI_clamp hm] at this
    unfold copied
    rw [nI_clamp hsp, nI_clamp hdp, nI_clamp hm]
    exact this
  rw [e1] at Y' step
  have hl1 : a1 < H.size := (Array.getElem?_eq_some_iff.mp hc1).1
  generalize hce : vp_cell (X.G.2 1) (n1, .inr (.inl (va_cpy f g sp dp m))) = ce at Y' step
  have hheap : ((T.setVm vm').setCell a1 ce).heap = H.setIfInBounds a1 ce := by rw [← hT]; rfl
  have oq : ∀ q : Nat, q ≠ a1 → (H.setIfInBounds a1 ce)[q]? = H[q]? := fun q hq => by simp [Array.getElem?_setIfInBounds, Ne.symm hq]
  obtain ⟨t, u1, u2⟩ := kk (V.upd ha1 hA) (H.setIfInBounds a1 ce) _ ls (x.set (by show (H.setIfInBounds a1 ce)[a1]? = some (vp_cell _ _); rw [hce]; simp [Array.getElem?_setIfInBounds, hl1]) (by simp) oq) (b.copy (by simp) oq (hA _ _ ha1) (fun q hq => by
    obtain ⟨w, -, hw⟩ := List.mem_map.mp hq
    rw [← hw])) c _ hheap Y'
  exact ⟨t, step t u1, u2⟩
end VR
/-! CONTRACTS: from the heap h of size z, with the arguments av: y returns; 'post' its answer, the new size, the new heap -/
def rmd (d mc ms : Nat) : Room := { frames := d, cells := mc, slots := ms, locals := 40 * d }
def QC (G : Gd) (z : Nat) (h : AH) (post : Option Value → Nat → AH → Prop) : Array Value → State → Outcome → State → Prop := fun _ st oc t =>
  (∃ (v : Option Value) (z' : Nat) (h' : AH), oc = .returned v ∧ post v z' h' ∧ hv G z' h' t.heap ∧ ∀ (q : Nat) (e : va_E), h' q = some e → dm h z q) ∧ va_F (dm h z) st t
def Ct (G : Gd) (y : MethodName) (cc : ByteArray) (mL : Nat) (ret : Option FieldType) (d mc ms : Nat) (av : List Value) (z : Nat) (h : AH) (post : Option Value → Nat → AH → Prop) : Prop :=
  ∀ l : Launch, Met l y (.code y cc mL ret :: GG) (rmd d mc ms) (va_Pc av (fun U => hv G z h U.heap ∧ KK G U)) (QC G z h post) mc ms (dm h z)
theorem KK.same {G : Gd} {u U : State} (hvm : u.vm = U.vm) (h : KK G u) : KK G U :=
  ⟨va_K.moved (by rw [hvm]; exact Vm.Alike.refl _) h.1, va_AO.moved (by rw [hvm]; exact Vm.Alike.refl _) h.2.1, fun w hw => va_Nw.same (NNf_on w hw) hvm (h.2.2.1 w hw), fun w hw => va_Nw.same (NNm_on w hw) hvm (h.2.2.2 w hw)⟩
theorem KK.warm {G : Gd} {s U : State} (hW : s.WarmedH U.vm) (h : KK G s) : KK G U :=
  ⟨va_K.moved hW.alike h.1, va_AO.moved hW.alike h.2.1, fun w hw => by
    have h1 := h.2.2.1 w hw
    obtain ⟨a, i, b, n, d, x, rfl⟩ := NNf_is w hw
    exact va_Nw.warmF hW h1, fun w hw => by
    have h1 := h.2.2.2 w hw
    obtain ⟨a, i, b, x, rfl⟩ := NNm_is w hw
    exact va_Nw.warmM hW h1⟩
/-- what the returns need: X ends as the contract's post has it -/
def reX (X : CX) (ret : Option FieldType) (mc ms : Nat) (z0 : Nat) (h0 : AH) (post : Option Value → Nat → AH → Prop) : Prop :=
  X.mt.sig.returnType = ret ∧ X.A = dm h0 z0 ∧ X.H = X.s.heap ∧ X.Q = MQ X.b (QC X.G z0 h0 post) X.a X.s mc ms (dm h0 z0)
theorem Ct.of {G : Gd} {y : MethodName} {cc : ByteArray} {mL : Nat} {ret : Option FieldType} {d mc ms : Nat} {av : List Value} {z : Nat} {h : AH} {post : Option Value → Nat → AH → Prop} {lv : List (Option Value)}
    (hy : plainName y.cls = true) (hlen : (lg_sl av).length ≤ mL) (hlv : lvN av mL = lv)
    (body : ∀ X : CX, X.G = G → okX X cc mL y.cls d mc ms → reX X ret mc ms z h post → X.mt.name = y.name → V X 0 0 z h 0 lv []) : Ct G y cc mL ret d mc ms av z h post := by
  intro l
  refine Met.ofW (cc := cc) (maxL := mL) (ret := ret) hy rfl ?_
  intro p e s m args below meth c s₁ B hml hv
  obtain ⟨rfl, hh, hK⟩ := hv
  have hts := atoms_spec (ws := Cond.code y cc mL ret :: GG) B.pre
  have hown : s.vm.findClass y.cls = some m.cls := findClass_of_methodNamed B.named
  have hnm := (name_of_methodNamed B.named B.method).1
  subst hlv
  have key := body (p, l, e, (headSpec (Cond.code y cc mL ret :: GG) (rmd d mc ms)).room, s, m, av.toArray, below, meth, c, G, dm h z, s.heap, MQ below (QC G z h post) av.toArray s mc ms (dm h z)) rfl
    ⟨B.exec, B.bytes, hml, hown, fun w hw => hts w (List.mem_cons_of_mem _ hw), hK, fun q hq => Or.inr (by rw [← hh.1]; exact hq), ⟨Nat.le_refl _, Nat.le_refl _, Nat.le_refl _, Nat.le_refl _⟩, B.notSynchronized⟩ ⟨B.returns, rfl, rfl, rfl⟩ hnm
  rw [lg_entry_eq]
  exact key (fun q e he => Or.inl ⟨e, he⟩) s.heap [] _ hh va_S.rf (lvh.entry av hlen)
section VE
variable {X : CX} {cc : ByteArray} {nL : Nat} {own : String} {d mc ms mc' ms' : Nat} {k n z z0 : Nat} {h h0 : AH} {pc pc' : Nat} {lv lv' : List (Option Value)} {st st' : List Value} {post : Option Value → Nat → AH → Prop}
theorem QC.mk {H : Heap} {locs : List Loc} {v : Option Value} {ret : Option FieldType} (hR : reX X ret mc' ms' z0 h0 post) (hA : ∀ (q : Nat) (e : va_E), h q = some e → X.A q) (hh : hv X.G z h H) (b : va_S X.A X.H H locs) (hq : post v z h) : ∀ t : State, t.heap = H → X.s.WarmedH t.vm → QC X.G z0 h0 post X.a X.s (.returned v) t := by
  intro t ht _
  obtain ⟨-, hA0, hH, -⟩ := hR
  rw [hA0] at hA b
  rw [hH] at b
  exact ⟨⟨v, z, h, rfl, hq, by rw [ht]; exact hh, hA⟩, b.F ht⟩
theorem V_iret (hX : okX X cc nL own d mc ms) (hR : reX X (some .int) k n z0 h0 post) {v : Int32} (hd : decode cc pc = .ok (.ireturn, 1)) (hq : post (some (.int v)) z h) : V X k n z h pc lv [.int v] := by
  intro hA H locs ls x b c
  show W _ _ _ _ _ _ _ _ _ _ _ _ _ _ X.Q _
  rw [hR.2.2.2]
  exact W.iret (v := v) hX.1 hX.2.1 hR.1 (QC.mk hR hA x b hq) (by rw [← hR.2.1]; exact b.2.2) hd hX.2.2.2.2.2.2.2.2
theorem V_zret (hX : okX X cc nL own d mc ms) (hR : reX X (some .boolean) k n z0 h0 post) {v : Int32} (hd : decode cc pc = .ok (.ireturn, 1)) (hn : narrow .boolean (.int v) = .int v) (hq : post (some (.int v)) z h) : V X k n z h pc lv [.int v] := by
  intro hA H locs ls x b c
  show W _ _ _ _ _ _ _ _ _ _ _ _ _ _ X.Q _
  rw [hR.2.2.2]
  exact W.zret (v := v) hX.1 hX.2.1 hR.1 hn (QC.mk hR hA x b hq) (by rw [← hR.2.1]; exact b.2.2) hd hX.2.2.2.2.2.2.2.2
theorem V_lret (hX : okX X cc nL own d mc ms) (hR : reX X (some .long) k n z0 h0 post) {v : Int64} (hd : decode cc pc = .ok (.lreturn, 1)) (hq : post (some (.long v)) z h) : V X k n z h pc lv [.long v] := by
  intro hA H locs ls x b c
  show W _ _ _ _ _ _ _ _ _ _ _ _ _ _ X.Q _
  rw [hR.2.2.2]
  exact W.lret (v := v) hX.1 hX.2.1 hR.1 (QC.mk hR hA x b hq) (by rw [← hR.2.1]; exact b.2.2) hd hX.2.2.2.2.2.2.2.2
theorem V_vret (hX : okX X cc nL own d mc ms) (hR : reX X none k n z0 h0 post) (hd : decode cc pc = .ok (.return_, 1)) (hq : post none z h) : V X k n z h pc lv [] := by
  intro hA H locs ls x b c
  show W _ _ _ _ _ _ _ _ _ _ _ _ _ _ X.Q _
  rw [hR.2.2.2]
  exact W.vret hX.1 hX.2.1 hR.1 (QC.mk hR hA x b hq) (by rw [← hR.2.1]; exact b.2.2) hd hX.2.2.2.2.2.2.2.2
/-- behind a call -/
theorem V.back {a : Array Value} {cp : Option Value → Nat → AH → Prop} {mc1 ms1 : Nat} {ls : Array Slot} {rest : List Value} {H : Heap} {locs : List Loc} (hX : okX X cc nL own d mc ms) (hA : ∀ (q : Nat) (e : va_E), h q = some e → X.A q) (x : hv X.G z h H) (b : va_S X.A X.H H locs) (c : lvh ls lv)
    (hr : va_Run X.p X.l X.e X.R X.s X.m X.a X.b X.mt X.c H locs k n mc1 ms1 (F0 X.m pc ls st) rest (QC X.G z h cp a) (dm h z))
    (kk : ∀ (v : Option Value) (z' : Nat) (h' : AH), cp v z' h' → V X (k + mc1) (n + ms1) z' h' (pc + 3) lv (v.toList ++ rest)) : XW X H locs k n (F0 X.m pc ls st) := by
  have hdA : ∀ q, dm h z q → X.A q := by
    rintro q (⟨e, he⟩ | hq)
    · exact hA q e he
    · exact hX.2.2.2.2.2.2.1 q (by have := b.1; have := x.1; omega)
  intro T hT Y
  obtain ⟨v, st₀, t, T', L, g0, Y', hL, e1, e2, ⟨⟨v', z', h', hv, hp, hh, hd'⟩, hz, hk⟩, st⟩ := hr T hT Y
  cases hv
  rw [g0] at hz hk
  obtain ⟨t2, a1, b1⟩ := kk v z' h' hp (fun q e he => hdA q (hd' q e he)) T'.heap (locs ++ L) ls (by rw [e1]; exact hh)
    ⟨Nat.le_trans b.1 (by rw [e1]; exact hz), fun q h1 h2 => by rw [e1, hk q (Nat.lt_of_lt_of_le h1 b.1) (fun w => h2 (hdA q w))]; exact b.2.1 q h1 h2, fun q hq => by
      rcases List.mem_append.mp hq with h | h
      · exact b.2.2 q h
      · exact hdA _ (hL q h)⟩ c T' rfl Y'
  exact ⟨t2, st t2 a1, b1⟩
theorem goodGG {y : MethodName} {bytes : ByteArray} {maxL : Nat} {ret : Option FieldType} (hw : Cond.code y bytes maxL ret ∈ GG) : GoodIn GG (Cond.code y bytes maxL ret :: GG) := fun w h => by
  rcases List.mem_cons.mp h with h | h
  · rw [h]; exact ⟨hw, GG_good _ hw⟩
  · exact ⟨h, GG_good _ h⟩
theorem goodV {own : String} {idx : Nat} {C : String} {y : MethodName} {ws : List Cond} (h : GoodIn GG ws) (h1 : Cond.methodLink own idx y ∈ GG) (h2 : Cond.instanceMethod y ∈ GG) (h3 : Cond.selects C y y ∈ GG) (h4 : Cond.initialized C ∈ GG) : GoodIn GG (wsV own idx C y ws) := fun w hw => by
  unfold wsV at hw
  rcases List.mem_append.mp hw with hw | hw
  · have hm : w ∈ GG := by
      simp only [List.mem_cons, List.not_mem_nil, or_false] at hw
      rcases hw with rfl | rfl | rfl | rfl
      · exact h1
      · exact h2
      · exact h3
      · exact h4
    exact ⟨hm, GG_good _ hm⟩
  · exact h w hw
theorem blindC {G : Gd} {av : List Value} : FrameBlind (va_Pc av (fun U => hv G z h U.heap ∧ KK G U)) := fun a U g mk q => ⟨q.1, q.2.1, KK.same (u := U) (U := U.calling g mk a) rfl q.2.2⟩
theorem V_callV (hX : okX X cc nL own d mc ms) {y : MethodName} {bytes : ByteArray} {maxL : Nat} {ret : Option FieldType} {d1 mc1 ms1 idx b ci nA : Nat} {C : String} {T : u_T} {N : Nat} {fs As rest : List Value} {cp : Option Value → Nat → AH → Prop} {k' n' : Nat} (hd : decode cc pc = .ok (.invokevirtual idx, 3)) (hM : Ct X.G y bytes maxL ret d1 mc1 ms1 (.ref b :: As) z h cp) (he : h b = some (.inr (ci, fs))) (hc : vwCl[ci]? = some (C, T, N))
    (w1 : Cond.methodLink own idx y ∈ GG) (w2 : Cond.instanceMethod y ∈ GG) (w3 : Cond.selects C y y ∈ GG) (w4 : Cond.initialized C ∈ GG) (w5 : Cond.code y bytes maxL ret ∈ GG) (hn : As.length = nA) (hy : y.cls = C ∧ y.cls ≠ "java/lang/invoke/MethodHandle" ∧ y.cls ≠ "java/lang/invoke/VarHandle" ∧ (parseMethodDescriptor y.desc).map (fun d => d.parameters.length) = some nA)
    (hs : st = As.reverse ++ .ref b :: rest) (hW : (rest.map fun v => v.category).sum ≤ 8) (hL : maxL ≤ 20) (hdd : d1 + 1 ≤ d) (hl : lv.length = nL) (hk : k + mc1 = k') (hk' : k' ≤ mc) (hn1 : n + ms1 = n') (hn' : n' ≤ ms) (hp : pc + 3 = pc')
    (kk : ∀ (v : Option Value) (z' : Nat) (h' : AH), cp v z' h' → V X k' n' z' h' pc' lv (v.toList ++ rest)) : V X k n z h pc lv st := by
  subst hp; subst hs; subst hk; subst hn1
  intro hA H locs ls x b' c
  obtain ⟨r1, r2, r3, r4⟩ := hX.2.2.2.2.2.2.2.1
  refine V.back hX hA x b' c (va_runV (As := As) (rest := rest) (nL := nL) ⟨hX.1, hX.2.1, hX.2.2.1, hX.2.2.2.1, hX.2.2.2.2.1⟩ (hM X.l) (cwV nA hX.2.2.2.2.1 (goodV (goodGG w5) w1 w2 w3 w4) rfl rfl rfl hy ⟨by show d1 + 1 ≤ _; omega, by show 8 + (maxL + 11) + 40 * d1 ≤ _; omega⟩) ⟨blindC, ?_, fun U hU hWm => ⟨rfl, by rw [hU]; exact x, KK.warm hWm hX.2.2.2.2.2.1⟩⟩ rfl hn (by rw [← hl]; exact c.1) rfl (lv_room hW) hd ⟨by omega, by omega⟩) kk
  obtain ⟨q', h1, cell, g1, g2, g3, -⟩ := x.2 b _ he
  have hr : q' = (C, T, N) := Option.some.inj (h1.symm.trans hc)
  subst hr
  exact ⟨cell, g1, by rw [g3]; rfl, by rw [g2]; exact (hX.2.2.2.2.2.1.1.1 ci _ hc).2.1⟩
theorem V_callS (hX : okX X cc nL own d mc ms) {y : MethodName} {bytes : ByteArray} {maxL : Nat} {ret : Option FieldType} {d1 mc1 ms1 idx nA : Nat} {As rest : List Value} {cp : Option Value → Nat → AH → Prop} {k' n' : Nat} (hd : decode cc pc = .ok (.invokestatic idx, 3)) (hM : Ct X.G y bytes maxL ret d1 mc1 ms1 As z h cp)
    (w1 : Cond.methodLink own idx y ∈ GG) (w2 : Cond.static y ∈ GG) (w4 : Cond.initialized y.cls ∈ GG) (w5 : Cond.code y bytes maxL ret ∈ GG) (hn : As.length = nA) (hy : y.cls ≠ "java/lang/invoke/MethodHandle" ∧ y.cls ≠ "java/lang/invoke/VarHandle" ∧ (parseMethodDescriptor y.desc).map (fun d => d.parameters.length) = some nA)
    (hs : st = As.reverse ++ rest) (hW : (rest.map fun v => v.category).sum ≤ 8) (hL : maxL ≤ 20) (hdd : d1 + 1 ≤ d) (hl : lv.length = nL) (hk : k + mc1 = k') (hk' : k' ≤ mc) (hn1 : n + ms1 = n') (hn' : n' ≤ ms) (hp : pc + 3 = pc')
    (kk : ∀ (v : Option Value) (z' : Nat) (h' : AH), cp v z' h' → V X k' n' z' h' pc' lv (v.toList ++ rest)) : V X k n z h pc lv st := by
  subst hp; subst hs; subst hk; subst hn1
  intro hA H locs ls x b' c
  obtain ⟨r1, r2, r3, r4⟩ := hX.2.2.2.2.2.2.2.1
  have hts := hX.2.2.2.2.1
  exact V.back hX hA x b' c (va_runS (As := As) (rest := rest) (nL := nL) ⟨hX.1, hX.2.1, hX.2.2.1, hX.2.2.2.1, hX.2.2.2.2.1⟩ (hM X.l) ⟨callB_of nA hts (goodGG w5) rfl rfl rfl (hts _ w4) (hts _ w1) hy ⟨by show d1 + 1 ≤ _; omega, by show 8 + (maxL + 11) + 40 * d1 ≤ _; omega⟩, hts _ w2⟩ ⟨blindC, fun U hU hWm => ⟨rfl, by rw [hU]; exact x, KK.warm hWm hX.2.2.2.2.2.1⟩⟩ rfl hn (by rw [← hl]; exact c.1) rfl (lv_room hW) hd ⟨by omega, by omega⟩) kk
theorem V_callI (hX : okX X cc nL own d mc ms) {y : MethodName} {bytes : ByteArray} {maxL : Nat} {d1 mc1 ms1 idx b nA : Nat} {As rest : List Value} {cp : Option Value → Nat → AH → Prop} {k' n' : Nat} (hd : decode cc pc = .ok (.invokespecial idx, 3)) (hM : Ct X.G y bytes maxL none d1 mc1 ms1 (.ref b :: As) z h cp)
    (w1 : Cond.methodLink own idx y ∈ GG) (w2 : Cond.instanceMethod y ∈ GG) (w4 : Cond.initialized y.cls ∈ GG) (w5 : Cond.code y bytes maxL none ∈ GG) (hn : As.length = nA) (hy : y.name = "<init>" ∧ y.cls ≠ "java/lang/invoke/MethodHandle" ∧ y.cls ≠ "java/lang/invoke/VarHandle" ∧ (parseMethodDescriptor y.desc).map (fun d => d.parameters.length) = some nA)
    (hs : st = As.reverse ++ .ref b :: rest) (hW : (rest.map fun v => v.category).sum ≤ 8) (hL : maxL ≤ 20) (hdd : d1 + 1 ≤ d) (hl : lv.length = nL) (hk : k + mc1 = k') (hk' : k' ≤ mc) (hn1 : n + ms1 = n') (hn' : n' ≤ ms) (hp : pc + 3 = pc')
    (kk : ∀ (v : Option Value) (z' : Nat) (h' : AH), cp v z' h' → V X k' n' z' h' pc' lv (v.toList ++ rest)) : V X k n z h pc lv st := by
  subst hp; subst hs; subst hk; subst hn1
  intro hA H locs ls x b' c
  obtain ⟨r1, r2, r3, r4⟩ := hX.2.2.2.2.2.2.2.1
  have hts := hX.2.2.2.2.1
  exact V.back hX hA x b' c (va_runI (As := As) (rest := rest) (nL := nL) ⟨hX.1, hX.2.1, hX.2.2.1, hX.2.2.2.1, hX.2.2.2.2.1⟩ (hM X.l) ⟨callB_of nA hts (goodGG w5) rfl rfl rfl (hts _ w4) (hts _ w1) hy.2 ⟨by show d1 + 1 ≤ _; omega, by show 8 + (maxL + 11) + 40 * d1 ≤ _; omega⟩, hy.1, hts _ w2⟩ ⟨blindC, fun U hU hWm => ⟨rfl, by rw [hU]; exact x, KK.warm hWm hX.2.2.2.2.2.1⟩⟩ rfl hn (by rw [← hl]; exact c.1) rfl (lv_room hW) hd ⟨by omega, by omega⟩) kk
/-- a private constructor of a nest mate -/
theorem V_callIN (hX : okX X cc nL own d mc ms) {y : MethodName} {bytes : ByteArray} {maxL : Nat} {d1 mc1 ms1 idx b nA : Nat} {host : String} {As rest : List Value} {cp : Option Value → Nat → AH → Prop} {k' n' : Nat} (hd : decode cc pc = .ok (.invokespecial idx, 3)) (hM : Ct X.G y bytes maxL none d1 mc1 ms1 (.ref b :: As) z h cp)
    (w1 : Cond.methodLinkNest own idx y host ∈ NNm) (w2 : Cond.instanceMethod y ∈ GG) (w4 : Cond.initialized y.cls ∈ GG) (w5 : Cond.code y bytes maxL none ∈ GG) (hn : As.length = nA) (hy : y.name = "<init>" ∧ y.cls ≠ "java/lang/invoke/MethodHandle" ∧ y.cls ≠ "java/lang/invoke/VarHandle" ∧ (parseMethodDescriptor y.desc).map (fun d => d.parameters.length) = some nA)
    (hs : st = As.reverse ++ .ref b :: rest) (hW : (rest.map fun v => v.category).sum ≤ 8) (hL : maxL ≤ 20) (hdd : d1 + 1 ≤ d) (hl : lv.length = nL) (hk : k + mc1 = k') (hk' : k' ≤ mc) (hn1 : n + ms1 = n') (hn' : n' ≤ ms) (hp : pc + 3 = pc')
    (kk : ∀ (v : Option Value) (z' : Nat) (h' : AH), cp v z' h' → V X k' n' z' h' pc' lv (v.toList ++ rest)) : V X k n z h pc lv st := by
  subst hp; subst hs; subst hk; subst hn1
  intro hA H locs ls x b' c
  obtain ⟨r1, r2, r3, r4⟩ := hX.2.2.2.2.2.2.2.1
  have hts := hX.2.2.2.2.1
  exact V.back hX hA x b' c (va_runIN (As := As) (rest := rest) (nL := nL) ⟨hX.1, hX.2.1, hX.2.2.1, hX.2.2.2.1, hX.2.2.2.2.1⟩ (hM X.l) ⟨va_cnB nA hts (goodGG w5) rfl rfl rfl (hX.2.2.2.2.2.1.2.2.2 _ w1) (hts _ w4) hy.2 ⟨by show d1 + 1 ≤ _; omega, by show 8 + (maxL + 11) + 40 * d1 ≤ _; omega⟩, hy.1, hts _ w2⟩ ⟨blindC, fun U hU hWm => ⟨rfl, by rw [hU]; exact x, KK.warm hWm hX.2.2.2.2.2.1⟩⟩ rfl hn (by rw [← hl]; exact c.1) rfl (lv_room hW) hd ⟨by omega, by omega⟩) kk
end VE
