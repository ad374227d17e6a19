/-! the exception of PairSieve.pair: its words, what of the start it needs, how it is caught -/
def nseC : String := "java/util/NoSuchElementException"
def nseN : List String := ["java/lang/RuntimeException", "java/lang/Exception"]
def isR1 : Cond := .isRef (.static "java/lang/Throwable" "UNASSIGNED_STACK" "[Ljava/lang/StackTraceElement;")
def isR2 : Cond := .isRef (.static "java/lang/Throwable" "SUPPRESSED_SENTINEL" "Ljava/util/List;")
theorem own_in : ∀ w ∈ (Bundle.ownAtoms "PairSieve" 221 nseC nseN).filter goodWord, w ∈ lw_tbl := by decide +kernel
theorem own_rest : ∀ w ∈ Bundle.ownAtoms "PairSieve" 221 nseC nseN, goodWord w = true ∨ w = isR1 ∨ w = isR2 := by decide +kernel
theorem wB_nse : Cond.instantiable nseC 6 ∈ GG := List.mem_filter.mpr ⟨by decide +kernel, by decide +kernel⟩
theorem wCast_nse : Cond.castable nseC nseC ∈ GG := List.mem_filter.mpr ⟨by decide +kernel, by decide +kernel⟩
theorem wW_L_pair : Cond.codeWith yL_pair cL_pair 5 (some .int) [(0, 10, 13, 13)] ∈ GG := List.mem_filter.mpr ⟨by decide +kernel, by decide +kernel⟩
def txP : String := "no such pair is kept"
/-- what a throw needs of the start beside the tables: the message's String, the two statics of Throwable -/
def SS (U : State) : Prop := (∃ q, vk_R "PairSieve" 219 txP q U) ∧ ∀ a : Array Value, isR1.before a U = true ∧ isR2.before a U = true
theorem isR_val {O f d : String} {s : State} {a : Array Value} : (Cond.isRef (.static O f d)).before a s = true ↔ ∃ v, (Term.static O f d).eval a s none [] s = some v ∧ v.isRef = true := by
  simp only [Cond.before, Cond.holds, Cond.value]
  cases h : (Term.static O f d).eval a s none [] s with
  | none => simp
  | some v => simp
theorem st_move {O f d : String} {s U : State} {a a' : Array Value} {v : Value} (hW : s.WarmedH U.vm) (hh : ∀ (q : Nat) (cell : Cell), s.heap[q]? = some cell → cell.vm.isStatics = true → U.heap[q]? = some cell) (h : (Term.static O f d).eval a s none [] s = some v) : (Term.static O f d).eval a' U none [] U = some v := by
  cases hi : s.fieldFound? O f d with
  | none => simp [Term.eval, State.fieldNamed?, hi] at h
  | some w =>
    obtain ⟨c, k, i, fd⟩ := w
    obtain ⟨hst, q, cell, hq, hcell, -, hslot⟩ := Term.static_spec hi h
    have hs : cell.vm.isStatics = true := by
      simp only [Term.eval, State.fieldNamed?, hi, Option.bind_eq_bind, Option.bind_some, hst, beq_self_eq_true, if_true, Option.pure_def, hq, hcell] at h
      by_cases g : cell.vm.isStatics = true
      · exact g
      · simp [g] at h
    obtain ⟨k', hi', hek⟩ := State.fieldFound?_setVm hW.alike hi
    exact Term.static_eval (s := U) hi' hst (by rw [hek]; exact hq) (hh q cell hcell hs) hs hslot
theorem SS.move {s U : State} (hS : SS s) (hW : s.WarmedH U.vm) (hh : ∀ (q : Nat) (cell : Cell), s.heap[q]? = some cell → cell.vm.isStatics = true → U.heap[q]? = some cell) : SS U := by
  obtain ⟨⟨q, h1⟩, h2⟩ := hS
  refine ⟨⟨q, h1.warm hW⟩, fun a => ?_⟩
  obtain ⟨g1, g2⟩ := h2 a
  constructor
  · obtain ⟨v, e1, e2⟩ := isR_val.mp g1
    exact isR_val.mpr ⟨v, st_move hW hh e1, e2⟩
  · obtain ⟨v, e1, e2⟩ := isR_val.mp g2
    exact isR_val.mpr ⟨v, st_move hW hh e1, e2⟩
/-- a frame finds its handler, and the tables change by the catch type that is now resolved -/
theorem th_step {e : Env} {s : State} {a : Addr} {f : JFrame} {r : List Frame} {pc : Nat} {vm' : Vm} (hf : ∀ (Q : Handler → Pre) (E : CtlPost) (d : Bool) (acts : List Action), wp (findHandler f a) Q E e d acts s ↔ Q (.found pc) d acts (s.setVm vm')) :
    (stepThrowing e s a (.java f :: r)).Is ((s.setVm vm').setFrames (.java { f with pc := pc, stack := [.ref a] } :: r)) [] := by
  simp only [stepThrowing, searchFrame, vmDo]
  generalize hr : Sem.go _ e false [] s = res
  obtain ⟨as, rfl, ha⟩ := Sem.eq_ok_of hr (a := Handler.found pc) (s' := s.setVm vm') (acts' := []) (by simp [hf _ _ _ _])
  exact ⟨rfl, ha⟩
theorem th_find {e : Env} {s : State} {f : JFrame} {a : Addr} {meth : Method} {c : Code} {x : ExceptionTableEntry} {cT : ClassId} {cell : Cell} (hm : s.vm.method? f.method = some meth) (hc : meth.code = some c) (ht : c.exceptionTable.toList = [x]) (hx : covers x f.pc = true) (h0 : x.catchType ≠ 0)
    (hl : s.vm.ClassLinks e.platform f.method.cls x.catchType cT) (hcell : s.heap[a]? = some cell) (hobj : ∀ k, cell.vm ≠ .statics k) (hk : ∃ k, s.vm.classes[cell.cls]? = some k) (hkt : ∃ k, s.vm.classes[cT]? = some k) (hfit : s.vm.assignable cell.cls cT = true) :
    ∀ (Q : Handler → Pre) (E : CtlPost) (d : Bool) (acts : List Action), wp (findHandler f a) Q E e d acts s ↔ Q (.found x.handlerPc) d acts (s.setVm (s.vm.noted f.method.cls x.catchType (.cls cT))) := by
  intro Q E d acts
  rw [W.findHandler_eq hm hc, ht]
  simp only [covers] at hx
  obtain ⟨ha, hta⟩ := (resolveClass_links e.toSetting hl).op (op := VmOp.resolveClass f.method.cls x.catchType) rfl
  have hal : s.vm.Alike (s.vm.noted f.method.cls x.catchType (.cls cT)) := (Vm.Alike.refl s.vm).noted _ _ _
  obtain ⟨k1, hk1⟩ := hk
  obtain ⟨k2, hk2⟩ := hkt
  obtain ⟨k1', hk1', -⟩ := hal.2.2 _ _ hk1
  obtain ⟨k2', hk2', -⟩ := hal.2.2 _ _ hk2
  have hfit' : (s.vm.noted f.method.cls x.catchType (.cls cT)).assignable cell.cls cT = true := by rw [hal.assignable]; exact hfit
  simp [findHandler.go, hx, h0, ha, hta, hcell, hobj, hk1', hk2', hfit', VmOp.dirties, VmOp.acts]
theorem th_caught {tb : Tables} {e : Env} {s target : State} {g : JFrame} {c : Code} {below : List Frame} {a : Addr} (h : At s g.method c below) {pc : Nat} {vm' : Vm}
    (hf : ∀ (Q : Handler → Pre) (E : CtlPost) (d : Bool) (acts : List Action), wp (findHandler g a) Q E e d acts ((s.setTop g).pushFrame (.throwing a)) ↔ Q (.found pc) d acts (((s.setTop g).pushFrame (.throwing a)).setVm vm')) (hrest : Steps tb e below ((s.setVm vm').setTop { g with pc := pc, stack := [.ref a] }) target) :
    Steps tb e below ((s.setTop g).pushFrame (.throwing a)) target := by
  obtain ⟨hgo, hw⟩ := h.throwing a
  refine Steps.head hgo hw ?_
  rw [stepThread_throwing (frames_entered h.top _), (th_step (s := (s.setTop g).pushFrame (.throwing a)) hf).1]
  obtain ⟨g₀, hg⟩ := Option.isSome_iff_exists.mp h.top
  obtain ⟨r, hr⟩ := State.topJava?_eq_some.mp hg
  have hr' : (s.setVm vm').frames = .java g₀ :: r := hr
  have hsw : ∀ (u : State) (F K : List Frame), ((u.setFrames F).setVm vm').setFrames K = (u.setVm vm').setFrames K := fun u F K => by
    have h1 : (u.setFrames F).setVm vm' = (u.setVm vm').setFrames F := rfl
    rw [h1, State.setFrames_setFrames]
  rw [State.setTop_of_frames _ hr'] at hrest
  rw [hr, List.tail_cons, State.pushFrame, hsw, State.setTop_of_frames _ hr, hsw]
  exact hrest
