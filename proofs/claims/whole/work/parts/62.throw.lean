/-! the exception of PairSieve.pair: its words, what of the start it needs, how it is caught -/
def nseC : String := "java/util/NoSuchElementException"
abbrev rteC : String := "java/lang/RuntimeException"
abbrev thrN : String := "java/lang/Throwable"
def isR1 : Cond := .isRef (.static "java/lang/Throwable" "UNASSIGNED_STACK" "[Ljava/lang/StackTraceElement;")
def isR2 : Cond := .isRef (.static "java/lang/Throwable" "SUPPRESSED_SENTINEL" "Ljava/util/List;")
/-- the words of new NoSuchElementException(String): its constructor passes on at entry 13, those above it at 7 -/
def nseW : List Cond := Bundle.throwableAtoms ++ Bundle.throwableSAtoms ++ (Bundle.passSAtoms nseC rteC 13 prog_19_method_4_code ++ Bundle.chainSAtoms rteC ["java/lang/Exception"]) ++
  [.methodLink "PairSieve" 221 (Bundle.initS nseC), .instantiable nseC 6, .castable nseC nseC, .selects nseC Bundle.tFill0 Bundle.tFill0, .selects nseC Bundle.tFill Bundle.tFill,
   .lays nseC thrN "cause" "Ljava/lang/Throwable;", .lays nseC thrN "stackTrace" "[Ljava/lang/StackTraceElement;", .lays nseC thrN "suppressedExceptions" "Ljava/util/List;", .lays nseC thrN "detailMessage" "Ljava/lang/String;",
   isR1, isR2, .fieldLink thrN 198 thrN "backtrace" "Ljava/lang/Object;", .lays thrN thrN "backtrace" "Ljava/lang/Object;", .lays nseC thrN "backtrace" "Ljava/lang/Object;"]
def tabK (w : Cond) : Bool := w.onTables && w.keepsFace
def isL1 : Cond := .laysStatic thrN "UNASSIGNED_STACK" "[Ljava/lang/StackTraceElement;"
def isL2 : Cond := .laysStatic thrN "SUPPRESSED_SENTINEL" "Ljava/util/List;"
theorem nse_in : ∀ w ∈ nseW, w = isR1 ∨ w = isR2 ∨ (w ∈ lw_tbl ∧ (w = isL1 ∨ w = isL2 ∨ tabK w = true)) := by decide +kernel
theorem ls_move {O f d : String} {s U : State} {a a' : Array Value} (hW : s.WarmedH U.vm) (hh : ∀ (q : Nat) (cell : Cell), s.heap[q]? = some cell → cell.vm.isStatics = true → U.heap[q]? = some cell) (h : (Cond.laysStatic O f d).before a s = true) : (Cond.laysStatic O f d).before a' U = true := by
  obtain ⟨c, k, i, fd, q, cell, hc, hi, hst, ha, hcell, hs, hcls, hlt, hty⟩ := Cond.laysStatic_spec h
  obtain ⟨k', hi', hek⟩ := State.fieldFound?_setVm hW.alike hi
  exact Cond.laysStatic_of (s := U) (by rw [hW.alike.findClass]; exact hc) hi' hst (by rw [hek]; exact ha) (hh q cell hcell hs) hs hcls hlt (by rw [hek]; exact hty)
theorem wB_nse : Cond.instantiable nseC 6 ∈ GG := List.mem_filter.mpr ⟨by decide +kernel, by decide +kernel⟩
theorem wW_L_pair : Cond.codeWith yL_pair cL_pair 5 (some .int) [(0, 10, 13, 13)] ∈ GG := List.mem_filter.mpr ⟨by decide +kernel, by decide +kernel⟩
theorem tabK_warm {a a' : Array Value} {s U : State} (hW : s.WarmedH U.vm) {w : Cond} (hw : tabK w = true) (h : w.before a s = true) : w.before a' U = true := by
  simp only [tabK, Bool.and_eq_true] at hw
  have h1 : w.before a' (U.setVm U.vm) = true := by
    rw [Cond.onTables_vm (A' := a) (U' := s) U.vm w hw.1]
    exact Cond.before_shiftedFace (State.Shifted.of_warmed hW) w hw.2 h
  rwa [State.setVm_self] at h1
def txP : String := "no such pair is kept"
/-- what a throw needs of the start: the message's String, the words -/
def SS (U : State) : Prop := (∃ q, vk_R "PairSieve" 219 txP q U) ∧ ∀ (a : Array Value), ∀ w ∈ nseW, w.before a U = true
theorem isR_val {O f d : String} {s : State} {a : Array Value} : (Cond.isRef (.static O f d)).before a s = true ↔ ∃ v, (Term.static O f d).eval a s none [] s = some v ∧ v.isRef = true := by
  simp only [Cond.before, Cond.holds, Cond.value]
  cases h : (Term.static O f d).eval a s none [] s with
  | none => simp
  | some v => cases v <;> simp [Value.isRef]
theorem st_move {O f d : String} {s U : State} {a a' : Array Value} {v : Value} (hW : s.WarmedH U.vm) (hh : ∀ (q : Nat) (cell : Cell), s.heap[q]? = some cell → cell.vm.isStatics = true → U.heap[q]? = some cell) (h : (Term.static O f d).eval a s none [] s = some v) : (Term.static O f d).eval a' U none [] U = some v := by
  cases hi : s.fieldFound? O f d with
  | none => simp [Term.eval, State.fieldNamed?, hi] at h
  | some w =>
    obtain ⟨c, k, i, fd⟩ := w
    obtain ⟨hst, q, cell, hq, hcell, -, hslot⟩ := Term.static_spec hi h
    have hs : cell.vm.isStatics = true := by
      simp only [Term.eval, State.fieldNamed?, hi, Option.bind_eq_bind, Option.bind_some, hst, beq_self_eq_true, if_true, Option.pure_def, hq, hcell] at h
      by_cases g : cell.vm.isStatics = true
      · exact g
      · simp [g] at h
    obtain ⟨k', hi', hek⟩ := State.fieldFound?_setVm hW.alike hi
    exact Term.static_eval (s := U) hi' hst (by rw [hek]; exact hq) (hh q cell hcell hs) hs hslot
theorem SS.move {s U : State} (hS : SS s) (hW : s.WarmedH U.vm) (hh : ∀ (q : Nat) (cell : Cell), s.heap[q]? = some cell → cell.vm.isStatics = true → U.heap[q]? = some cell) : SS U := by
  obtain ⟨⟨q, h1⟩, h2⟩ := hS
  refine ⟨⟨q, h1.warm hW⟩, fun a w hw => ?_⟩
  have g := h2 a w hw
  rcases nse_in w hw with e | e | e
  · subst e
    obtain ⟨v, e1, e2⟩ := isR_val.mp g
    exact isR_val.mpr ⟨v, st_move hW hh e1, e2⟩
  · subst e
    obtain ⟨v, e1, e2⟩ := isR_val.mp g
    exact isR_val.mpr ⟨v, st_move hW hh e1, e2⟩
  · rcases e.2 with e | e | e
    · subst e
      exact ls_move hW hh g
    · subst e
      exact ls_move hW hh g
    · exact tabK_warm hW e g
/-- a frame finds its handler, and the tables change by the catch type that is now resolved -/
theorem th_step {e : Env} {s : State} {a : Addr} {f : JFrame} {r : List Frame} {pc : Nat} {vm' : Vm} (hf : ∀ (Q : Handler → Pre) (E : CtlPost) (d : Bool) (acts : List Action), wp (findHandler f a) Q E e d acts s ↔ Q (.found pc) d acts (s.setVm vm')) :
    (stepThrowing e s a (.java f :: r)).Is ((s.setVm vm').setFrames (.java { f with pc := pc, stack := [.ref a] } :: r)) [] := by
  simp only [stepThrowing, searchFrame, vmDo]
  generalize hr : Sem.go _ e false [] s = res
  obtain ⟨as, rfl, ha⟩ := Sem.eq_ok_of hr (a := Handler.found pc) (s' := s.setVm vm') (acts' := []) (by simp [hf _ _ _ _])
  exact ⟨rfl, ha⟩
theorem th_find {e : Env} {s : State} {f : JFrame} {a : Addr} {meth : Method} {c : Code} {x : ExceptionTableEntry} {cT : ClassId} {cell : Cell} (hm : s.vm.method? f.method = some meth) (hc : meth.code = some c) (ht : c.exceptionTable.toList = [x]) (hx : covers x f.pc = true) (h0 : x.catchType ≠ 0)
    (hl : s.vm.ClassLinks e.platform f.method.cls x.catchType cT) (hcell : s.heap[a]? = some cell) (hobj : ∀ k, cell.vm ≠ .statics k) (hk : ∃ k, s.vm.classes[cell.cls]? = some k) (hkt : ∃ k, s.vm.classes[cT]? = some k) (hfit : s.vm.assignable cell.cls cT = true) :
    ∀ (Q : Handler → Pre) (E : CtlPost) (d : Bool) (acts : List Action), wp (findHandler f a) Q E e d acts s ↔ Q (.found x.handlerPc) d acts (s.setVm (s.vm.noted f.method.cls x.catchType (.cls cT))) := by
  intro Q E d acts
  rw [W.findHandler_eq hm hc, ht]
  simp only [covers] at hx
  obtain ⟨ha, hta⟩ := (resolveClass_links e.toSetting hl).op (op := VmOp.resolveClass f.method.cls x.catchType) rfl
  have hal : s.vm.Alike (s.vm.noted f.method.cls x.catchType (.cls cT)) := (Vm.Alike.refl s.vm).noted _ _ _
  obtain ⟨k1, hk1⟩ := hk
  obtain ⟨k2, hk2⟩ := hkt
  obtain ⟨k1', hk1', -⟩ := hal.2.2 _ _ hk1
  obtain ⟨k2', hk2', -⟩ := hal.2.2 _ _ hk2
  have hfit' : (s.vm.noted f.method.cls x.catchType (.cls cT)).assignable cell.cls cT = true := by rw [hal.assignable]; exact hfit
  simp [findHandler.go, hx, h0, ha, hta, hcell, hobj, hk1', hk2', hfit', VmOp.dirties, VmOp.acts]
theorem th_caught {tb : Tables} {e : Env} {s target : State} {g : JFrame} {c : Code} {below : List Frame} {a : Addr} (h : At s g.method c below) {pc : Nat} {vm' : Vm}
    (hf : ∀ (Q : Handler → Pre) (E : CtlPost) (d : Bool) (acts : List Action), wp (findHandler g a) Q E e d acts ((s.setTop g).pushFrame (.throwing a)) ↔ Q (.found pc) d acts (((s.setTop g).pushFrame (.throwing a)).setVm vm')) (hrest : Steps tb e below ((s.setVm vm').setTop { g with pc := pc, stack := [.ref a] }) target) :
    Steps tb e below ((s.setTop g).pushFrame (.throwing a)) target := by
  obtain ⟨hgo, hw⟩ := h.throwing a
  refine Steps.head hgo hw ?_
  rw [stepThread_throwing (frames_entered h.top _), (th_step (s := (s.setTop g).pushFrame (.throwing a)) hf).1]
  obtain ⟨g₀, hg⟩ := Option.isSome_iff_exists.mp h.top
  obtain ⟨r, hr⟩ := State.topJava?_eq_some.mp hg
  have hr' : (s.setVm vm').frames = .java g₀ :: r := hr
  have hsw : ∀ (u : State) (F K : List Frame), ((u.setFrames F).setVm vm').setFrames K = (u.setVm vm').setFrames K := fun u F K => by
    have h1 : (u.setFrames F).setVm vm' = (u.setVm vm').setFrames F := rfl
    rw [h1, State.setFrames_setFrames]
  rw [State.setTop_of_frames _ hr'] at hrest
  rw [hr, List.tail_cons, State.pushFrame, hsw, State.setTop_of_frames _ hr, hsw]
  exact hrest
