/-! THE CLAIM OUT OF ONE WALK OF THE LAW'S BODY. Your part is whole_start (and what it stands on); all else here is the same for every law, but numbers. -/
def R_law : String := "PairSieveLaw"
def lw_P (b : Addr) (xs : List Int32) (args : Array Value) (s : State) : Prop := args = #[.ref b] ∧ s.IntsAt b xs ∧ xs.length ≤ 3072 ∧ (Jvm.Cond.and given_1 narrow_1).before args s = true
def lw_Q (_ : Array Value) (s : State) (o : Outcome) (t : State) : Prop := o = .returned (some (.int 1)) ∧ Framed s o t [] 601024 7293034
def lw_Z (below : List Frame) (a : Array Value) (s : State) : State → Prop := fun t => ∃ o, t.status = .running ∧ Ended t below o ∧ lw_Q a s o t
/-- the law's own end, with 1 on the stack, nothing written that was there before, its room as the claim has it -/
theorem lw_ret {p : Program} {l : Launch} {e : Env} {s : State} {m : MethodId} {below : List Frame} {meth : Method} {c : Code} {b : Nat} (hx : p.tables.exec = Jvm.exec) (hb : c.code = code) (hr : meth.sig.returnType = ret) (hlocks : meth.locks = false) {pc : Nat} {H : Heap} {ls : Array Slot} (hdg : decode code pc = .ok (.ireturn, 1)) : W p l e room_1 s m #[Value.ref b] below meth c H [] 601024 7293034 (lw_Z below #[Value.ref b] s) (F0 m pc ls [.int 1]) := by
  intro T hT X
  obtain ⟨fs, hret, hrun, hended, hW, hframe⟩ := X.leave (v := some (.int 1)) (hlocks := hlocks) (fun h => by rw [hr] at h; cases h)
  have hmeth' : T.vm.method? m = some meth := X.method'
  refine ⟨T.setFrames fs, ?_, .returned (some (.int 1)), hrun, hended, rfl, ⟨_, rfl⟩, hW, hframe⟩
  jvm_step X.here [X.here.top, hx, hb, hdg, hmeth', hr, ret, narrow_b1]
  (try refine ⟨rfl, ?_⟩); (try refine ⟨rfl, ?_⟩)
  first | (intro acts; rw [hret _ acts rfl rfl rfl]) | rw [hret _ _ rfl rfl rfl]
  exact Steps.refl _
/-- what holds at the law's entry: the machine, the code, the tables' words (any of lw_tbl by 'hts w (by decide +kernel)'), the script of L ints xs at the cell b, what the Statement gives of the start (any of its parts by flat_of_before) -/
def lw_At (p : Program) (s : State) (m : MethodId) (meth : Method) (c : Code) (b L : Nat) (xs : Nat → Int32) : Prop :=
  p.tables.exec = Jvm.exec ∧ c.code = code ∧ meth.sig.returnType = ret ∧ c.maxLocals = 7 ∧ s.vm.findClass R_law = some m.cls ∧ (∀ w ∈ lw_tbl, w.before #[Value.ref b] s = true) ∧ va_X b L xs s s.heap ∧ b < s.heap.size ∧ meth.locks = false ∧ (Jvm.Cond.and given_1 narrow_1).before #[Value.ref b] s = true

theorem V_fin {p : Program} {l : Launch} {e : Env} {s : State} {m : MethodId} {below : List Frame} {meth : Method} {c : Code} {G : Gd} {b z pc : Nat} {h : AH} {lv : List (Option Value)} {X : CX} (eX : X = (p, l, e, room_1, s, m, #[Value.ref b], below, meth, c, G, (fun q => s.heap.size ≤ q), s.heap, lw_Z below #[Value.ref b] s)) (hX : okX X cL_law 7 RL 60 601024 7293034) (hr : meth.sig.returnType = ret) (hd : decode cL_law pc = .ok (.ireturn, 1)) : V X 601024 7293034 z h pc lv [.int 1] := by
  subst eX
  intro hA' H locs ls x b' c' T hT Y
  have Y' : Stand p l e room_1 s m #[Value.ref b] below meth c T [] 601024 7293034 := ⟨Y.admits, Y.cas, Y.clock, Y.frames, Y.room, Y.hears, Y.method, Y.code, Y.here, Y.tail, Y.warmed, Y.limits, Y.bytes, Y.same.weaken (fun y hy hlt => absurd hlt (Nat.not_lt.mpr (b'.2.2 y hy))) (Nat.le_refl _) (Nat.le_refl _)⟩
  exact lw_ret hX.1 hX.2.1 hr hX.2.2.2.2.2.2.2.2 hd T hT Y'
theorem SS_start {s : State} {b : Nat} (hts : ∀ w ∈ lw_tbl, w.before #[Value.ref b] s = true) (hgv : (Jvm.Cond.and given_1 narrow_1).before #[Value.ref b] s = true) : SS s := by
  have hs := flat_of_before _ hgv
  have h1 : isR1.before #[Value.ref b] s = true := hs _ (by decide +kernel)
  have h2 : isR2.before #[Value.ref b] s = true := hs _ (by decide +kernel)
  have h3 : (Cond.exactly (.string "PairSieve" 219) "java/lang/String").before #[Value.ref b] s = true := hs _ (by decide +kernel)
  have h4 : (Cond.stringRef "PairSieve" 219 txP).before #[Value.ref b] s = true := hts _ (by decide +kernel)
  obtain ⟨q, -, -, -, q1, -⟩ := Cond.exactly_spec (args := #[Value.ref b]) (first := s) (o := none) (s := s) (idx := []) (t := .string "PairSieve" 219) (cls := "java/lang/String") h3
  refine ⟨⟨q, vk_R.of h4 q1⟩, fun a w hw => ?_⟩
  have hW := State.WarmedH.refl s
  rcases nse_in w hw with e | e | ⟨hin, e⟩
  · subst e
    obtain ⟨v, e1, e2⟩ := isR_val.mp h1
    exact isR_val.mpr ⟨v, st_move hW (fun _ _ h _ => h) e1, e2⟩
  · subst e
    obtain ⟨v, e1, e2⟩ := isR_val.mp h2
    exact isR_val.mpr ⟨v, st_move hW (fun _ _ h _ => h) e1, e2⟩
  · have g := hts w hin
    rcases e with e | e | e
    · subst e
      exact ls_move hW (fun _ _ h _ => h) g
    · subst e
      exact ls_move hW (fun _ _ h _ => h) g
    · exact tabK_warm hW e g
theorem REL_start {G : Gd} {x : Nat} {h1 h2 : AH} {cell : va_E} {f0 : Nat → Int64} {th : Int32} (hP1 : psAt G h1 (x + 23) x 0 (fun _ => none) (fun _ => []) (fun _ => tF (fun _ => 0) (fun _ => 0) 0) (fun _ => wtF 1 (fun _ => 0) (fun _ => 0) 0) (fun _ => 0) (fun _ => 0) 0 (fun _ => 0) (fun _ => 0) 0 1 1 2 (fun _ => 0) 0 (fun _ => 0) 0 (fun _ => 0) (fun _ => 0) (fun _ => 0) 0 (fun _ => 0) 0 0)
    (hf2 : fr (x + 23) (x + 23 + 19) (hup h1 (x + 23) cell) h2) (hM2 : mdC G h2 (x + 23) th 0 0 0 1 1 2 0 0 0 0 0 (fun _ => false) (fun _ => 0) (fun _ => 0) (fun _ => 0) (fun _ => 0) (fun _ => 0) (fun _ => 0) (fun _ => 0) (fun _ => 0) (fun _ => 0) (fun _ => 0) (fun _ => 0) (fun _ => 0) (fun _ => 0) (fun _ => nI 0) (fun _ => 0) (fun _ => 0) (fun _ => 0)) : REL G (hup h2 (x + 42) (oJ G 1 f0)) (x + 43) x := by
  have hA : ∀ r q0, (fun _ => none : Nat → Option Nat) r = some q0 → x + 43 ≤ q0 := fun r q0 hr => by cases hr
  have hfa : fr (x + 23) (x + 23 + 19) h1 h2 := fun q hq => (hf2 q hq).trans (hup_n (by omega))
  have hfb : fr (x + 42) (x + 43) h2 (hup h2 (x + 42) (oJ G 1 f0)) := fun q hq => hup_n (by omega)
  have hPc := ((hP1.far hA hfa).far2 hA hfb).up (z' := x + 43) (by omega)
  have hMc := hM2.kept hfb (Or.inl (by omega))
  refine RLW.ex (M := fun _ => []) ⟨hPc, hMc, ⟨f0, hup_s⟩, ⟨hA, Nat.le_refl _⟩, ?_, ⟨rfl, fun v => Nat.zero_le _⟩, ⟨rfl, fun u => rfl⟩, fun j hj => rfl, fun j hj => by omega, ⟨fun f hf => rfl, rfl⟩, ⟨by rw [bl_0]; rfl, by omega, fun j hj => by omega⟩, ?_⟩
  · refine ⟨⟨by omega, fun r hr => (by cases hr), fun r hr => (by simp)⟩, fun r hr => ⟨rfl, by simp, fun i hi => (by simp at hi), List.nodup_nil, fun v hv => (by cases hv)⟩, ⟨by omega, rfl, fun i hi => by omega, fun i j _ hj => by omega, fun i hi => by omega⟩, ⟨by omega, rfl, fun i hi => by omega, fun i j _ hj => by omega, fun i hi => by omega⟩, fun r hr => (by cases hr), (by unfold mOk; omega), fun r hr => rfl⟩
  · refine ⟨fun r s hb => ?_, fun r s hr => by omega⟩
    have hb : (0 : Nat).testBit s = true := hb
    rw [Nat.zero_testBit] at hb
    cases hb
theorem whole_start {p : Program} {e : Env} {s : State} {m : MethodId} {below : List Frame} {meth : Method} {c : Code} (l : Launch) (hfl : l.flags = flags0) {b L : Nat} {xs : Nat → Int32} (hL : L ≤ 3072) (C0 : lw_At p s m meth c b L xs) : W p l e room_1 s m #[Value.ref b] below meth c s.heap [] 0 0 (lw_Z below #[Value.ref b] s) (entryFrame m ([Value.ref b] : List Value).toArray 7) := by
  obtain ⟨hx, hb, hr, hml, hown, hts, hX0, hbl, hlocks, hgv⟩ := id C0
  obtain ⟨G, hK⟩ := KK_start hts
  have hSS := SS_start hts hgv
  have key : ∀ X : CX, X = (p, l, e, room_1, s, m, #[Value.ref b], below, meth, c, G, (fun q => s.heap.size ≤ q), s.heap, lw_Z below #[Value.ref b] s) → okX X cL_law 7 RL 60 601024 7293034 → ∀ x : Nat, x = s.heap.size → V X 0 0 x (fun _ => none) 0 [some (.ref b), none, none, none, none, none, none] [] := by
    intro X eX hX x ex
    have fin : ∀ (it z : Nat) (h : AH), V X 601024 7293034 z h 941 [some (.ref b), some (.ref x), some (.ref (x + 23)), some (.ref (x + 42)), some (.int (nI (6 * it))), none, none] [] := fun it z h => by
      refine V_iconst (v := 1) (pc' := 942) hX dL_law_941 rfl rfl ?_
      exact V_fin eX hX hr dL_law_942
    have loop := law_loop (X := X) (b := b) (L := L) (xs := xs) (x := x) hX hL (by rw [eX]; exact hbl) (by rw [eX]) (by rw [eX]) (by rw [eX]; exact hX0) (by rw [eX]; exact hSS) (by rw [eX]; exact hfl) fin
    refine V_new (pc' := 3) (ci := 7) (ty0 := tyX7) (fs := [.null, .int 0, .null, .null, .null, .null, .null, .null, .null, .int 0, .null, .null, .long 0]) hX dL_law_0 rfl inX7 tyX7_ok wE_L_8 wB_X7 wN_X7 (fun j hj => by rcases (show j = 0 ∨ j = 1 ∨ j = 2 ∨ j = 3 ∨ j = 4 ∨ j = 5 ∨ j = 6 ∨ j = 7 ∨ j = 8 ∨ j = 9 ∨ j = 10 ∨ j = 11 ∨ j = 12 by omega) with rfl | rfl | rfl | rfl | rfl | rfl | rfl | rfl | rfl | rfl | rfl | rfl | rfl <;> rfl) (by omega) (by omega) rfl ?_
    refine V_dup (pc' := 4) hX dL_law_3 rfl rfl ?_
    refine V_callI (nA := 0) (pc' := 7) (k' := 23) (n' := 9841) (As := []) (rest := [.ref x]) hX dL_law_4 (c_PS_init (x := x) (Fr := fun _ => tF (fun _ => 0) (fun _ => 0) 0) (Wr := fun _ => wtF 1 (fun _ => 0) (fun _ => 0) 0) hup_s rfl) wM_L_15 wI_X7_init wN_X7 wC_X7_init rfl hy_X7_init rfl (Nat.le_of_ble_eq_true rfl) (by decide) (by omega) rfl rfl (by omega) rfl (by omega) rfl ?_
    rintro _ z1 h1 ⟨rfl, rfl, hf1, hP1⟩
    refine V_astore_n (lv' := [some (.ref b), some (.ref x), none, none, none, none, none]) (pc' := 8) hX dL_law_7 (Nat.le_of_ble_eq_true rfl) rfl rfl ?_
    refine V_new (pc' := 11) (ci := 8) (ty0 := tyX8) (fs := [.int 0, .int 0, .null, .null, .null, .int 0, .null, .null, .int 0, .null, .null, .int 0, .int 0, .int 0, .null, .null, .null, .int 0, .int 0, .null, .null, .null, .null, .null, .int 0, .int 0, .null, .null, .null, .int 0]) hX dL_law_8 rfl inX8 tyX8_ok wE_L_16 wB_X8 wN_X8 (fun j hj => by rcases (show j = 0 ∨ j = 1 ∨ j = 2 ∨ j = 3 ∨ j = 4 ∨ j = 5 ∨ j = 6 ∨ j = 7 ∨ j = 8 ∨ j = 9 ∨ j = 10 ∨ j = 11 ∨ j = 12 ∨ j = 13 ∨ j = 14 ∨ j = 15 ∨ j = 16 ∨ j = 17 ∨ j = 18 ∨ j = 19 ∨ j = 20 ∨ j = 21 ∨ j = 22 ∨ j = 23 ∨ j = 24 ∨ j = 25 ∨ j = 26 ∨ j = 27 ∨ j = 28 ∨ j = 29 by omega) with rfl | rfl | rfl | rfl | rfl | rfl | rfl | rfl | rfl | rfl | rfl | rfl | rfl | rfl | rfl | rfl | rfl | rfl | rfl | rfl | rfl | rfl | rfl | rfl | rfl | rfl | rfl | rfl | rfl | rfl <;> rfl) (by omega) (by omega) rfl ?_
    refine V_dup (pc' := 12) hX dL_law_11 rfl rfl ?_
    refine V_callI (nA := 0) (pc' := 15) (k' := 42) (n' := 21457) (As := []) (rest := [.ref (x + 23)]) hX dL_law_12 (c_Md_init (y := x + 23) hup_s rfl) wM_L_18 wI_X8_init wN_X8 wC_X8_init rfl hy_X8_init rfl (Nat.le_of_ble_eq_true rfl) (by decide) (by omega) rfl rfl (by omega) rfl (by omega) rfl ?_
    rintro _ z2 h2 ⟨rfl, rfl, hf2, hM2⟩
    refine V_astore_n (lv' := [some (.ref b), some (.ref x), some (.ref (x + 23)), none, none, none, none]) (pc' := 16) hX dL_law_15 (Nat.le_of_ble_eq_true rfl) rfl rfl ?_
    refine V_iconst (v := nI 1) (pc' := 17) hX dL_law_16 rfl rfl ?_
    refine V_newJN (N := 1) (pc' := 19) hX dL_law_17 (by omega) (by omega) (by omega) rfl ?_
    refine V_astore_n (lv' := [some (.ref b), some (.ref x), some (.ref (x + 23)), some (.ref (x + 42)), none, none, none]) (pc' := 20) hX dL_law_19 (Nat.le_of_ble_eq_true rfl) rfl rfl ?_
    refine V_iconst (v := nI 0) (pc' := 21) hX dL_law_20 rfl rfl ?_
    refine V_istore (lv' := [some (.ref b), some (.ref x), some (.ref (x + 23)), some (.ref (x + 42)), some (.int (nI 0)), none, none]) (pc' := 23) hX dL_law_21 (Nat.le_of_ble_eq_true rfl) rfl rfl ?_
    exact loop 513 0 (x + 43) _ (by omega) (by omega) (REL_start hP1 hf2 hM2)
  rw [lg_entry_eq]
  exact key _ rfl ⟨hx, hb, hml, hown, fun w hw => hts w (List.mem_filter.mp hw).1, hK, fun q hq => hq, ⟨Nat.le_of_ble_eq_true rfl, Nat.le_of_ble_eq_true rfl, Nat.le_refl _, Nat.le_refl _⟩, hlocks⟩ _ rfl (fun q e he => by cases he) s.heap [] _ ⟨rfl, fun q e he => by cases he⟩ va_S.rf (lvh.entry [Value.ref b] (n := 7) (Nat.le_of_ble_eq_true rfl))
