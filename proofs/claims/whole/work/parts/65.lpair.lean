set_option maxRecDepth 100000 in
set_option maxHeartbeats 4000000 in
theorem c_PS_pair_ok {G : Gd} {h : AH} {z x : Nat} {mk : Nat} {sa : Nat → Option Nat} {L : Nat → List Nat} {F : Nat → Nat} {W : Nat → Nat} {fn : Nat → Nat} {fv : Nat → Nat} {fs : Nat} {tn : Nat → Nat} {tv : Nat → Nat} {ts : Nat} {kd : Nat} {p : Nat} {q : Nat} {bf : Nat → Nat} {len : Nat} {ta : Nat → Nat} {sp : Nat} {f1 : Nat → Nat} {f2 : Nat → Nat} {f3 : Nat → Nat} {ks : Nat} {ff : Nat → Nat} {fg : Nat} {co : Nat} (i w : Nat) (hi : i < ks) (hw : w ≤ 2) (hP : psAt G h z x mk sa L (fun _ => F) (fun _ => W) fn fv fs tn tv ts kd p q bf len ta sp f1 f2 f3 ks ff fg co) : Ct G yX7_pair cX7_pair 3 (some .int) 1 0 0 [.ref x, .int (nI i), .int (nI w)] z h (fun r' z' h' => z' = z ∧ h' = h ∧ r' = some (.int (nI (if w = 0 then f1 i else if w = 1 then f2 i else f3 i)))) := by
  refine Ct.of (lv := [_, _, _]) (by decide) (Nat.le_of_ble_eq_true rfl) rfl ?_
  rintro X rfl hX hR hnm
  obtain ⟨⟨hx, hsa⟩, ⟨hF, hFO⟩, ⟨hT, hTO⟩, ⟨hm, hM⟩, ⟨⟨nf, hp⟩, hPO⟩, ⟨s0, s1, s2, ho⟩, ⟨bg, hbg⟩, hta, ⟨⟨ab, bw, hk⟩, hks⟩, ⟨hn, hnO⟩, hS, hmk, hnone, hxz, hco⟩ := id hP
  refine V_iload_n (pc' := 1) hX dX7_pair_0 rfl rfl ?_
  refine V_if_ltN (pt := 24) (pc' := 4) hX dX7_pair_1 (by omega) rfl rfl (fun c1 => ?_) (fun c1 => ?_)
  · omega
  · refine V_iload_n (pc' := 5) hX dX7_pair_4 rfl rfl ?_
    refine V_aload_n (pc' := 6) hX dX7_pair_5 rfl rfl ?_
    refine V_get (pc' := 9) hX dX7_pair_6 hx rfl inX7 10 (by decide) wF_X7_58 rfl rfl ?_
    refine V_getN (pc' := 12) hX dX7_pair_9 hk.1 rfl inX0 5 (by decide) wFn_X7_216 rfl rfl ?_
    refine V_icmp_geN (pt := 24) (pc' := 15) hX dX7_pair_12 (by omega) (by omega) rfl rfl (fun c12 => ?_) (fun c12 => ?_)
    · omega
    · refine V_iload_n (pc' := 16) hX dX7_pair_15 rfl rfl ?_
      refine V_if_ltN (pt := 24) (pc' := 19) hX dX7_pair_16 (by omega) rfl rfl (fun c16 => ?_) (fun c16 => ?_)
      · omega
      · refine V_iload_n (pc' := 20) hX dX7_pair_19 rfl rfl ?_
        refine V_iconst (pc' := 21) (v := nI 2) hX dX7_pair_20 (by decide) rfl ?_
        refine V_icmp_leN (pt := 34) (pc' := 24) hX dX7_pair_21 (by omega) (by omega) rfl rfl (fun c21 => ?_) (fun c21 => ?_)
        · refine V_iload_n (pc' := 35) hX dX7_pair_34 rfl rfl ?_
          refine V_iconst (pc' := 36) (v := nI 2) hX dX7_pair_35 (by decide) rfl ?_
          refine V_icmp_neN (pt := 49) (pc' := 39) hX dX7_pair_36 (by omega) (by omega) rfl rfl (fun c36 => ?_) (fun c36 => ?_)
          · refine V_iload_n (pc' := 50) hX dX7_pair_49 rfl rfl ?_
            refine V_if_neN (pt := 65) (pc' := 53) hX dX7_pair_50 (by omega) rfl rfl (fun c50 => ?_) (fun c50 => ?_)
            · refine V_aload_n (pc' := 66) hX dX7_pair_65 rfl rfl ?_
              refine V_get (pc' := 69) hX dX7_pair_66 hx rfl inX7 10 (by decide) wF_X7_58 rfl rfl ?_
              refine V_getN (pc' := 72) hX dX7_pair_69 hk.1 rfl inX0 1 (by decide) wFn_X7_229 rfl rfl ?_
              refine V_iload_n (pc' := 73) hX dX7_pair_72 rfl rfl ?_
              refine V_ialdN (pc' := 74) hX dX7_pair_73 hk.2.2.1 (by omega) (by omega) rfl rfl ?_
              refine V_iret hX hR dX7_pair_74 ?_
              have e0 : w = 1 := by omega
              exact ⟨rfl, rfl, by rw [if_neg (by omega), if_pos e0]⟩
            · refine V_aload_n (pc' := 54) hX dX7_pair_53 rfl rfl ?_
              refine V_get (pc' := 57) hX dX7_pair_54 hx rfl inX7 10 (by decide) wF_X7_58 rfl rfl ?_
              refine V_getN (pc' := 60) hX dX7_pair_57 hk.1 rfl inX0 0 (by decide) wFn_X7_226 rfl rfl ?_
              refine V_iload_n (pc' := 61) hX dX7_pair_60 rfl rfl ?_
              refine V_ialdN (pc' := 62) hX dX7_pair_61 hk.2.1 (by omega) (by omega) rfl rfl ?_
              refine V_goto (pc' := 74) hX dX7_pair_62 rfl ?_
              refine V_iret hX hR dX7_pair_74 ?_
              exact ⟨rfl, rfl, by rw [if_pos (by omega)]⟩
          · refine V_aload_n (pc' := 40) hX dX7_pair_39 rfl rfl ?_
            refine V_get (pc' := 43) hX dX7_pair_40 hx rfl inX7 10 (by decide) wF_X7_58 rfl rfl ?_
            refine V_getN (pc' := 46) hX dX7_pair_43 hk.1 rfl inX0 2 (by decide) wFn_X7_224 rfl rfl ?_
            refine V_iload_n (pc' := 47) hX dX7_pair_46 rfl rfl ?_
            refine V_ialdN (pc' := 48) hX dX7_pair_47 hk.2.2.2.1 (by omega) (by omega) rfl rfl ?_
            refine V_iret hX hR dX7_pair_48 ?_
            exact ⟨rfl, rfl, by rw [if_neg (by omega), if_neg (by omega)]⟩
        · omega
/-- PairSieve.pair is called in PairSieveLaw.pair, throws, and the exception is caught: the handler's first row -/
theorem V_pairT {X : CX} {d mc ms k n z x : Nat} {h : AH} {lv : List (Option Value)} {i w : Int32} {fs rest : List Value} (hX : okX X cL_pair 5 RL d mc ms) (hex : X.c.exceptionTable.toList = [⟨0, 10, 13, 13⟩])
    (hM : MetFree X.l yX7_pair (headSpec (Cond.code yX7_pair cX7_pair 3 (some .int) :: GG) (rmd 6 1 6)) (va_Pc [.ref x, .int i, .int w] (fun U => hv X.G z h U.heap ∧ KK X.G U ∧ SS U)) (fun _ _ _ _ _ => True) (QT X.G z h))
    (hSS : SS X.s) (hH : X.H = X.s.heap) (hns : ∀ (q : Nat) (cell : Cell), X.s.heap[q]? = some cell → cell.vm.isStatics = true → ¬ X.A q) (he : h x = some (oO 7 fs))
    (hd : 7 ≤ d) (hk : k + 1 ≤ mc) (hn : n + 6 ≤ ms) (hl : lv.length = 5) (hr : (rest.map fun v => v.category).sum ≤ 8)
    (kk : V X (k + 1) (n + 6) (z + 1) h 13 lv [.ref z]) : V X k n z h 5 lv (.int w :: .int i :: .ref x :: rest) := by
  intro hA H locs ls hx b c T hT Y
  obtain ⟨r1, r2, r3, r4⟩ := hX.2.2.2.2.2.2.2.1
  have hts := hX.2.2.2.2.1
  have hpl : X.e.platform.magicAccessors = ({} : Platform).magicAccessors := by rw [Y.admits.platform]
  have hz : H.size = z := hx.1
  subst hz
  have hdA : ∀ q, dm h H.size q → X.A q := by
    rintro q (⟨e, he⟩ | hq)
    · exact hA q e he
    · exact hX.2.2.2.2.2.2.1 q (by have := b.1; omega)
  obtain ⟨mk, methM, hnamed, hmethM, hstM, habM⟩ := Cond.instanceMethod_spec (hts _ wI_X7_pair)
  obtain ⟨methM', cM, hmethM', hcM, -, hlM, -, -, -, hsigM⟩ := Cond.code_spec hnamed (hts _ wC_X7_pair)
  cases hmethM.symm.trans hmethM'
  obtain ⟨q', h1, cell, g1, g2, g3, -⟩ := hx.2 x _ he
  have hrq : q' = (RX7, TX7, 13) := Option.some.inj (h1.symm.trans rfl)
  subst hrq
  have hcls : X.s.vm.findClass RX7 = some cell.cls := by rw [g2]; exact (hX.2.2.2.2.2.1.1.1 7 _ rfl).2.1
  obtain ⟨c2, r2', m2, q1, q2, q3, q4, kP, hkP, hkPi⟩ := Cond.selects_spec (hts _ wL_X7_pair)
  cases hcls.symm.trans q1
  cases (State.methodFound?_of_named hnamed ⟨hy_X7_pair.2.1, hy_X7_pair.2.2.1⟩).symm.trans q2
  cases hnamed.symm.trans q3
  have hselP : selectMethod X.e.platform X.s.vm cell.cls mk = .method mk := by rw [Launch.admits_selectMethod Y.admits]; exact q4
  obtain ⟨vm₁, X₁, hstep₁⟩ := Y.invokevirtual hX.1 hX.2.2.2.1 (hts _ wM_L_7) hnamed hmethM hstM hkP hkPi ⟨hy_X7_pair.2.1, hy_X7_pair.2.2.1⟩ (a := x) (cell := cell) (by rw [hT]; exact g1)
    (fun z9 h9 => by rw [g3] at h9; cases h9) hselP hmethM habM hkP hkPi (g := F0 X.m 5 ls (.int w :: .int i :: .ref x :: rest)) rfl (argsL := [.int i, .int w]) (rest := rest) (by
      have h9 := hy_X7_pair.2.2.2
      rw [hsigM] at h9
      exact (Option.some.inj h9).symm) rfl (by rw [hX.2.1]; exact dL_pair_5)
  obtain ⟨g, eg⟩ : ∃ g : JFrame, g = F0 X.m 5 ls rest := ⟨_, rfl⟩
  obtain ⟨U, eU⟩ : ∃ U : State, U = T.setVm vm₁ := ⟨_, rfl⟩
  have hUh : U.heap = H := by rw [eU]; exact hT
  rw [← eU] at X₁
  have hgm : g.method = X.m := by rw [eg]
  have hUn : U.methodNamed? yX7_pair = some mk := X₁.named hnamed
  have hdg : decode X.c.code g.pc = .ok (.invokevirtual 7, 3) := by rw [hX.2.1, eg]; exact dL_pair_5
  have hAt : At U g.method X.c X.b := by rw [hgm]; exact X₁.here
  have hmU : U.vm.method? mk = some methM := by rw [X₁.warmed.alike.method?]; exact hmethM
  obtain ⟨kY, hkY, -⟩ := className_of_methodNamed hUn
  have hwd : ∀ a w, w ∈ Cond.code yX7_pair cX7_pair 3 (some .int) :: GG → w.before a U = true := fun a w hw => by
    have h5 : w ∈ GG := by
      rcases List.mem_cons.mp hw with h6 | h6
      · rw [h6]; exact wC_X7_pair
      · exact h6
    exact word_at X₁.warmed (GG_good _ h5) (hts _ h5)
  have hinitY : kY.init = .initialized := Cond.initialized_spec (findClass_of_methodNamed hUn) hkY (hwd #[] _ (List.mem_cons_of_mem _ wN_X7))
  have hgs : g.stack = rest := by rw [eg]
  have happ : (headSpec (Cond.code yX7_pair cX7_pair 3 (some .int) :: GG) (rmd 6 1 6)).appliesLoose yX7_pair X.e.platform (U.calling g mk [Value.ref x, .int i, .int w].toArray) = true :=
    Spec.appliesLoose_calling (g := g) hAt hdg hUn hkY hinitY
      (X₁.room_calling (g := g) (R' := rmd 6 1 6) (by rw [eg, hX.2.2.1, ← hl]; exact c.1) hmU hcM (by show 6 + 1 ≤ _; omega) (by
        rw [hlM, hgs, eg]
        show 2 * 0 + _ + (3 + 11) + 40 * 6 ≤ _
        omega) (by show k + 1 ≤ _; omega) (by show n + 6 ≤ _; omega)) (atoms_intro fun w hw => hwd _ w hw)
  obtain ⟨mid, hmid⟩ := hAt.above
  have hfr : (U.setTop g).frames = (.java g :: mid) ++ X.b := by rw [State.frames_setTop' g hAt.top, hmid]; rfl
  have hSU : SS (U.calling g mk [Value.ref x, .int i, .int w].toArray) := hSS.move (U := U.calling g mk [Value.ref x, .int i, .int w].toArray) X₁.warmed (fun q cell h5 h6 => by
    show U.heap[q]? = some cell
    rw [hUh, b.2.1 q (by rw [hH]; exact (Array.getElem?_eq_some_iff.mp h5).1) (hns q cell h5 h6), hH]
    exact h5)
  obtain ⟨o, s₂, hsteps, -, hend, hq⟩ := Steps.callFree hM X.p X₁.admits X₁.cas X₁.clock (acts := []) hfr happ ⟨rfl, by show hv X.G H.size h U.heap; rw [hUh]; exact hx, KK.warm (U := U.calling g mk [Value.ref x, .int i, .int w].toArray) X₁.warmed hX.2.2.2.2.2.1, hSU⟩ trivial
  have hq' : QT X.G H.size h [Value.ref x, .int i, .int w].toArray (U.calling g mk [Value.ref x, .int i, .int w].toArray) o s₂ := hq
  clear hq
  obtain ⟨ce, L, rfl, hW₂, hsame, hL, hce, hfc, hvm, hvn, hF⟩ := hq'
  rw [State.frames_setTop' g hAt.top] at hend
  obtain ⟨e2, p2, p3, p4, p5, p6⟩ := id hsame
  have e3 : s₂ = ({ (U.calling g mk [Value.ref x, .int i, .int w].toArray).setFrames s₂.frames with heap := s₂.heap, slotsUsed := s₂.slotsUsed } : State).setVm s₂.vm := by
    have : s₂ = ({ s₂ with vm := (U.calling g mk [Value.ref x, .int i, .int w].toArray).vm } : State).setVm s₂.vm := rfl
    rw [e2] at this
    exact this
  have hf₂ : s₂.frames = .throwing H.size :: .java g :: U.frames.tail := hend
  have hW' : U.WarmedH s₂.vm := hW₂
  obtain ⟨g₀, hg0⟩ := Option.isSome_iff_exists.mp hAt.top
  obtain ⟨r, hr0⟩ := State.topJava?_eq_some.mp hg0
  obtain ⟨U2, eU2⟩ : ∃ U2 : State, U2 = (({ U with heap := s₂.heap, slotsUsed := s₂.slotsUsed } : State).setVm s₂.vm) := ⟨_, rfl⟩
  have hs₂ : s₂ = (U2.setTop g).pushFrame (.throwing H.size) := by
    have hr' : U2.frames = .java g₀ :: r := by rw [eU2]; exact hr0
    have hcur : U.cur < U.threads.size := State.cur_lt_of_frames hr0
    have hf3 : (U2.setTop g).frames = .java g :: r := by rw [State.frames_setTop' g (by rw [eU2]; exact hAt.top), hr']; rfl
    refine e3.trans ?_
    rw [hf₂, State.calling_eq hAt.top, State.setFrames_setFrames, State.pushFrame, hf3, State.setTop_of_frames _ hr', State.setFrames_setFrames, hr0, eU2]
    rfl
  have hsameU : U.sameButNew ({ U with heap := s₂.heap, slotsUsed := s₂.slotsUsed } : State) L 1 6 := by
    refine ⟨?_, p2, p3, p4, p5, p6⟩
    obtain ⟨t, ht, -⟩ := State.frames_cons hr0
    show ({ U with heap := s₂.heap, slotsUsed := s₂.slotsUsed } : State) = { U.setFrames U.frames with heap := s₂.heap, slotsUsed := s₂.slotsUsed }
    rw [State.setFrames_self ht]
  have X₂ : Stand X.p X.l X.e X.R X.s X.m X.a X.b X.mt X.c U2 (locs ++ L) (k + 1) (n + 6) := by
    rw [eU2]
    exact ⟨X₁.admits, X₁.cas, X₁.clock, X₁.frames, X₁.room, X₁.hears, X₁.method, X₁.code, (X₁.here.setHeapUsed s₂.heap s₂.slotsUsed).setVm hW'.alike, X₁.tail, State.WarmedH.trans X₁.warmed hW', X₁.limits, X₁.bytes, X₁.same.trans (hsameU.setVm X.s.vm)⟩
  have hU2h : U2.heap = s₂.heap := by rw [eU2]; rfl
  have hU2v : U2.vm = s₂.vm := by rw [eU2]; rfl
  obtain ⟨cT, hcT, hcl⟩ := Cond.classLink_spec hX.2.2.2.1 (hts _ wE_L_13) X.e.platform hpl
  have hcT' : X.s.vm.findClass nseC = some cT := hcT
  have hceT : ce.cls = cT := by
    have h5 : U.vm.findClass nseC = some ce.cls := hfc
    rw [X₁.warmed.alike.findClass, hcT'] at h5
    exact (Option.some.inj h5).symm
  obtain ⟨kT, hkT, -⟩ := Vm.findClass_spec hcT'
  obtain ⟨kT2, hkT2, -⟩ := X₂.warmed.alike.2.2 _ _ hkT
  have hres : ∃ kd, X.s.vm.classes[X.m.cls]? = some kd ∧ (kd.openAt 13 ∨ kd.resolved[13]? = some (some (.cls cT))) := by
    obtain ⟨dk, cf, name, ck, hd9, hcf, hlo, hname, hfind, hc9, hacc, hres⟩ := hcl.here
    exact ⟨dk, hd9, hres⟩
  obtain ⟨kd, hkd, hkr⟩ := hres
  have hWn : X.s.WarmedH (U2.vm.noted X.m.cls 13 (.cls cT)) := X₂.warmed.noted hkd hkr (State.rightAt_cls hcl)
  have hm2 : U2.vm.method? X.m = some X.mt := by rw [X₂.warmed.alike.method?]; exact X₂.method
  have hfind := th_find (e := X.e) (s := (U2.setTop g).pushFrame (.throwing H.size)) (f := g) (a := H.size) (meth := X.mt) (c := X.c) (x := ⟨0, 10, 13, 13⟩) (cT := cT) (cell := ce)
    (by rw [hgm]; exact hm2) X₂.code hex (by rw [eg]; rfl) (by decide) (by rw [hgm]; exact X₂.warmed.classLinks hcl) (by show U2.heap[H.size]? = _; rw [hU2h]; exact hce) (fun k9 h9 => by rw [hvm] at h9; cases h9) ⟨kT2, by rw [hceT]; exact hkT2⟩ ⟨kT2, hkT2⟩ (by rw [hceT]; exact va_asg _ _)
  have hrun := kk (fun q e he9 => hA q e he9) s₂.heap (locs ++ L) ls hvn ⟨Nat.le_trans b.1 (by have := hF.1; have h9 : U.heap.size ≤ s₂.heap.size := this; rw [hUh] at h9; exact h9), fun q h5 h6 => by
      have h7 := hF.2 q (by show q < U.heap.size; rw [hUh]; exact Nat.lt_of_lt_of_le h5 b.1) (fun w9 => h6 (hdA q w9))
      have h7 : s₂.heap[q]? = U.heap[q]? := h7
      rw [h7, hUh]
      exact b.2.1 q h5 h6, fun q hq => by
      rcases List.mem_append.mp hq with h5 | h5
      · exact b.2.2 q h5
      · exact hdA _ (hL q h5)⟩ c (U2.setVm (U2.vm.noted X.m.cls 13 (.cls cT))) (by show U2.heap = _; exact hU2h) (X₂.noted hWn)
  obtain ⟨t, a1, b1⟩ := hrun
  refine ⟨t, hstep₁ _ fun acts => ?_, b1⟩
  have hAt2 : At U2 g.method X.c X.b := by rw [hgm]; exact X₂.here
  have hcaught := th_caught (tb := X.p.tables) (e := X.e) (s := U2) (target := t) (g := g) (c := X.c) (below := X.b) (a := H.size) hAt2 (pc := 13) (vm' := U2.vm.noted X.m.cls 13 (.cls cT)) (by rw [hgm] at hfind; exact hfind) (by
    rw [eg]; exact a1)
  rw [← hs₂] at hcaught
  have h9 := hsteps.trans hcaught
  rw [doInvoke_state]
  rw [eg, eU] at h9
  exact h9
