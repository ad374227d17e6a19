/-! PairSieve.pair where it throws -/
/-- the throw: a new cell at z, of the exception's class; the known cells are as they were -/
def QT (G : Gd) (z : Nat) (h : AH) : Array Value → State → Outcome → State → Prop := fun _ st oc t =>
  ∃ (ce : Cell) (L : List Loc), oc = .threw z ∧ st.WarmedH t.vm ∧ st.sameButNew ({ t with vm := st.vm } : State) L 1 6 ∧ (∀ q ∈ L, dm h z q.base) ∧ t.heap[z]? = some ce ∧ st.vm.findClass nseC = some ce.cls ∧ ce.vm = .none ∧ hv G (z + 1) h t.heap ∧ va_F (dm h z) st t
theorem va_at_ns {D : va_G} {cl : List vw_C} {q : Nat} {e : va_E} {H : Heap} (h : va_at D cl (q, e) H) {cell : Cell} (hc : H[q]? = some cell) : cell.vm.isStatics = false := by
  cases e with
  | inl a =>
    have h1 : H[q]? = some (vp_cell a.1 a.2) := h
    rw [hc] at h1
    cases h1
    obtain ⟨c, n, f⟩ := a
    rcases f with f | f | f | f | f <;> rfl
  | inr o =>
    obtain ⟨r, -, c2, h1, -, h3, -⟩ := h
    have h1 : H[q]? = some c2 := h1
    rw [hc] at h1
    cases h1
    rw [h3]; rfl
theorem V_nse {X : CX} {z : Nat} {h : AH} {lv : List (Option Value)} {d mc ms : Nat} (hX : okX X cX7_pair 3 RX7 d mc ms) (hd : 6 ≤ d) (hmc : 1 ≤ mc) (hms : 6 ≤ ms) (hA0 : X.A = dm h z) (hH : X.H = X.s.heap) (hhs : hv X.G z h X.s.heap) (hl : lv.length = 3) (htr : X.e.platform.stackTraces = false) (hS : SS X.s) (hex : X.c.exceptionTable.toList = [])
    (hQ : X.Q = fun t => ∃ o, t.status = .running ∧ Ended t X.b o ∧ QT X.G z h X.a X.s o t) : V X 0 0 z h 24 lv [] := by
  intro hA H locs ls x b c
  obtain ⟨r1, r2, r3, r4⟩ := hX.2.2.2.2.2.2.2.1
  have hts := hX.2.2.2.2.1
  obtain ⟨q, hq⟩ := hS.1
  refine W.newc (C := nseC) hX.1 hX.2.1 hX.2.2.2.1 (hts _ wE_X7_217) (hts _ wB_nse) (hts _ wN_java_util_NoSuchElementException) rfl dX7_pair_24 (by omega) (by omega) fun cC kC h1 h2 h3 h4 => ?_
  refine lv_dup hX.1 hX.2.1 dX7_pair_27 rfl ?_
  refine va_ldcS hX.1 hX.2.1 hX.2.2.2.1 hq dX7_pair_28 ?_
  intro T hT Y
  have hsz : H.size = z := x.1
  subst hsz
  have hTz : T.heap.size = H.size + 1 := by rw [hT]; simp
  have hTq : ∀ q, q < H.size → T.heap[q]? = H[q]? := fun q hq => by
    rw [hT, Array.getElem?_push, if_neg (Nat.ne_of_lt hq)]
  have hsz : X.s.heap.size = H.size := hhs.1
  obtain ⟨U, ce, st, hrun, hend, hW, hsame, hce, hcl, hvm, hz, ho⟩ := th_ctor Y hX.1 htr hX.2.2.2.1 (hS.2 X.a) (fun y hy cell hc => by
      have h5 := b.2.2 y hy
      rw [hA0] at h5
      rcases h5 with ⟨e, he⟩ | h5
      · exact va_at_ns (hhs.2 _ e he) hc
      · have h6 := (Array.getElem?_eq_some_iff.mp hc).1
        omega) h1 h2 (a := H.size) (by rw [hT, Array.getElem?_push, if_pos rfl]) (by omega) (msg := .ref q) rfl (g := F0 X.m 30 ls [.ref q, .ref H.size, .ref H.size]) rfl (by rw [hX.2.2.1, ← hl]; exact c.1) rfl rfl (rest := []) rfl (by rw [hX.2.1]; exact dX7_pair_30) (by rw [hX.2.1]; exact dX7_pair_33) (by rw [hex]; intro x hx; cases hx) (by omega) (by
        show 2 * 0 + ([Value.ref H.size].map fun v => v.category).sum + 81 ≤ _
        simp only [List.map_cons, List.map_nil, List.sum_cons, List.sum_nil, Value.category]
        omega) hX.2.2.2.2.2.2.2.2
  rw [hQ]
  refine ⟨U, st, .threw H.size, hrun, hend, ce, locs, rfl, hW, hsame, fun y hy => by rw [← hA0]; exact b.2.2 y hy, hce, by rw [hcl]; exact h1, hvm, ⟨by rw [hz, hTz], fun q e he => ?_⟩, ⟨by rw [hz, hTz]; omega, fun q h5 h6 => ?_⟩⟩
  · have h7 := (x.2 q e he).lt
    have h7 : q < H.size := h7
    exact (x.2 q e he).kept ((ho q (Nat.ne_of_lt h7)).trans (hTq q h7))
  · rw [hsz] at h5
    rw [ho q (Nat.ne_of_lt h5), hTq q h5]
    have h8 := b.2.1 q (by rw [hH]; omega) (by rw [hA0]; exact h6)
    rw [h8, hH]
theorem c_PS_pair_no {G : Gd} {h : AH} {z x : Nat} {mk : Nat} {sa : Nat → Option Nat} {L : Nat → List Nat} {F : Nat → Nat} {W : Nat → Nat} {fn : Nat → Nat} {fv : Nat → Nat} {fs : Nat} {tn : Nat → Nat} {tv : Nat → Nat} {ts : Nat} {kd : Nat} {p : Nat} {q : Nat} {bf : Nat → Nat} {len : Nat} {ta : Nat → Nat} {sp : Nat} {f1 : Nat → Nat} {f2 : Nat → Nat} {f3 : Nat → Nat} {ks : Nat} {ff : Nat → Nat} {fg : Nat} {co : Nat} (i w : Int32) (hno : ¬ (0 ≤ i.toInt ∧ i.toInt < (ks : Int) ∧ 0 ≤ w.toInt ∧ w.toInt ≤ 2)) {l : Launch} (hfl : l.flags = flags0) (hP : psAt G h z x mk sa L (fun _ => F) (fun _ => W) fn fv fs tn tv ts kd p q bf len ta sp f1 f2 f3 ks ff fg co) :
    MetFree l yX7_pair (headSpec (Cond.code yX7_pair cX7_pair 3 (some .int) :: GG) (rmd 6 1 6)) (va_Pc [.ref x, .int i, .int w] (fun U => hv G z h U.heap ∧ KK G U ∧ SS U)) (fun _ _ _ _ _ => True) (QT G z h) := by
  refine MetFree.of_bodyS (code := cX7_pair) (maxLocals := 3) (ret := some .int) (by decide) ?_ ?_
  · intro args s m h hn
    obtain ⟨meth, c, h1, h2, h3, h4, h5, h6, -, -⟩ := Cond.code_spec hn (atoms_spec (ws := Cond.code yX7_pair cX7_pair 3 (some .int) :: GG) h _ List.mem_cons_self)
    exact ⟨meth, c, h1, h2, h3, h4, h5, h6⟩
  · intro pp e s m args below meth c s₁ B hml hv _
    obtain ⟨rfl, hh, hK, hSS⟩ := hv
    have hh0 : s₁.heap = s.heap := by rw [B.state]; rfl
    have hts := atoms_spec (ws := Cond.code yX7_pair cX7_pair 3 (some .int) :: GG) B.pre
    have hown : s.vm.findClass yX7_pair.cls = some m.cls := findClass_of_methodNamed B.named
    have Y := Stand.of_body B
    have hex : c.exceptionTable.toList = [] := by
      obtain ⟨meth', c', k1, k2, -, -, -, -, k3, -⟩ := Cond.code_spec B.named (hts _ List.mem_cons_self)
      cases k1.symm.trans B.method
      cases k2.symm.trans Y.code
      exact List.isEmpty_iff.mp (by rw [← k3]; simp)
    have htr : e.platform.stackTraces = false := Launch.traces_off hfl B.admits
    have key : ∀ X : CX, X = (pp, l, e, (headSpec (Cond.code yX7_pair cX7_pair 3 (some .int) :: GG) (rmd 6 1 6)).room, s, m, [Value.ref x, .int i, .int w].toArray, below, meth, c, G, dm h z, s.heap, fun t => ∃ o, t.status = .running ∧ Ended t below o ∧ QT G z h [Value.ref x, .int i, .int w].toArray s o t) → okX X cX7_pair 3 RX7 6 1 6 → V X 0 0 z h 0 [some (.ref x), some (.int i), some (.int w)] [] := by
      intro X eX hX
      have hT : V X 0 0 z h 24 [some (.ref x), some (.int i), some (.int w)] [] := by
        subst eX
        exact V_nse hX (Nat.le_refl _) (Nat.le_refl _) (Nat.le_refl _) rfl rfl hh rfl htr hSS hex rfl
      obtain ⟨⟨hx, hsa⟩, ⟨hF, hFO⟩, ⟨hT9, hTO⟩, ⟨hm, hM⟩, ⟨⟨nf, hp⟩, hPO⟩, ⟨s0, s1, s2, ho⟩, ⟨bg, hbg⟩, hta, ⟨⟨ab, bw, hk⟩, hks⟩, ⟨hn, hnO⟩, hS, hmk, hnone, hxz, hco⟩ := id hP
      refine V_iload_n (pc' := 1) hX dX7_pair_0 rfl rfl ?_
      refine V_if_lt (pt := 24) (pc' := 4) hX dX7_pair_1 rfl rfl (fun _ => hT) (fun c1 => ?_)
      refine V_iload_n (pc' := 5) hX dX7_pair_4 rfl rfl ?_
      refine V_aload_n (pc' := 6) hX dX7_pair_5 rfl rfl ?_
      refine V_get (pc' := 9) hX dX7_pair_6 hx rfl inX7 10 (by decide) wF_X7_58 rfl rfl ?_
      refine V_getN (pc' := 12) hX dX7_pair_9 hk.1 rfl inX0 5 (by decide) wFn_X7_216 rfl rfl ?_
      refine V_icmp_ge (pt := 24) (pc' := 15) hX dX7_pair_12 rfl rfl (fun _ => hT) (fun c2 => ?_)
      refine V_iload_n (pc' := 16) hX dX7_pair_15 rfl rfl ?_
      refine V_if_lt (pt := 24) (pc' := 19) hX dX7_pair_16 rfl rfl (fun _ => hT) (fun c3 => ?_)
      refine V_iload_n (pc' := 20) hX dX7_pair_19 rfl rfl ?_
      refine V_iconst (pc' := 21) hX dX7_pair_20 rfl rfl ?_
      refine V_icmp_le (pt := 34) (pc' := 24) hX dX7_pair_21 rfl rfl (fun c4 => ?_) (fun _ => hT)
      exfalso
      apply hno
      have e1 : (nI ks).toInt = (ks : Int) := nI_toInt (by omega)
      rw [i32_lt] at c1 c3
      rw [i32_le] at c2 c4
      have e0 : (0 : Int32).toInt = 0 := rfl
      have e2 : (Int32.ofInt 2).toInt = 2 := rfl
      rw [e0] at c1 c3
      rw [e1] at c2
      rw [e2] at c4
      omega
    have hw := key _ rfl ⟨B.exec, B.bytes, hml, hown, fun w hw => hts w (List.mem_cons_of_mem _ hw), hK, fun q hq => Or.inr (by rw [← hh.1]; exact hq), ⟨Nat.le_refl _, Nat.le_refl _, Nat.le_refl _, Nat.le_refl _⟩, B.notSynchronized⟩ (fun q e he => Or.inl ⟨e, he⟩) s.heap [] _ hh va_S.rf (lvh.entry [Value.ref x, .int i, .int w] (n := 3) (Nat.le_of_ble_eq_true rfl))
    obtain ⟨t, a1, o, b1, b2, b3⟩ := hw s₁ hh0 Y
    rw [lg_entry_eq]
    exact ⟨t, o, a1, b1, b2, b3⟩
