/-! PairSieveLaw.pair: its contract, and its call -/
theorem SS.same {u U : State} (hvm : u.vm = U.vm) (hh : u.heap = U.heap) (h : SS u) : SS U := h.move (by rw [← hvm]; exact State.WarmedH.refl u) (fun q cell h1 _ => by rw [← hh]; exact h1)
abbrev PcS (G : Gd) (av : List Value) (z : Nat) (h : AH) : Array Value → State → Prop := va_Pc av (fun U => hv G z h U.heap ∧ KK G U ∧ SS U)
theorem blindS {G : Gd} {av : List Value} {z : Nat} {h : AH} : FrameBlind (PcS G av z h) := fun a U g mk q => ⟨q.1, q.2.1, KK.same (u := U) (U := U.calling g mk a) rfl q.2.2.1, SS.same (u := U) (U := U.calling g mk a) rfl rfl q.2.2.2⟩
def poP (G : Gd) (z : Nat) (h : AH) (out : Nat) (f1 f2 f3 : Nat → Nat) (ks : Nat) (i w : Int32) : Option Value → Nat → AH → Prop := fun r' z' h' =>
  (∃ j v f', i = nI j ∧ j < ks ∧ w = nI v ∧ v ≤ 2 ∧ r' = some (.int (nI 0)) ∧ z' = z ∧ h' = hup h out (oJ G 1 f') ∧ f' 0 = (nI (if v = 0 then f1 j else if v = 1 then f2 j else f3 j)).toInt64) ∨
  (¬ (0 ≤ i.toInt ∧ i.toInt < (ks : Int) ∧ 0 ≤ w.toInt ∧ w.toInt ≤ 2) ∧ r' = some (.int (nI 1)) ∧ z' = z + 1 ∧ h' = h)
theorem c_L_pair {G : Gd} {h : AH} {z x : Nat} {mk : Nat} {sa : Nat → Option Nat} {L : Nat → List Nat} {F : Nat → Nat} {W : Nat → Nat} {fn : Nat → Nat} {fv : Nat → Nat} {fs : Nat} {tn : Nat → Nat} {tv : Nat → Nat} {ts : Nat} {kd : Nat} {p : Nat} {q : Nat} {bf : Nat → Nat} {len : Nat} {ta : Nat → Nat} {sp : Nat} {f1 : Nat → Nat} {f2 : Nat → Nat} {f3 : Nat → Nat} {ks : Nat} {ff : Nat → Nat} {fg : Nat} {co : Nat} {out : Nat} {f : Nat → Int64} (i w : Int32) {l : Launch} (hfl : l.flags = flags0) (ho9 : h out = some (oJ G 1 f)) (hP : psAt G h z x mk sa L (fun _ => F) (fun _ => W) fn fv fs tn tv ts kd p q bf len ta sp f1 f2 f3 ks ff fg co) :
    Met l yL_pair (Cond.codeWith yL_pair cL_pair 5 (some .int) [(0, 10, 13, 13)] :: GG) (rmd 7 1 6) (PcS G [.ref x, .int i, .int w, .ref out] z h) (QC G z h (poP G z h out f1 f2 f3 ks i w)) 1 6 (dm h z) := by
  refine va_MetW (cc := cL_pair) (maxL := 5) (ret := some .int) (hh := [(0, 10, 13, 13)]) (by decide) rfl ?_
  intro pp e s m args below meth c s₁ B hml hv9
  obtain ⟨rfl, hh, hK, hSS⟩ := hv9
  have hts := atoms_spec (ws := (Cond.codeWith yL_pair cL_pair 5 (some .int) [(0, 10, 13, 13)] :: GG)) B.pre
  have hown : s.vm.findClass yL_pair.cls = some m.cls := findClass_of_methodNamed B.named
  have Y := Stand.of_body B
  have hex : c.exceptionTable.toList = [⟨0, 10, 13, 13⟩] := by
    obtain ⟨m9, meth', c', k0, k1, k2, -, -, k3, -⟩ := Cond.codeWith_spec (hts _ List.mem_cons_self)
    cases k0.symm.trans B.named
    cases k1.symm.trans B.method
    cases k2.symm.trans Y.code
    match hq : c.exceptionTable.toList with
    | [] => rw [hq] at k3; cases k3
    | [⟨a1, a2, a3, a4⟩] => rw [hq] at k3; cases k3; rfl
    | _ :: _ :: _ => rw [hq] at k3; simp at k3
  have hns : ∀ (q : Nat) (cell : Cell), s.heap[q]? = some cell → cell.vm.isStatics = true → ¬ dm h z q := by
    rintro q cell h1 h2 (⟨e9, he9⟩ | h3)
    · rw [va_at_ns (hh.2 q e9 he9) h1] at h2; cases h2
    · have h4 := (Array.getElem?_eq_some_iff.mp h1).1
      have h5 : s.heap.size = z := hh.1
      rw [h5] at h4
      exact absurd h3 (Nat.not_le.mpr h4)
  have key : ∀ X : CX, X = (pp, l, e, (headSpec (Cond.codeWith yL_pair cL_pair 5 (some .int) [(0, 10, 13, 13)] :: GG) (rmd 7 1 6)).room, s, m, [Value.ref x, .int i, .int w, .ref out].toArray, below, meth, c, G, dm h z, s.heap, MQ below (QC G z h (poP G z h out f1 f2 f3 ks i w)) [Value.ref x, .int i, .int w, .ref out].toArray s 1 6 (dm h z)) → okX X cL_pair 5 RL 7 1 6 → reX X (some .int) 1 6 z h (poP X.G z h out f1 f2 f3 ks i w) → V X 0 0 z h 0 [some (.ref x), some (.int i), some (.int w), some (.ref out), none] [] := by
    intro X eX hX hR
    obtain ⟨⟨hx, hsa⟩, ⟨hF, hFO⟩, ⟨hT9, hTO⟩, ⟨hm, hM⟩, ⟨⟨nf, hp⟩, hPO⟩, ⟨s0, s1, s2, ho⟩, ⟨bg, hbg⟩, hta, ⟨⟨ab, bw, hk⟩, hks⟩, ⟨hn, hnO⟩, hS, hmk, hnone, hxz, hco⟩ := id hP
    refine V_aload_n (pc' := 1) hX dL_pair_0 rfl rfl ?_
    refine V_iconst (v := nI 0) (pc' := 2) hX dL_pair_1 rfl rfl ?_
    refine V_aload_n (pc' := 3) hX dL_pair_2 rfl rfl ?_
    refine V_iload_n (pc' := 4) hX dL_pair_3 rfl rfl ?_
    refine V_iload_n (pc' := 5) hX dL_pair_4 rfl rfl ?_
    by_cases hok : 0 ≤ i.toInt ∧ i.toInt < (ks : Int) ∧ 0 ≤ w.toInt ∧ w.toInt ≤ 2
    · obtain ⟨j, ej⟩ : ∃ j : Nat, i.toInt = (j : Int) := ⟨i.toInt.toNat, by omega⟩
      obtain ⟨v, ev⟩ : ∃ v : Nat, w.toInt = (v : Int) := ⟨w.toInt.toNat, by omega⟩
      have ei : i = nI j := Int32.toInt_inj.mp (by rw [nI_toInt (by omega)]; exact ej)
      have ew : w = nI v := Int32.toInt_inj.mp (by rw [nI_toInt (by omega)]; exact ev)
      have hjk : j < ks := by omega
      have hv2 : v ≤ 2 := by omega
      have hGX : X.G = G := by rw [eX]
      subst ei ew
      refine V_callV (nA := 2) (pc' := 8) (k' := 0) (n' := 0) (As := [.int (nI j), .int (nI v)]) (rest := [.int (nI 0), .ref out]) hX dL_pair_5 (c_PS_pair_ok j v hjk hv2 (hGX ▸ hP)) hx rfl wM_L_7 wI_X7_pair wL_X7_pair wN_X7 wC_X7_pair rfl hy_X7_pair rfl (Nat.le_of_ble_eq_true rfl) (by decide) (by omega) rfl rfl (by omega) rfl (by omega) rfl ?_
      rintro _ z h1 ⟨rfl, rfl, rfl⟩
      refine V_i2l (pc' := 9) hX dL_pair_8 rfl ?_
      refine V_last (pc' := 10) hX dL_pair_9 (hGX ▸ ho9) (nI_vpin (i := 0) (N := 1) (by omega) (by omega)) rfl ?_
      refine V_goto (pc' := 17) hX dL_pair_10 rfl ?_
      refine V.widen (k' := 1) (n' := 6) (by omega) (by omega) ?_
      refine V_iconst (v := nI 0) (pc' := 18) hX dL_pair_17 rfl rfl ?_
      refine V_iret hX hR dL_pair_18 ?_
      exact Or.inl ⟨j, v, _, rfl, hjk, rfl, hv2, rfl, rfl, rfl, by first | rfl | simp [vp_updL]⟩
    · have hM9 := c_PS_pair_no i w hok hfl hP
      subst eX
      refine V_pairT (rest := [.int (nI 0), .ref out]) hX hex hM9 hSS rfl hns hx (Nat.le_refl _) (by omega) (by omega) rfl (Nat.le_of_ble_eq_true rfl) ?_
      refine V_astore (lv' := [some (.ref x), some (.int i), some (.int w), some (.ref out), some (.ref z)]) (pc' := 15) hX dL_pair_13 (by show 4 < 5; omega) rfl rfl ?_
      refine V_iconst (v := nI 1) (pc' := 16) hX dL_pair_15 rfl rfl ?_
      refine V_iret hX hR dL_pair_16 ?_
      exact Or.inr ⟨hok, rfl, rfl, rfl⟩
  rw [lg_entry_eq]
  exact key _ rfl ⟨B.exec, B.bytes, hml, hown, fun w hw => hts w (List.mem_cons_of_mem _ hw), hK, fun q hq => Or.inr (by rw [← hh.1]; exact hq), ⟨Nat.le_refl _, Nat.le_refl _, Nat.le_refl _, Nat.le_refl _⟩, B.notSynchronized⟩ ⟨B.returns, rfl, rfl, rfl⟩ (fun q e he => Or.inl ⟨e, he⟩) s.heap [] _ hh va_S.rf (lvh.entry [Value.ref x, .int i, .int w, .ref out] (n := 5) (Nat.le_of_ble_eq_true rfl))
/-- the call of PairSieveLaw.pair -/
theorem V_callP {X : CX} {cc : ByteArray} {nL d mc ms k n k' n' z pc pc' : Nat} {h : AH} {lv : List (Option Value)} {st As rest : List Value} {cp : Option Value → Nat → AH → Prop} (hX : okX X cc nL RL d mc ms) (hd : decode cc pc = .ok (.invokestatic 90, 3))
    (hM : Met X.l yL_pair (Cond.codeWith yL_pair cL_pair 5 (some .int) [(0, 10, 13, 13)] :: GG) (rmd 7 1 6) (PcS X.G As z h) (QC X.G z h cp) 1 6 (dm h z)) (hn : As.length = 4) (hSS : SS X.s) (hH : X.H = X.s.heap) (hns : ∀ (q : Nat) (cell : Cell), X.s.heap[q]? = some cell → cell.vm.isStatics = true → ¬ X.A q)
    (hs : st = As.reverse ++ rest) (hW : (rest.map fun v => v.category).sum ≤ 8) (hdd : 8 ≤ d) (hl : lv.length = nL) (hk : k + 1 = k') (hk' : k' ≤ mc) (hn1 : n + 6 = n') (hn' : n' ≤ ms) (hp : pc + 3 = pc')
    (kk : ∀ (v : Option Value) (z' : Nat) (h' : AH), cp v z' h' → V X k' n' z' h' pc' lv (v.toList ++ rest)) : V X k n z h pc lv st := by
  subst hp; subst hs; subst hk; subst hn1
  intro hA H locs ls x b c
  obtain ⟨r1, r2, r3, r4⟩ := hX.2.2.2.2.2.2.2.1
  have hts := hX.2.2.2.2.1
  refine V.back (a := As.toArray) (rest := rest) hX hA x b c ?_ kk
  intro T hT Y
  obtain ⟨mk, methM, cM, hnamed, hmethM, hcM, -, -, -, -, -, hsig⟩ := Cond.codeWith_spec (hts _ wW_L_pair)
  have hpd : (parseMethodDescriptor yL_pair.desc).map (fun d => d.parameters.length) = some 4 := by decide +kernel
  have hK : Back X.l X.R X.p X.e X.b X.s X.a yL_pair 3 8 (PreOf X.R 1 6 (PcS X.G As z h)) (PostOf (QC X.G z h cp) 1 6 (dm h z)) :=
    va_backW (hh := [(0, 10, 13, 13)]) (bytes := cL_pair) (maxL := 5) (ret := some .int) hM blindS rfl rfl (by show 7 + 1 ≤ _; omega) (by show 8 + (5 + 11) + 40 * 7 ≤ _; omega)
      (fun w hw a' U hW9 => by
        have h5 : w ∈ GG := by
          rcases List.mem_cons.mp hw with h6 | h6
          · rw [h6]; exact wW_L_pair
          · exact h6
        exact word_at hW9 (GG_good _ h5) (hts _ h5)) List.mem_cons_self (fun a' U hW9 => word_at hW9 (GG_good _ wN_L) (hts _ wN_L))
  obtain ⟨v, vm₁, ⟨U', l2, c2, s2⟩, hW₁, X', ⟨g', mk', t, L, e1, e2, hq, h1, hL, h2, h3⟩, st⟩ := Y.staticBack hX.1 hX.2.2.2.1 (hts _ wM_L_90) (hts _ wS_L_pair) (hts _ wN_L) hnamed hmethM hsig ⟨by decide, by decide⟩ hK (g := F0 X.m pc ls (As.reverse ++ rest)) rfl (by rw [hX.2.2.1, ← hl]; exact c.1) (Steps.refl _) (argsL := As) (rest := rest) (fun sig h9 => by
      rw [h9] at hpd
      rw [hn]
      exact (Option.some.inj hpd).symm) rfl (lv_room hW) (by rw [hX.2.1]; exact hd)
    (fun vm₁ hW₁ => ⟨by show k + 1 ≤ _; omega, by show n + 6 ≤ _; omega, rfl, by show hv X.G z h T.heap; rw [hT]; exact x, KK.warm (U := T.setVm vm₁) hW₁ hX.2.2.2.2.2.1, hSS.move (U := T.setVm vm₁) hW₁ (fun q cell h5 h6 => by
      show T.heap[q]? = some cell
      rw [hT, b.2.1 q (by rw [hH]; exact (Array.getElem?_eq_some_iff.mp h5).1) (hns q cell h5 h6), hH]
      exact h5)⟩)
  dsimp only [Pt.U, Pt.locs, Pt.cells, Pt.slots] at X' e1 e2 h1 h2 h3 st
  subst h1; subst h2; subst h3
  exact ⟨v, (T.setVm vm₁).calling g' mk' As.toArray, t, U', L, hT, X', hL, e1, e2, hq, fun tg h9 => st.trans h9⟩
