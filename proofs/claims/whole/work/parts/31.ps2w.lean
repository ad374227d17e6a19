set_option maxRecDepth 100000 in
set_option maxHeartbeats 4000000 in
theorem c_PS_record {G : Gd} {h : AH} {z x : Nat} {mk : Nat} {sa : Nat → Option Nat} {L : Nat → List Nat} {Fr : Nat → Nat → Nat} {Wr : Nat → Nat → Nat} {fn : Nat → Nat} {fv : Nat → Nat} {fs : Nat} {tn : Nat → Nat} {tv : Nat → Nat} {ts : Nat} {kd : Nat} {p : Nat} {q : Nat} {bf : Nat → Nat} {len : Nat} {ta : Nat → Nat} {sp : Nat} {f1 : Nat → Nat} {f2 : Nat → Nat} {f3 : Nat → Nat} {ks : Nat} {ff : Nat → Nat} {fg : Nat} {co : Nat} (hP : psAt G h z x mk sa L Fr Wr fn fv fs tn tv ts kd p q bf len ta sp f1 f2 f3 ks ff fg co) : Ct G yX7_record cX7_record 1 (some .int) 2 3 64 [.ref x] z h (fun r' z' h' => frO x z sa h h' ∧ ((mk = 60 ∧ r' = some (.int (-1)) ∧ z' = z ∧ h' = h) ∨ (mk < 60 ∧ r' = some (.int (nI mk)) ∧ z' = z + 3 ∧ psAt G h' (z + 3) x (mk + 1) (va_up sa mk (some z)) (va_up L mk []) Fr Wr fn fv fs tn tv ts kd p q bf len ta sp f1 f2 f3 ks ff fg co))) := by
  refine Ct.of (lv := [_]) (by decide) (Nat.le_of_ble_eq_true rfl) rfl ?_
  rintro X rfl hX hR hnm
  obtain ⟨⟨hx, hsa⟩, ⟨hF, hFO⟩, ⟨hT, hTO⟩, ⟨hm, hM⟩, ⟨⟨nf, hp⟩, hPO⟩, ⟨s0, s1, s2, ho⟩, ⟨bg, hbg⟩, hta, ⟨⟨ab, bw, hk⟩, hks⟩, ⟨hn, hnO⟩, hS, hmk, hnone, hxz, hco⟩ := id hP
  refine V_aload_n (pc' := 1) hX dX7_record_0 rfl rfl ?_
  refine V_get (pc' := 4) hX dX7_record_1 hx rfl inX7 1 (by decide) wF_X7_69 rfl rfl ?_
  refine V_bipush (pc' := 6) (v := nI 60) hX dX7_record_4 (by decide) rfl ?_
  refine V_icmp_ltN (pt := 11) (pc' := 9) hX dX7_record_6 (by omega) (by omega) rfl rfl (fun c6 => ?_) (fun c6 => ?_)
  · refine V_aload_n (pc' := 12) hX dX7_record_11 rfl rfl ?_
    refine V_get (pc' := 15) hX dX7_record_12 hx rfl inX7 0 (by decide) wF_X7_11 rfl rfl ?_
    refine V_aload_n (pc' := 16) hX dX7_record_15 rfl rfl ?_
    refine V_get (pc' := 19) hX dX7_record_16 hx rfl inX7 1 (by decide) wF_X7_69 rfl rfl ?_
    refine V_new (pc' := 22) (ci := 3) (ty0 := tyX3) (fs := [.null, .null, .int 0, .int 0]) hX dX7_record_19 rfl inX3 tyX3_ok wE_X7_9 wB_X3 wN_X3 (fun j hj => by rcases (show j = 0 ∨ j = 1 ∨ j = 2 ∨ j = 3 by omega) with rfl | rfl | rfl | rfl <;> rfl) (by omega) (by omega) rfl ?_
    refine V_dup (pc' := 23) hX dX7_record_22 rfl rfl ?_
    refine V_callIN (nA := 0) (pc' := 26) (k' := 3) (n' := 64) hX dX7_record_23 (c_NS_init (q := z) hup_s rfl) wMn_X7_73 wI_X3_init wN_X3 wC_X3_init rfl hy_X3_init rfl (Nat.le_of_ble_eq_true rfl) (by decide) (by omega) rfl rfl (by omega) rfl (by omega) rfl ?_
    rintro _ _ h' ⟨rfl, rfl, q1, q2⟩
    have hf9 : fr z (z + 3) h h' := fun q9 hq9 => (q2 q9 hq9).trans (hup_n (by omega))
    have hP := hP.grow hf9 (show z ≤ z + 3 by omega)
    have hdis : ∀ r q9, sa r = some q9 → q9 + 3 ≤ z := fun r q9 e => (hS.1 r q9 e).2.2
    have hxz0 := hxz
    obtain ⟨⟨hx, hsa⟩, ⟨hF, hFO⟩, ⟨hT, hTO⟩, ⟨hm, hM⟩, ⟨⟨nf, hp⟩, hPO⟩, ⟨s0, s1, s2, ho⟩, ⟨bg, hbg⟩, hta, ⟨⟨ab, bw, hk⟩, hks⟩, ⟨hn, hnO⟩, hS, hmk, hnone, hxz, hco⟩ := id hP
    refine V.stk (st' := [_, _, _]) rfl ?_
    refine V_aast (pc' := 27) hX dX7_record_26 hsa q1.1 (nI_vpin (by omega) (by omega)) rfl ?_
    rw [nI_clamp (show mk < 2 ^ 31 by omega)]
    refine V_aload_n (pc' := 28) hX dX7_record_27 rfl rfl ?_
    refine V_dup (pc' := 29) hX dX7_record_28 rfl rfl ?_
    refine V_get (pc' := 32) hX dX7_record_29 ((hup_n (by omega)).trans hx) rfl inX7 1 (by decide) wF_X7_69 rfl rfl ?_
    refine V_iconst (pc' := 33) (v := nI 1) hX dX7_record_32 (by decide) rfl ?_
    refine V_iaddN (pc' := 34) hX dX7_record_33 rfl ?_
    refine V_put (pc' := 37) (fs' := [_, _, _, _, _, _, _, _, _, _, _, _, _]) (ty0 := tyX7) hX dX7_record_34 ((hup_n (by omega)).trans hx) rfl inX7 tyX7_ok nmX7 1 (by decide) wF_X7_69 rfl (tyX7_ok 1 (by decide)) rfl rfl (Nat.le_of_ble_eq_true rfl) rfl rfl ?_
    refine V_aload_n (pc' := 38) hX dX7_record_37 rfl rfl ?_
    refine V_get (pc' := 41) hX dX7_record_38 hup_s rfl inX7 1 (by decide) wF_X7_69 rfl rfl ?_
    refine V_iconst (pc' := 42) (v := nI 1) hX dX7_record_41 (by decide) rfl ?_
    refine V_isubN (pc' := 43) hX dX7_record_42 (by omega) rfl ?_
    refine V.widen (k' := 3) (n' := 64) (by omega) (by omega) ?_
    refine V_iret hX hR dX7_record_43 ?_
    rw [Nat.add_sub_cancel]
    exact ⟨frO.of2 (fr.up (fr.up fr.rf (by omega) (by omega)) (by omega) (by omega)) (fun q9 a => hf9 q9 (Or.inl a)), Or.inr ⟨by omega, rfl, rfl, hP.uR hup_s ((hup_n (by omega)).trans hup_s) (nsR.nil q1) ⟨hxz0, by omega⟩ hdis (by omega) (fr.up (fr.up fr.rf (by omega) (by omega)) (by omega) (by omega))⟩⟩
  · refine V_iconst (pc' := 10) (v := (-1)) hX dX7_record_9 (by decide) rfl ?_
    refine V.widen (k' := 3) (n' := 64) (by omega) (by omega) ?_
    refine V_iret hX hR dX7_record_10 ?_
    exact ⟨frO.rf, Or.inl ⟨by omega, rfl, rfl, rfl⟩⟩
set_option maxRecDepth 100000 in
set_option maxHeartbeats 4000000 in
theorem c_PS_drop {G : Gd} {h : AH} {z x : Nat} {mk : Nat} {sa : Nat → Option Nat} {L : Nat → List Nat} {Fr : Nat → Nat → Nat} {Wr : Nat → Nat → Nat} {fn : Nat → Nat} {fv : Nat → Nat} {fs : Nat} {tn : Nat → Nat} {tv : Nat → Nat} {ts : Nat} {kd : Nat} {p : Nat} {q : Nat} {bf : Nat → Nat} {len : Nat} {ta : Nat → Nat} {sp : Nat} {f1 : Nat → Nat} {f2 : Nat → Nat} {f3 : Nat → Nat} {ks : Nat} {ff : Nat → Nat} {fg : Nat} {co : Nat} (r : Int32) (hP : psAt G h z x mk sa L Fr Wr fn fv fs tn tv ts kd p q bf len ta sp f1 f2 f3 ks ff fg co) : Ct G yX7_drop cX7_drop 2 (some .boolean) 1 0 0 [.ref x, .int r] z h (fun r' z' h' => z' = z ∧ frO x z sa h h' ∧ ((sOf sa r = none ∧ r' = some (.int (bI false)) ∧ h' = h) ∨ ∃ k, k < mk ∧ r = nI k ∧ (sa k).isSome = true ∧ r' = some (.int (bI true)) ∧ psAt G h' z x mk (va_up sa k none) L Fr Wr fn fv fs tn tv ts kd p q bf len ta sp f1 f2 f3 ks ff (fg ||| 2 ^ k) co)) := by
  refine Ct.of (lv := [_, _]) (by decide) (Nat.le_of_ble_eq_true rfl) rfl ?_
  rintro X rfl hX hR hnm
  obtain ⟨⟨hx, hsa⟩, ⟨hF, hFO⟩, ⟨hT, hTO⟩, ⟨hm, hM⟩, ⟨⟨nf, hp⟩, hPO⟩, ⟨s0, s1, s2, ho⟩, ⟨bg, hbg⟩, hta, ⟨⟨ab, bw, hk⟩, hks⟩, ⟨hn, hnO⟩, hS, hmk, hnone, hxz, hco⟩ := id hP
  refine V_aload_n (pc' := 1) hX dX7_drop_0 rfl rfl ?_
  refine V_iload_n (pc' := 2) hX dX7_drop_1 rfl rfl ?_
  refine V_callV (nA := 1) (pc' := 5) (k' := 0) (n' := 0) hX dX7_drop_2 (c_PS_setOf r hP) hx rfl wM_X7_74 wI_X7_setOf wL_X7_setOf wN_X7 wC_X7_setOf rfl hy_X7_setOf rfl (Nat.le_of_ble_eq_true rfl) (by decide) (by omega) rfl rfl (by omega) rfl (by omega) rfl ?_
  rintro _ z h ⟨rfl, rfl, rfl⟩
  rcases hs : sOf sa r with _ | q0
  · refine V.stk (st' := [_]) rfl ?_
    refine V_ifnonnullN (pc' := 8) hX dX7_drop_5 rfl ?_
    refine V_iconst (pc' := 9) (v := nI 0) hX dX7_drop_8 (by decide) rfl ?_
    refine V_zret hX hR dX7_drop_9 (by rfl) ?_
    exact ⟨rfl, frO.rf, Or.inl ⟨hs, rfl, rfl⟩⟩
  · obtain ⟨k, hk31, rfl, hsk⟩ := sOf_some hs
    have hk9 : k < mk := Nat.lt_of_not_le (fun e => by rw [hnone k e] at hsk; cases hsk)
    obtain ⟨hsN, hq1, hq2⟩ := hS.1 k q0 hsk
    obtain ⟨hv9, kf, wf, am, hns, hnsO, hkw, hw1⟩ := id hsN
    refine V.stk (st' := [_]) rfl ?_
    refine V_ifnonnull (pc' := 10) hX dX7_drop_5 rfl ?_
    refine V_aload_n (pc' := 11) hX dX7_drop_10 rfl rfl ?_
    refine V_get (pc' := 14) hX dX7_drop_11 hx rfl inX7 0 (by decide) wF_X7_11 rfl rfl ?_
    refine V_iload_n (pc' := 15) hX dX7_drop_14 rfl rfl ?_
    refine V_null (pc' := 16) hX dX7_drop_15 rfl ?_
    refine V_aastN (pc' := 17) hX dX7_drop_16 hsa (nI_vpin (by omega) (by omega)) rfl ?_
    refine V.gen (fun h1 eh1 => ?_)
    rw [nI_clamp (by omega)] at eh1
    have hf1 := fr.of_up eh1
    have hP1 := hP.uA ((hf1 _ (by omega)).trans hx) (up_at eh1) hmk (fun r hr => by unfold va_up; split; rfl; exact hnone r hr) hco (fun r q9 e => by unfold va_up at e; split at e; cases e; exact e) (hf1.mono (by omega) (by omega))
    obtain ⟨⟨hx, hsa⟩, ⟨hF, hFO⟩, ⟨hT, hTO⟩, ⟨hm, hM⟩, ⟨⟨nf, hp⟩, hPO⟩, ⟨s0, s1, s2, ho⟩, ⟨bg, hbg⟩, hta, ⟨⟨ab, bw, hk⟩, hks⟩, ⟨hn, hnO⟩, hS, hmk, hnone, hxz, hco⟩ := id hP1
    refine V_aload_n (pc' := 18) hX dX7_drop_17 rfl rfl ?_
    refine V_get (pc' := 21) hX dX7_drop_18 hx rfl inX7 11 (by decide) wF_X7_65 rfl rfl ?_
    refine V_iload_n (pc' := 22) hX dX7_drop_21 rfl rfl ?_
    refine V_callV (nA := 1) (pc' := 25) (k' := 0) (n' := 0) hX dX7_drop_22 (c_Nt_forget k (by omega) hn hnO) hn.1 rfl wM_X7_78 wI_X2_forget wL_X2_forget wN_X2 wC_X2_forget rfl hy_X2_forget rfl (Nat.le_of_ble_eq_true rfl) (by decide) (by omega) rfl rfl (by omega) rfl (by omega) rfl ?_
    rintro _ z h' ⟨rfl, rfl, q1, q2⟩
    refine V.stk (st' := []) rfl ?_
    refine V_iconst (pc' := 26) (v := nI 1) hX dX7_drop_25 (by decide) rfl ?_
    refine V_zret hX hR dX7_drop_26 (by rfl) ?_
    exact ⟨rfl, (frO.of hf1 (by omega) (by omega)).tr (frO.of q2 (by omega) (by omega)), Or.inr ⟨k, hk9, rfl, by rw [hsk]; rfl, rfl, hP1.uN q1 ⟨hnO.1, Nat.or_lt_two_pow hnO.2 (pow_lt60 (by omega))⟩ q2⟩⟩
set_option maxRecDepth 100000 in
set_option maxHeartbeats 4000000 in
theorem c_PS_at {G : Gd} {h : AH} {z x : Nat} {mk : Nat} {sa : Nat → Option Nat} {L : Nat → List Nat} {Fr : Nat → Nat → Nat} {Wr : Nat → Nat → Nat} {fn : Nat → Nat} {fv : Nat → Nat} {fs : Nat} {tn : Nat → Nat} {tv : Nat → Nat} {ts : Nat} {kd : Nat} {p : Nat} {q : Nat} {bf : Nat → Nat} {len : Nat} {ta : Nat → Nat} {sp : Nat} {f1 : Nat → Nat} {f2 : Nat → Nat} {f3 : Nat → Nat} {ks : Nat} {ff : Nat → Nat} {fg : Nat} {co : Nat} (r i : Int32) (hP : psAt G h z x mk sa L Fr Wr fn fv fs tn tv ts kd p q bf len ta sp f1 f2 f3 ks ff fg co) : Ct G yX7_at cX7_at 4 (some .int) 1 0 0 [.ref x, .int r, .int i] z h (fun r' z' h' => ∃ y, r' = some (.int y) ∧ z' = z ∧ h' = h ∧ ((sOf sa r = none ∧ y = -1) ∨ ∃ k, k < mk ∧ r = nI k ∧ (sa k).isSome = true ∧ ((∃ j, j < (L k).length ∧ i = nI j ∧ y = nI ((L k).getD j 0)) ∨ ((i.toInt < 0 ∨ ((L k).length : Int) ≤ i.toInt) ∧ y = -1)))) := by
  refine Ct.of (lv := [_, _, _, _]) (by decide) (Nat.le_of_ble_eq_true rfl) rfl ?_
  rintro X rfl hX hR hnm
  obtain ⟨⟨hx, hsa⟩, ⟨hF, hFO⟩, ⟨hT, hTO⟩, ⟨hm, hM⟩, ⟨⟨nf, hp⟩, hPO⟩, ⟨s0, s1, s2, ho⟩, ⟨bg, hbg⟩, hta, ⟨⟨ab, bw, hk⟩, hks⟩, ⟨hn, hnO⟩, hS, hmk, hnone, hxz, hco⟩ := id hP
  refine V_aload_n (pc' := 1) hX dX7_at_0 rfl rfl ?_
  refine V_iload_n (pc' := 2) hX dX7_at_1 rfl rfl ?_
  refine V_callV (nA := 1) (pc' := 5) (k' := 0) (n' := 0) hX dX7_at_2 (c_PS_setOf r hP) hx rfl wM_X7_74 wI_X7_setOf wL_X7_setOf wN_X7 wC_X7_setOf rfl hy_X7_setOf rfl (Nat.le_of_ble_eq_true rfl) (by decide) (by omega) rfl rfl (by omega) rfl (by omega) rfl ?_
  rintro _ z h ⟨rfl, rfl, rfl⟩
  rcases hs : sOf sa r with _ | q0
  · refine V.stk (st' := [_]) rfl ?_
    refine V_astore_nN (pc' := 6) (lv' := [_, _, _, _]) hX dX7_at_5 (Nat.le_of_ble_eq_true rfl) rfl rfl ?_
    refine V_aload_nN (pc' := 7) hX dX7_at_6 rfl rfl ?_
    refine V_ifnonnullN (pc' := 10) hX dX7_at_7 rfl ?_
    refine V_iconst (pc' := 11) (v := (-1)) hX dX7_at_10 (by decide) rfl ?_
    refine V_goto (pc' := 19) hX dX7_at_11 rfl ?_
    refine V_iret hX hR dX7_at_19 ?_
    exact ⟨_, rfl, rfl, rfl, Or.inl ⟨hs, rfl⟩⟩
  · obtain ⟨k, hk31, rfl, hsk⟩ := sOf_some hs
    have hk9 : k < mk := Nat.lt_of_not_le (fun e => by rw [hnone k e] at hsk; cases hsk)
    obtain ⟨hsN, hq1, hq2⟩ := hS.1 k q0 hsk
    obtain ⟨hv9, kf, wf, am, hns, hnsO, hkw, hw1⟩ := id hsN
    refine V.stk (st' := [_]) rfl ?_
    refine V_astore_n (pc' := 6) (lv' := [_, _, _, _]) hX dX7_at_5 (Nat.le_of_ble_eq_true rfl) rfl rfl ?_
    refine V_aload_n (pc' := 7) hX dX7_at_6 rfl rfl ?_
    refine V_ifnonnull (pc' := 14) hX dX7_at_7 rfl ?_
    refine V_aload_n (pc' := 15) hX dX7_at_14 rfl rfl ?_
    refine V_iload_n (pc' := 16) hX dX7_at_15 rfl rfl ?_
    refine V_callV (nA := 1) (pc' := 19) (k' := 0) (n' := 0) hX dX7_at_16 (c_NS_numberAt i hns hnsO) hns.1 rfl wM_X7_135 wI_X3_numberAt wL_X3_numberAt wN_X3 wC_X3_numberAt rfl hy_X3_numberAt rfl (Nat.le_of_ble_eq_true rfl) (by decide) (by omega) rfl rfl (by omega) rfl (by omega) rfl ?_
    rintro _ z h ⟨y, rfl, rfl, rfl, hy⟩
    refine V.stk (st' := [_]) rfl ?_
    refine V_iret hX hR dX7_at_19 ?_
    refine ⟨y, rfl, rfl, rfl, Or.inr ⟨k, hk9, rfl, by rw [hsk]; rfl, ?_⟩⟩
    rcases hy with ⟨j, j1, j2, j3⟩ | hy
    · refine Or.inl ⟨j, j1, j2, ?_⟩
      rw [j3, (hkw j j1).1, kyF_mod]
      apply hv9
      rw [List.getD_eq_getElem?_getD, List.getElem?_eq_getElem j1]
      exact List.getElem_mem j1
    · exact Or.inr hy
set_option maxRecDepth 100000 in
set_option maxHeartbeats 4000000 in
theorem c_PS_member {G : Gd} {h : AH} {z x : Nat} {mk : Nat} {sa : Nat → Option Nat} {L : Nat → List Nat} {Fr : Nat → Nat → Nat} {Wr : Nat → Nat → Nat} {fn : Nat → Nat} {fv : Nat → Nat} {fs : Nat} {tn : Nat → Nat} {tv : Nat → Nat} {ts : Nat} {kd : Nat} {p : Nat} {q : Nat} {bf : Nat → Nat} {len : Nat} {ta : Nat → Nat} {sp : Nat} {f1 : Nat → Nat} {f2 : Nat → Nat} {f3 : Nat → Nat} {ks : Nat} {ff : Nat → Nat} {fg : Nat} {co : Nat} (i : Int32) (hP : psAt G h z x mk sa L Fr Wr fn fv fs tn tv ts kd p q bf len ta sp f1 f2 f3 ks ff fg co) : Ct G yX7_member cX7_member 5 (some .int) 2 0 0 [.ref x, .int i] z h (fun r' z' h' => ∃ y, r' = some (.int y) ∧ z' = z ∧ h' = h ∧ ((∃ j, j < (bl co).length ∧ i = nI j ∧ y = nI ((bl co).getD j 0)) ∨ ((i.toInt < 0 ∨ ((bl co).length : Int) ≤ i.toInt) ∧ y = -1))) := by
  refine Ct.of (lv := [_, _, _, _, _]) (by decide) (Nat.le_of_ble_eq_true rfl) rfl ?_
  rintro X rfl hX hR hnm
  obtain ⟨⟨hx, hsa⟩, ⟨hF, hFO⟩, ⟨hT, hTO⟩, ⟨hm, hM⟩, ⟨⟨nf, hp⟩, hPO⟩, ⟨s0, s1, s2, ho⟩, ⟨bg, hbg⟩, hta, ⟨⟨ab, bw, hk⟩, hks⟩, ⟨hn, hnO⟩, hS, hmk, hnone, hxz, hco⟩ := id hP
  have q5 := popN_le co 64
  refine V_iload_n (pc' := 1) hX dX7_member_0 rfl rfl ?_
  refine V_if_lt (pt := 15) (pc' := 4) hX dX7_member_1 rfl rfl (fun c1 => ?_) (fun c1 => ?_)
  · have hc : i.toInt < 0 := i32_lt.mp c1
    refine V_iconst (pc' := 16) (v := (-1)) hX dX7_member_15 (by decide) rfl ?_
    refine V_iret hX hR dX7_member_16 ?_
    exact ⟨_, rfl, rfl, rfl, Or.inr ⟨Or.inl hc, rfl⟩⟩
  · obtain ⟨m, hm31, rfl⟩ := nI_of c1
    refine V_iload_n (pc' := 5) hX dX7_member_4 rfl rfl ?_
    refine V_aload_n (pc' := 6) hX dX7_member_5 rfl rfl ?_
    refine V_get (pc' := 9) hX dX7_member_6 hx rfl inX7 12 (by decide) wF_X7_240 rfl rfl ?_
    refine V_callS (nA := 1) (pc' := 12) (k' := 0) (n' := 0) hX dX7_member_9 (c_bitCount co (by omega)) wM_X7_173 wS_J13_bitCount_95d88 wN_J13 wC_J13_bitCount_95d88 rfl hy_J13_bitCount_95d88 rfl (Nat.le_of_ble_eq_true rfl) (by decide) (by omega) rfl rfl (by omega) rfl (by omega) rfl ?_
    rintro _ z h ⟨rfl, rfl, rfl⟩
    refine V.stk (st' := [_, _]) rfl ?_
    refine V_icmp_ltN (pt := 17) (pc' := 15) hX dX7_member_12 hm31 (by omega) rfl rfl (fun c12 => ?_) (fun c12 => ?_)
    · rw [popN_bl hco] at c12
      refine V_aload_n (pc' := 18) hX dX7_member_17 rfl rfl ?_
      refine V_get (pc' := 21) hX dX7_member_18 hx rfl inX7 12 (by decide) wF_X7_240 rfl rfl ?_
      refine V_lstore_n (pc' := 22) (lv' := [_, _, _, _, _]) hX dX7_member_21 (Nat.le_of_ble_eq_true rfl) rfl rfl ?_
      refine V_iconst (pc' := 23) (v := nI 0) hX dX7_member_22 (by decide) rfl ?_
      refine V_istore (pc' := 25) (lv' := [_, _, _, _, _]) hX dX7_member_23 (Nat.le_of_ble_eq_true rfl) rfl rfl ?_
      have lp : ∀ (μ t rest : Nat), t ≤ m → rest < 2 ^ 60 → bl rest = (bl co).drop t → m - t < μ → V X 0 0 z h 25 [some (.ref x), some (.int (nI m)), some (.long (lN rest)), none, some (.int (nI t))] [] := by
        intro μ
        induction μ with
        | zero => intros; omega
        | succ μ ih =>
          intro t rest b1 b2 b3 b4
          refine V_iload (pc' := 27) hX dX7_member_25 rfl rfl ?_
          refine V_iload_n (pc' := 28) hX dX7_member_27 rfl rfl ?_
          refine V_icmp_geN (pt := 43) (pc' := 31) hX dX7_member_28 (by omega) (by omega) rfl rfl (fun c28 => ?_) (fun c28 => ?_)
          · refine V_lload_n (pc' := 44) hX dX7_member_43 rfl rfl ?_
            refine V_callS (nA := 1) (pc' := 47) (k' := 0) (n' := 0) hX dX7_member_44 (c_Nt_leastOf rest b2) wM_X7_169 wS_X2_leastOf wN_X2 wC_X2_leastOf rfl hy_X2_leastOf rfl (Nat.le_of_ble_eq_true rfl) (by decide) (by omega) rfl rfl (by omega) rfl (by omega) rfl ?_
            rintro _ z h ⟨y, rfl, rfl, rfl, hy⟩
            refine V.stk (st' := [_]) rfl ?_
            refine V_iret hX hR dX7_member_47 ?_
            have e : t = m := by omega
            subst e
            refine ⟨y, rfl, rfl, rfl, Or.inl ⟨t, c12, rfl, ?_⟩⟩
            rcases leastP_bl b2 hy with ⟨e, -⟩ | ⟨i0, tl, e, rfl⟩
            · rw [e] at b3
              have := congrArg List.length b3
              simp at this; omega
            · rw [e] at b3
              have e2 : (bl co)[t]? = some i0 := by
                rw [← List.head?_drop, ← b3]; rfl
              rw [List.getD_eq_getElem?_getD, e2]; rfl
          · have hne : rest ≠ 0 := fun e => by
              rw [e, bl_0] at b3
              have := congrArg List.length b3
              simp at this
              omega
            refine V_lload_n (pc' := 32) hX dX7_member_31 rfl rfl ?_
            refine V_lload_n (pc' := 33) hX dX7_member_32 rfl rfl ?_
            refine V_lconst (pc' := 34) (v := lN 1) hX dX7_member_33 rfl rfl ?_
            refine V_lsubN (pc' := 35) hX dX7_member_34 (by omega) rfl ?_
            refine V_land (pc' := 36) hX dX7_member_35 rfl ?_
            refine V.eql (lN_and _ _) ?_
            refine V_lstore_n (pc' := 37) (lv' := [_, _, _, _, _]) hX dX7_member_36 (Nat.le_of_ble_eq_true rfl) rfl rfl ?_
            refine V_iincN (pc' := 40) (j := 1) (lv' := [_, _, _, _, _]) hX dX7_member_37 rfl rfl rfl rfl ?_
            refine V_goto (pc' := 25) hX dX7_member_40 rfl ?_
            refine V.loc2 (lv' := [some _, some _, some _, none, some _]) ⟨rfl, rfl, rfl, rfl, trivial⟩ ?_
            obtain ⟨i0, -, e2, e3⟩ := bl_drop b2 hne
            exact ih (t + 1) _ (by omega) e3 (by rw [e2] at b3; rw [← List.drop_drop, List.drop_one, ← b3]; rfl) (by omega)
      refine V.loc2 (lv' := [some _, some _, some _, none, some _]) ⟨rfl, rfl, rfl, rfl, trivial⟩ ?_
      exact lp (m + 1) 0 co (by omega) hco rfl (by omega)
    · rw [popN_bl hco] at c12
      refine V_iconst (pc' := 16) (v := (-1)) hX dX7_member_15 (by decide) rfl ?_
      refine V_iret hX hR dX7_member_16 ?_
      exact ⟨_, rfl, rfl, rfl, Or.inr ⟨Or.inr (by rw [nI_toInt hm31]; omega), rfl⟩⟩
