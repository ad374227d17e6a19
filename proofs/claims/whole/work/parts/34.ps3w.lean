set_option maxRecDepth 100000 in
set_option maxHeartbeats 4000000 in
theorem c_PS_beginningOf {G : Gd} {h : AH} {z x : Nat} {mk : Nat} {sa : Nat → Option Nat} {L : Nat → List Nat} {F : Nat → Nat} {W : Nat → Nat} {fn : Nat → Nat} {fv : Nat → Nat} {fs : Nat} {tn : Nat → Nat} {tv : Nat → Nat} {ts : Nat} {kd : Nat} {p : Nat} {q : Nat} {bf : Nat → Nat} {len : Nat} {ta : Nat → Nat} {sp : Nat} {f1 : Nat → Nat} {f2 : Nat → Nat} {f3 : Nat → Nat} {ks : Nat} {ff : Nat → Nat} {fg : Nat} {co : Nat} (k q0 : Nat) (hs : sa k = some q0) (hP : psAt G h z x mk sa L (fun _ => F) (fun _ => W) fn fv fs tn tv ts kd p q bf len ta sp f1 f2 f3 ks ff fg co) : Ct G yX7_beginningOf cX7_beginningOf 2 (some .int) 2 0 0 [.ref x, .ref q0] z h (fun r' z' h' => ∃ b, r' = some (.int (nI b)) ∧ z' = z ∧ h' = h ∧ begP W (L k) (leastN kd p q (amL W (L k))) b) := by
  refine Ct.of (lv := [_, _]) (by decide) (Nat.le_of_ble_eq_true rfl) rfl ?_
  rintro X rfl hX hR hnm
  obtain ⟨⟨hx, hsa⟩, ⟨hF, hFO⟩, ⟨hT, hTO⟩, ⟨hm, hM⟩, ⟨⟨nf, hp⟩, hPO⟩, ⟨s0, s1, s2, ho⟩, ⟨bg, hbg⟩, hta, ⟨⟨ab, bw, hk⟩, hks⟩, ⟨hn, hnO⟩, hS, hmk, hnone, hxz, hco⟩ := id hP
  obtain ⟨hsN1, hqa1, hqb1⟩ := hS.1 k q0 hs
  obtain ⟨hv1, kf1, wf1, am1, hns1, hO1, hkw1, hw1⟩ := id hsN1
  have ea1 := ns_am hO1 hkw1
  have oa1 := hO1.am
  have hlb := leastN_bd hM (a := am1) (by omega)
  refine V_aload_n (pc' := 1) hX dX7_beginningOf_0 rfl rfl ?_
  refine V_aload_n (pc' := 2) hX dX7_beginningOf_1 rfl rfl ?_
  refine V_get (pc' := 5) hX dX7_beginningOf_2 hx rfl inX7 4 (by decide) wF_X7_30 rfl rfl ?_
  refine V_aload_n (pc' := 6) hX dX7_beginningOf_5 rfl rfl ?_
  refine V_getN (pc' := 9) hX dX7_beginningOf_6 hns1.1 rfl inX3 3 (by decide) wFn_X7_150 rfl rfl ?_
  refine V_i2lN (pc' := 10) hX dX7_beginningOf_9 (by omega) rfl ?_
  refine V_callV (nA := 1) (pc' := 13) (k' := 0) (n' := 0) hX dX7_beginningOf_10 (c_Ms_least am1 (by omega) hm hM) hm rfl wM_X7_153 wI_X1_least wL_X1_least wN_X1 wC_X1_least rfl hy_X1_least rfl (Nat.le_of_ble_eq_true rfl) (by decide) (by omega) rfl rfl (by omega) rfl (by omega) rfl ?_
  rintro _ z h ⟨rfl, rfl, rfl⟩
  refine V.stk (st' := [_, _]) rfl ?_
  refine V_callV (nA := 1) (pc' := 16) (k' := 0) (n' := 0) hX dX7_beginningOf_13 (c_NS_countBeginning (leastN kd p q am1) (by omega) hns1 hO1) hns1.1 rfl wM_X7_280 wI_X3_countBeginning wL_X3_countBeginning wN_X3 wC_X3_countBeginning rfl hy_X3_countBeginning rfl (Nat.le_of_ble_eq_true rfl) (by decide) (by omega) rfl rfl (by omega) rfl (by omega) rfl ?_
  rintro _ z h ⟨b, rfl, rfl, rfl, hb⟩
  refine V.stk (st' := [_]) rfl ?_
  refine V_iret hX hR dX7_beginningOf_16 ?_
  rw [← ea1]
  exact ⟨b, rfl, rfl, rfl, ns_beg hO1 hkw1 hb⟩
set_option maxRecDepth 100000 in
set_option maxHeartbeats 4000000 in
theorem c_PS_arePair {G : Gd} {h : AH} {z x : Nat} {mk : Nat} {sa : Nat → Option Nat} {L : Nat → List Nat} {F : Nat → Nat} {W : Nat → Nat} {fn : Nat → Nat} {fv : Nat → Nat} {fs : Nat} {tn : Nat → Nat} {tv : Nat → Nat} {ts : Nat} {kd : Nat} {p : Nat} {q : Nat} {bf : Nat → Nat} {len : Nat} {ta : Nat → Nat} {sp : Nat} {f1 : Nat → Nat} {f2 : Nat → Nat} {f3 : Nat → Nat} {ks : Nat} {ff : Nat → Nat} {fg : Nat} {co : Nat} (r s : Nat) (hr : r < 60) (hs60 : s < 60) (hP : psAt G h z x mk sa L (fun _ => F) (fun _ => W) fn fv fs tn tv ts kd p q bf len ta sp f1 f2 f3 ks ff fg co) : Ct G yX7_arePair cX7_arePair 5 (some .boolean) 3 0 0 [.ref x, .int (nI r), .int (nI s)] z h (fun r' z' h' => r' = some (.int (bI (arB kd p q W sa L r s))) ∧ z' = z ∧ fr (x + 12) (x + 13) h h' ∧ psAt G h' z x mk sa L (fun _ => F) (fun _ => W) fn fv fs tn tv ts kd p q bf len ta sp f1 f2 f3 ks ff fg co) := by
  refine Ct.of (lv := [_, _, _, _, _]) (by decide) (Nat.le_of_ble_eq_true rfl) rfl ?_
  rintro X rfl hX hR hnm
  obtain ⟨⟨hx, hsa⟩, ⟨hF, hFO⟩, ⟨hT, hTO⟩, ⟨hm, hM⟩, ⟨⟨nf, hp⟩, hPO⟩, ⟨s0, s1, s2, ho⟩, ⟨bg, hbg⟩, hta, ⟨⟨ab, bw, hk⟩, hks⟩, ⟨hn, hnO⟩, hS, hmk, hnone, hxz, hco⟩ := id hP
  refine V_aload_n (pc' := 1) hX dX7_arePair_0 rfl rfl ?_
  refine V_get (pc' := 4) hX dX7_arePair_1 hx rfl inX7 0 (by decide) wF_X7_11 rfl rfl ?_
  refine V_iload_n (pc' := 5) hX dX7_arePair_4 rfl rfl ?_
  rcases hs1 : sa r with _ | q1
  · refine V_aaldN (pc' := 6) (v := .null) hX dX7_arePair_5 hsa (by omega) (by omega) (by rw [hs1]; rfl) rfl ?_
    refine V_astore_nN (pc' := 7) (lv' := [_, _, _, _, _]) hX dX7_arePair_6 (Nat.le_of_ble_eq_true rfl) rfl rfl ?_
    refine V_aload_n (pc' := 8) hX dX7_arePair_7 rfl rfl ?_
    refine V_get (pc' := 11) hX dX7_arePair_8 hx rfl inX7 0 (by decide) wF_X7_11 rfl rfl ?_
    refine V_iload_n (pc' := 12) hX dX7_arePair_11 rfl rfl ?_
    rcases hs2 : sa s with _ | q2
    · refine V_aaldN (pc' := 13) (v := .null) hX dX7_arePair_12 hsa (by omega) (by omega) (by rw [hs2]; rfl) rfl ?_
      refine V_astoreN (pc' := 15) (lv' := [_, _, _, _, _]) hX dX7_arePair_13 (Nat.le_of_ble_eq_true rfl) rfl rfl ?_
      refine V_aload_nN (pc' := 16) hX dX7_arePair_15 rfl rfl ?_
      refine V_ifnullN (pc' := 24) hX dX7_arePair_16 rfl ?_
      refine V_iconst (pc' := 25) (v := nI 0) hX dX7_arePair_24 (by decide) rfl ?_
      refine V_zret hX hR dX7_arePair_25 (by first | rfl | exact bI_n _) ?_
      first
        | (rw [arB_no1 hs1]; exact ⟨rfl, rfl, fr.rf, hP⟩)
        | (rw [arB_no2 hs2]; exact ⟨rfl, rfl, fr.rf, hP⟩)
    · refine V_aaldN (pc' := 13) (v := .ref q2) hX dX7_arePair_12 hsa (by omega) (by omega) (by rw [hs2]; rfl) rfl ?_
      refine V_astore (pc' := 15) (lv' := [_, _, _, _, _]) hX dX7_arePair_13 (Nat.le_of_ble_eq_true rfl) rfl rfl ?_
      refine V_aload_nN (pc' := 16) hX dX7_arePair_15 rfl rfl ?_
      refine V_ifnullN (pc' := 24) hX dX7_arePair_16 rfl ?_
      refine V_iconst (pc' := 25) (v := nI 0) hX dX7_arePair_24 (by decide) rfl ?_
      refine V_zret hX hR dX7_arePair_25 (by first | rfl | exact bI_n _) ?_
      first
        | (rw [arB_no1 hs1]; exact ⟨rfl, rfl, fr.rf, hP⟩)
        | (rw [arB_no2 hs2]; exact ⟨rfl, rfl, fr.rf, hP⟩)
  · refine V_aaldN (pc' := 6) (v := .ref q1) hX dX7_arePair_5 hsa (by omega) (by omega) (by rw [hs1]; rfl) rfl ?_
    refine V_astore_n (pc' := 7) (lv' := [_, _, _, _, _]) hX dX7_arePair_6 (Nat.le_of_ble_eq_true rfl) rfl rfl ?_
    refine V_aload_n (pc' := 8) hX dX7_arePair_7 rfl rfl ?_
    refine V_get (pc' := 11) hX dX7_arePair_8 hx rfl inX7 0 (by decide) wF_X7_11 rfl rfl ?_
    refine V_iload_n (pc' := 12) hX dX7_arePair_11 rfl rfl ?_
    rcases hs2 : sa s with _ | q2
    · refine V_aaldN (pc' := 13) (v := .null) hX dX7_arePair_12 hsa (by omega) (by omega) (by rw [hs2]; rfl) rfl ?_
      refine V_astoreN (pc' := 15) (lv' := [_, _, _, _, _]) hX dX7_arePair_13 (Nat.le_of_ble_eq_true rfl) rfl rfl ?_
      refine V_aload_n (pc' := 16) hX dX7_arePair_15 rfl rfl ?_
      refine V_ifnull (pc' := 19) hX dX7_arePair_16 rfl ?_
      refine V_aloadN (pc' := 21) hX dX7_arePair_19 rfl rfl ?_
      refine V_ifnonnullN (pc' := 24) hX dX7_arePair_21 rfl ?_
      refine V_iconst (pc' := 25) (v := nI 0) hX dX7_arePair_24 (by decide) rfl ?_
      refine V_zret hX hR dX7_arePair_25 (by first | rfl | exact bI_n _) ?_
      first
        | (rw [arB_no1 hs1]; exact ⟨rfl, rfl, fr.rf, hP⟩)
        | (rw [arB_no2 hs2]; exact ⟨rfl, rfl, fr.rf, hP⟩)
    · refine V_aaldN (pc' := 13) (v := .ref q2) hX dX7_arePair_12 hsa (by omega) (by omega) (by rw [hs2]; rfl) rfl ?_
      refine V_astore (pc' := 15) (lv' := [_, _, _, _, _]) hX dX7_arePair_13 (Nat.le_of_ble_eq_true rfl) rfl rfl ?_
      refine V_aload_n (pc' := 16) hX dX7_arePair_15 rfl rfl ?_
      refine V_ifnull (pc' := 19) hX dX7_arePair_16 rfl ?_
      refine V_aload (pc' := 21) hX dX7_arePair_19 rfl rfl ?_
      refine V_ifnonnull (pc' := 26) hX dX7_arePair_21 rfl ?_
      obtain ⟨hsN1, hqa1, hqb1⟩ := hS.1 r q1 hs1
      obtain ⟨hv1, kf1, wf1, am1, hns1, hO1, hkw1, hw1⟩ := id hsN1
      have ea1 := ns_am hO1 hkw1
      have oa1 := hO1.am
      obtain ⟨hsN2, hqa2, hqb2⟩ := hS.1 s q2 hs2
      obtain ⟨hv2, kf2, wf2, am2, hns2, hO2, hkw2, hw2⟩ := id hsN2
      have ea2 := ns_am hO2 hkw2
      have oa2 := hO2.am
      refine V_aload_n (pc' := 27) hX dX7_arePair_26 rfl rfl ?_
      refine V_get (pc' := 30) hX dX7_arePair_27 hx rfl inX7 6 (by decide) wF_X7_44 rfl rfl ?_
      refine V_aload_n (pc' := 31) hX dX7_arePair_30 rfl rfl ?_
      refine V_iconst (pc' := 32) (v := nI 0) hX dX7_arePair_31 (by decide) rfl ?_
      refine V_aload (pc' := 34) hX dX7_arePair_32 rfl rfl ?_
      refine V_iconst (pc' := 35) (v := nI 0) hX dX7_arePair_34 (by decide) rfl ?_
      refine V_callV (nA := 4) (pc' := 38) (k' := 0) (n' := 0) hX dX7_arePair_35 (c_Ov_compare 0 0 (Nat.zero_le _) (Nat.zero_le _) ho (by omega) (by omega) hns1 hO1 hns2 hO2 hw1) ho rfl wM_X7_180 wI_X4_compare wL_X4_compare wN_X4 wC_X4_compare rfl hy_X4_compare rfl (Nat.le_of_ble_eq_true rfl) (by decide) (by omega) rfl rfl (by omega) rfl (by omega) rfl ?_
      rintro _ z h' ⟨rfl, rfl, q1f, mb, q2, q3⟩
      have hP0 := hP
      have hP := hP.uO q2 q1f
      have hns1 := hns1.kept q1f (by omega)
      have hns2 := hns2.kept q1f (by omega)
      rw [ns_sh hv1 hv2 hkw1 hkw2] at q2
      
      obtain ⟨⟨hx, hsa⟩, ⟨hF, hFO⟩, ⟨hT, hTO⟩, ⟨hm, hM⟩, ⟨⟨nf, hp⟩, hPO⟩, ⟨s0, s1, s2, ho⟩, ⟨bg, hbg⟩, hta, ⟨⟨ab, bw, hk⟩, hks⟩, ⟨hn, hnO⟩, hS, hmk, hnone, hxz, hco⟩ := id hP
      have hshl := shL_le W (L r) (L s)
      refine V.stk (st' := []) rfl ?_
      refine V_aload_n (pc' := 39) hX dX7_arePair_38 rfl rfl ?_
      refine V_get (pc' := 42) hX dX7_arePair_39 hx rfl inX7 4 (by decide) wF_X7_30 rfl rfl ?_
      refine V_aload_n (pc' := 43) hX dX7_arePair_42 rfl rfl ?_
      refine V_get (pc' := 46) hX dX7_arePair_43 hx rfl inX7 6 (by decide) wF_X7_44 rfl rfl ?_
      refine V_getN (pc' := 49) hX dX7_arePair_46 q2 rfl inX4 0 (by decide) wFn_X7_184 rfl rfl ?_
      refine V_i2lN (pc' := 50) hX dX7_arePair_49 (by omega) rfl ?_
      refine V_aload_n (pc' := 51) hX dX7_arePair_50 rfl rfl ?_
      refine V_getN (pc' := 54) hX dX7_arePair_51 hns1.1 rfl inX3 3 (by decide) wFn_X7_150 rfl rfl ?_
      refine V_i2lN (pc' := 55) hX dX7_arePair_54 (by omega) rfl ?_
      refine V_aload (pc' := 57) hX dX7_arePair_55 rfl rfl ?_
      refine V_getN (pc' := 60) hX dX7_arePair_57 hns2.1 rfl inX3 3 (by decide) wFn_X7_150 rfl rfl ?_
      refine V_i2lN (pc' := 61) hX dX7_arePair_60 (by omega) rfl ?_
      refine V_callV (nA := 3) (pc' := 64) (k' := 0) (n' := 0) hX dX7_arePair_61 (c_Ms_isReached (shL W (L r) (L s)) am1 am2 (by omega) (by omega) (by omega) (by omega) hm hM) hm rfl wM_X7_201 wI_X1_isReached wL_X1_isReached wN_X1 wC_X1_isReached rfl hy_X1_isReached rfl (Nat.le_of_ble_eq_true rfl) (by decide) (by omega) rfl rfl (by omega) rfl (by omega) rfl ?_
      rintro _ z h' ⟨rfl, rfl, rfl⟩
      refine V.stk (st' := [_]) rfl ?_
      refine V_zret hX hR dX7_arePair_64 (bI_n _) ?_
      refine ⟨by rw [arB_yes hs1 hs2, ea1, ea2], rfl, q1f, hP⟩
set_option maxRecDepth 100000 in
set_option maxHeartbeats 4000000 in
theorem c_PS_fateOf {G : Gd} {h : AH} {z x : Nat} {mk : Nat} {sa : Nat → Option Nat} {L : Nat → List Nat} {F : Nat → Nat} {W : Nat → Nat} {fn : Nat → Nat} {fv : Nat → Nat} {fs : Nat} {tn : Nat → Nat} {tv : Nat → Nat} {ts : Nat} {kd : Nat} {p : Nat} {q : Nat} {bf : Nat → Nat} {len : Nat} {ta : Nat → Nat} {sp : Nat} {f1 : Nat → Nat} {f2 : Nat → Nat} {f3 : Nat → Nat} {ks : Nat} {ff : Nat → Nat} {fg : Nat} {co : Nat} (r s q1 q2 bo bp : Nat) (hs1 : sa r = some q1) (hs2 : sa s = some q2) (hbo : bo ≤ (L r).length) (hbp : bp ≤ (L s).length) (hP : psAt G h z x mk sa L (fun _ => F) (fun _ => W) fn fv fs tn tv ts kd p q bf len ta sp f1 f2 f3 ks ff fg co) : Ct G yX7_fateOf cX7_fateOf 7 (some .int) 3 0 0 [.ref x, .ref q1, .int (nI bo), .ref q2, .int (nI bp)] z h (fun r' z' h' => ∃ mb, r' = some (.int (nI (fateN kd p q (amL W (L r)) (amL W (L s)) (sbL bo bp (L r) (L s)) mb (shL W (L r) (L s))))) ∧ z' = z ∧ fr (x + 12) (x + 13) h h' ∧ h' (x + 12) = some (oO 4 [.int (nI (shL W (L r) (L s))), .int (nI (sbL bo bp (L r) (L s))), .int (nI mb)]) ∧ mbL W (L r) (L s) mb ∧ psAt G h' z x mk sa L (fun _ => F) (fun _ => W) fn fv fs tn tv ts kd p q bf len ta sp f1 f2 f3 ks ff fg co) := by
  refine Ct.of (lv := [_, _, _, _, _, _, _]) (by decide) (Nat.le_of_ble_eq_true rfl) rfl ?_
  rintro X rfl hX hR hnm
  obtain ⟨⟨hx, hsa⟩, ⟨hF, hFO⟩, ⟨hT, hTO⟩, ⟨hm, hM⟩, ⟨⟨nf, hp⟩, hPO⟩, ⟨s0, s1, s2, ho⟩, ⟨bg, hbg⟩, hta, ⟨⟨ab, bw, hk⟩, hks⟩, ⟨hn, hnO⟩, hS, hmk, hnone, hxz, hco⟩ := id hP
  obtain ⟨hsN1, hqa1, hqb1⟩ := hS.1 r q1 hs1
  obtain ⟨hv1, kf1, wf1, am1, hns1, hO1, hkw1, hw1⟩ := id hsN1
  have ea1 := ns_am hO1 hkw1
  have oa1 := hO1.am
  obtain ⟨hsN2, hqa2, hqb2⟩ := hS.1 s q2 hs2
  obtain ⟨hv2, kf2, wf2, am2, hns2, hO2, hkw2, hw2⟩ := id hsN2
  have ea2 := ns_am hO2 hkw2
  have oa2 := hO2.am
  have hnb := neededN_bd hM (a := am1) (b := am2) (by omega) (by omega)
  have hln := hO1.1
  have hsbb : sbL bo bp (L r) (L s) ≤ 30 := by
    rw [← ns_sb hv1 hv2 hkw1 hkw2 hbo hbp]
    refine Nat.le_trans (sm_bd (c := 1) (fun j _ => by unfold sbF; split <;> omega)) ?_
    omega
  refine V_aload_n (pc' := 1) hX dX7_fateOf_0 rfl rfl ?_
  refine V_get (pc' := 4) hX dX7_fateOf_1 hx rfl inX7 6 (by decide) wF_X7_44 rfl rfl ?_
  refine V_aload_n (pc' := 5) hX dX7_fateOf_4 rfl rfl ?_
  refine V_iload_n (pc' := 6) hX dX7_fateOf_5 rfl rfl ?_
  refine V_aload_n (pc' := 7) hX dX7_fateOf_6 rfl rfl ?_
  refine V_iload (pc' := 9) hX dX7_fateOf_7 rfl rfl ?_
  refine V_callV (nA := 4) (pc' := 12) (k' := 0) (n' := 0) hX dX7_fateOf_9 (c_Ov_compare bo bp hbo hbp ho (by omega) (by omega) hns1 hO1 hns2 hO2 hw1) ho rfl wM_X7_180 wI_X4_compare wL_X4_compare wN_X4 wC_X4_compare rfl hy_X4_compare rfl (Nat.le_of_ble_eq_true rfl) (by decide) (by omega) rfl rfl (by omega) rfl (by omega) rfl ?_
  rintro _ z h' ⟨rfl, rfl, q1f, mb, q2, q3⟩
  have hP0 := hP
  have hP := hP.uO q2 q1f
  have hns1 := hns1.kept q1f (by omega)
  have hns2 := hns2.kept q1f (by omega)
  rw [ns_sh hv1 hv2 hkw1 hkw2] at q2
  rw [ns_sb hv1 hv2 hkw1 hkw2 hbo hbp] at q2
  have q3 := ns_mb hv1 hv2 hO1 hO2 hkw1 hkw2 q3
  have hmb : mb ≤ 6000 := by
    rcases q3 with ⟨-, e⟩ | ⟨A, v, B, C, D, e1, e2, -, e⟩
    · omega
    · have e3 := congrArg (amL W) e1
      rw [amL_app, amL_cons, ← ea1] at e3
      omega
  obtain ⟨⟨hx, hsa⟩, ⟨hF, hFO⟩, ⟨hT, hTO⟩, ⟨hm, hM⟩, ⟨⟨nf, hp⟩, hPO⟩, ⟨s0, s1, s2, ho⟩, ⟨bg, hbg⟩, hta, ⟨⟨ab, bw, hk⟩, hks⟩, ⟨hn, hnO⟩, hS, hmk, hnone, hxz, hco⟩ := id hP
  have hshl := shL_le W (L r) (L s)
  refine V.stk (st' := []) rfl ?_
  refine V_aload_n (pc' := 13) hX dX7_fateOf_12 rfl rfl ?_
  refine V_get (pc' := 16) hX dX7_fateOf_13 hx rfl inX7 6 (by decide) wF_X7_44 rfl rfl ?_
  refine V_getN (pc' := 19) hX dX7_fateOf_16 q2 rfl inX4 1 (by decide) wFn_X7_283 rfl rfl ?_
  refine V_if_neN (pt := 24) (pc' := 22) hX dX7_fateOf_19 (by omega) rfl rfl (fun c19 => ?_) (fun c19 => ?_)
  · refine V_aload_n (pc' := 25) hX dX7_fateOf_24 rfl rfl ?_
    refine V_get (pc' := 28) hX dX7_fateOf_25 hx rfl inX7 4 (by decide) wF_X7_30 rfl rfl ?_
    refine V_aload_n (pc' := 29) hX dX7_fateOf_28 rfl rfl ?_
    refine V_getN (pc' := 32) hX dX7_fateOf_29 hns1.1 rfl inX3 3 (by decide) wFn_X7_150 rfl rfl ?_
    refine V_i2lN (pc' := 33) hX dX7_fateOf_32 (by omega) rfl ?_
    refine V_aload_n (pc' := 34) hX dX7_fateOf_33 rfl rfl ?_
    refine V_getN (pc' := 37) hX dX7_fateOf_34 hns2.1 rfl inX3 3 (by decide) wFn_X7_150 rfl rfl ?_
    refine V_i2lN (pc' := 38) hX dX7_fateOf_37 (by omega) rfl ?_
    refine V_callV (nA := 2) (pc' := 41) (k' := 0) (n' := 0) hX dX7_fateOf_38 (c_Ms_needed am1 am2 (by omega) (by omega) hm hM) hm rfl wM_X7_194 wI_X1_needed wL_X1_needed wN_X1 wC_X1_needed rfl hy_X1_needed rfl (Nat.le_of_ble_eq_true rfl) (by decide) (by omega) rfl rfl (by omega) rfl (by omega) rfl ?_
    rintro _ z h' ⟨rfl, rfl, rfl⟩
    refine V.stk (st' := [_]) rfl ?_
    refine V_lstore (pc' := 43) (lv' := [_, _, _, _, _, _, _]) hX dX7_fateOf_41 (Nat.le_of_ble_eq_true rfl) rfl rfl ?_
    refine V_lload (pc' := 45) hX dX7_fateOf_43 rfl rfl ?_
    refine V_aload_n (pc' := 46) hX dX7_fateOf_45 rfl rfl ?_
    refine V_getN (pc' := 49) hX dX7_fateOf_46 hns1.1 rfl inX3 3 (by decide) wFn_X7_150 rfl rfl ?_
    refine V_aload_n (pc' := 50) hX dX7_fateOf_49 rfl rfl ?_
    refine V_getN (pc' := 53) hX dX7_fateOf_50 hns2.1 rfl inX3 3 (by decide) wFn_X7_150 rfl rfl ?_
    refine V_minN (pc' := 56) hX dX7_fateOf_53 wM_X7_286 (by omega) (by omega) (by omega) (by omega) (by omega) rfl (Nat.le_of_ble_eq_true rfl) rfl ?_
    refine V_i2lN (pc' := 57) hX dX7_fateOf_56 (by omega) rfl ?_
    refine V_lcmp_leN (pt := 63) (pc' := 61) hX dX7_fateOf_57 rfl dX7_fateOf_58 (by omega) (by omega) rfl rfl (fun c57 => ?_) (fun c57 => ?_)
    · refine V_aload_n (pc' := 64) hX dX7_fateOf_63 rfl rfl ?_
      refine V_get (pc' := 67) hX dX7_fateOf_64 hx rfl inX7 6 (by decide) wF_X7_44 rfl rfl ?_
      refine V_getN (pc' := 70) hX dX7_fateOf_67 q2 rfl inX4 2 (by decide) wFn_X7_291 rfl rfl ?_
      refine V_i2lN (pc' := 71) hX dX7_fateOf_70 (by omega) rfl ?_
      refine V_lload (pc' := 73) hX dX7_fateOf_71 rfl rfl ?_
      refine V_lcmp_geN (pt := 79) (pc' := 77) hX dX7_fateOf_73 rfl dX7_fateOf_74 (by omega) (by omega) rfl rfl (fun c73 => ?_) (fun c73 => ?_)
      · refine V_aload_n (pc' := 80) hX dX7_fateOf_79 rfl rfl ?_
        refine V_get (pc' := 83) hX dX7_fateOf_80 hx rfl inX7 4 (by decide) wF_X7_30 rfl rfl ?_
        refine V_aload_n (pc' := 84) hX dX7_fateOf_83 rfl rfl ?_
        refine V_get (pc' := 87) hX dX7_fateOf_84 hx rfl inX7 6 (by decide) wF_X7_44 rfl rfl ?_
        refine V_getN (pc' := 90) hX dX7_fateOf_87 q2 rfl inX4 0 (by decide) wFn_X7_184 rfl rfl ?_
        refine V_i2lN (pc' := 91) hX dX7_fateOf_90 (by omega) rfl ?_
        refine V_aload_n (pc' := 92) hX dX7_fateOf_91 rfl rfl ?_
        refine V_getN (pc' := 95) hX dX7_fateOf_92 hns1.1 rfl inX3 3 (by decide) wFn_X7_150 rfl rfl ?_
        refine V_i2lN (pc' := 96) hX dX7_fateOf_95 (by omega) rfl ?_
        refine V_aload_n (pc' := 97) hX dX7_fateOf_96 rfl rfl ?_
        refine V_getN (pc' := 100) hX dX7_fateOf_97 hns2.1 rfl inX3 3 (by decide) wFn_X7_150 rfl rfl ?_
        refine V_i2lN (pc' := 101) hX dX7_fateOf_100 (by omega) rfl ?_
        refine V_callV (nA := 3) (pc' := 104) (k' := 0) (n' := 0) hX dX7_fateOf_101 (c_Ms_isReached (shL W (L r) (L s)) am1 am2 (by omega) (by omega) (by omega) (by omega) hm hM) hm rfl wM_X7_201 wI_X1_isReached wL_X1_isReached wN_X1 wC_X1_isReached rfl hy_X1_isReached rfl (Nat.le_of_ble_eq_true rfl) (by decide) (by omega) rfl rfl (by omega) rfl (by omega) rfl ?_
        rintro _ z h' ⟨rfl, rfl, rfl⟩
        refine V.stk (st' := [_]) rfl ?_
        refine V_if_eqB (pt := 111) (pc' := 107) hX dX7_fateOf_104 rfl rfl (fun c104 => ?_) (fun c104 => ?_)
        · refine V_iconst (pc' := 112) (v := nI 4) hX dX7_fateOf_111 (by decide) rfl ?_
          refine V_iret hX hR dX7_fateOf_112 ?_
          exact ⟨mb, by unfold fateN; rw [← ea1, ← ea2, if_neg c19, if_neg (by omega), if_neg (by omega), if_neg (by rw [c104]; decide)], rfl, q1f, q2, q3, hP⟩
        · refine V_iconst (pc' := 108) (v := nI 0) hX dX7_fateOf_107 (by decide) rfl ?_
          refine V_goto (pc' := 112) hX dX7_fateOf_108 rfl ?_
          refine V_iret hX hR dX7_fateOf_112 ?_
          exact ⟨mb, by unfold fateN; rw [← ea1, ← ea2, if_neg c19, if_neg (by omega), if_neg (by omega), if_pos c104], rfl, q1f, q2, q3, hP⟩
      · refine V_iconst (pc' := 78) (v := nI 3) hX dX7_fateOf_77 (by decide) rfl ?_
        refine V_iret hX hR dX7_fateOf_78 ?_
        exact ⟨mb, by unfold fateN; rw [← ea1, ← ea2, if_neg c19, if_neg (by omega), if_pos (by omega)], rfl, q1f, q2, q3, hP⟩
    · refine V_iconst (pc' := 62) (v := nI 2) hX dX7_fateOf_61 (by decide) rfl ?_
      refine V_iret hX hR dX7_fateOf_62 ?_
      exact ⟨mb, by unfold fateN; rw [← ea1, ← ea2, if_neg c19, if_pos (by omega)], rfl, q1f, q2, q3, hP⟩
  · refine V_iconst (pc' := 23) (v := nI 1) hX dX7_fateOf_22 (by decide) rfl ?_
    refine V_iret hX hR dX7_fateOf_23 ?_
    exact ⟨mb, by unfold fateN; rw [← ea1, ← ea2, if_pos c19], rfl, q1f, q2, q3, hP⟩
