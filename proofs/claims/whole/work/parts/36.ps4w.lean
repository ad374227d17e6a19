set_option maxRecDepth 100000 in
set_option maxHeartbeats 4000000 in
theorem c_PS_why {G : Gd} {h : AH} {z x : Nat} {mk : Nat} {sa : Nat → Option Nat} {L : Nat → List Nat} {F : Nat → Nat} {W : Nat → Nat} {fn : Nat → Nat} {fv : Nat → Nat} {fs : Nat} {tn : Nat → Nat} {tv : Nat → Nat} {ts : Nat} {kd : Nat} {p : Nat} {q : Nat} {bf : Nat → Nat} {len : Nat} {ta : Nat → Nat} {sp : Nat} {f1 : Nat → Nat} {f2 : Nat → Nat} {f3 : Nat → Nat} {ks : Nat} {ff : Nat → Nat} {fg : Nat} {co : Nat} (r s : Int32) (hP : psAt G h z x mk sa L (fun _ => F) (fun _ => W) fn fv fs tn tv ts kd p q bf len ta sp f1 f2 f3 ks ff fg co) : Ct G yX7_why cX7_why 5 (some .int) 4 0 0 [.ref x, .int r, .int s] z h (fun r' z' h' => ∃ y, r' = some (.int y) ∧ z' = z ∧ fr (x + 12) (x + 13) h h' ∧ psAt G h' z x mk sa L (fun _ => F) (fun _ => W) fn fv fs tn tv ts kd p q bf len ta sp f1 f2 f3 ks ff fg co ∧ (((sOf sa r = none ∨ sOf sa s = none ∨ r = s) ∧ y = -1) ∨ ∃ i j f, i < mk ∧ j < mk ∧ r = nI i ∧ s = nI j ∧ i ≠ j ∧ (sa i).isSome = true ∧ (sa j).isSome = true ∧ whyR kd p q W (L i) (L j) f ∧ y = nI f)) := by
  refine Ct.of (lv := [_, _, _, _, _]) (by decide) (Nat.le_of_ble_eq_true rfl) rfl ?_
  rintro X rfl hX hR hnm
  obtain ⟨⟨hx, hsa⟩, ⟨hF, hFO⟩, ⟨hT, hTO⟩, ⟨hm, hM⟩, ⟨⟨nf, hp⟩, hPO⟩, ⟨s0, s1, s2, ho⟩, ⟨bg, hbg⟩, hta, ⟨⟨ab, bw, hk⟩, hks⟩, ⟨hn, hnO⟩, hS, hmk, hnone, hxz, hco⟩ := id hP
  refine V_aload_n (pc' := 1) hX dX7_why_0 rfl rfl ?_
  refine V_iload_n (pc' := 2) hX dX7_why_1 rfl rfl ?_
  refine V_callV (nA := 1) (pc' := 5) (k' := 0) (n' := 0) hX dX7_why_2 (c_PS_setOf r hP) hx rfl wM_X7_74 wI_X7_setOf wL_X7_setOf wN_X7 wC_X7_setOf rfl hy_X7_setOf rfl (Nat.le_of_ble_eq_true rfl) (by decide) (by omega) rfl rfl (by omega) rfl (by omega) rfl ?_
  rintro _ z h ⟨rfl, rfl, rfl⟩
  rcases hs1 : sOf sa r with _ | q1
  · refine V.stk (st' := [_]) rfl ?_
    refine V_astore_nN (pc' := 6) (lv' := [_, _, _, _, _]) hX dX7_why_5 (Nat.le_of_ble_eq_true rfl) rfl rfl ?_
    refine V_aload_n (pc' := 7) hX dX7_why_6 rfl rfl ?_
    refine V_iload_n (pc' := 8) hX dX7_why_7 rfl rfl ?_
    refine V_callV (nA := 1) (pc' := 11) (k' := 0) (n' := 0) hX dX7_why_8 (c_PS_setOf s hP) hx rfl wM_X7_74 wI_X7_setOf wL_X7_setOf wN_X7 wC_X7_setOf rfl hy_X7_setOf rfl (Nat.le_of_ble_eq_true rfl) (by decide) (by omega) rfl rfl (by omega) rfl (by omega) rfl ?_
    rintro _ z h ⟨rfl, rfl, rfl⟩
    rcases hs2 : sOf sa s with _ | q2
    · refine V.stk (st' := [_]) rfl ?_
      refine V_astoreN (pc' := 13) (lv' := [_, _, _, _, _]) hX dX7_why_11 (Nat.le_of_ble_eq_true rfl) rfl rfl ?_
      refine V_aload_nN (pc' := 14) hX dX7_why_13 rfl rfl ?_
      refine V_ifnullN (pc' := 27) hX dX7_why_14 rfl ?_
      refine V_iconst (pc' := 28) (v := (-1)) hX dX7_why_27 (by decide) rfl ?_
      refine V_iret hX hR dX7_why_28 ?_
      first
        | exact ⟨_, rfl, rfl, fr.rf, hP, Or.inl ⟨Or.inl hs1, rfl⟩⟩
        | exact ⟨_, rfl, rfl, fr.rf, hP, Or.inl ⟨Or.inr (Or.inl hs2), rfl⟩⟩
        | exact ⟨_, rfl, rfl, fr.rf, hP, Or.inl ⟨Or.inr (Or.inr (by rw [c24])), rfl⟩⟩
    · obtain ⟨k2, hk312, rfl, hsk2⟩ := sOf_some hs2
      have hkm2 : k2 < mk := Nat.lt_of_not_le (fun e => by rw [hnone k2 e] at hsk2; cases hsk2)
      obtain ⟨hsN2, hqa2, hqb2⟩ := hS.1 k2 q2 hsk2
      obtain ⟨hv2, kf2, wf2, am2, hns2, hO2, hkw2, hw2⟩ := id hsN2
      have ea2 := ns_am hO2 hkw2
      have oa2 := hO2.am
      refine V.stk (st' := [_]) rfl ?_
      refine V_astore (pc' := 13) (lv' := [_, _, _, _, _]) hX dX7_why_11 (Nat.le_of_ble_eq_true rfl) rfl rfl ?_
      refine V_aload_nN (pc' := 14) hX dX7_why_13 rfl rfl ?_
      refine V_ifnullN (pc' := 27) hX dX7_why_14 rfl ?_
      refine V_iconst (pc' := 28) (v := (-1)) hX dX7_why_27 (by decide) rfl ?_
      refine V_iret hX hR dX7_why_28 ?_
      first
        | exact ⟨_, rfl, rfl, fr.rf, hP, Or.inl ⟨Or.inl hs1, rfl⟩⟩
        | exact ⟨_, rfl, rfl, fr.rf, hP, Or.inl ⟨Or.inr (Or.inl hs2), rfl⟩⟩
        | exact ⟨_, rfl, rfl, fr.rf, hP, Or.inl ⟨Or.inr (Or.inr (by rw [c24])), rfl⟩⟩
  · obtain ⟨k1, hk311, rfl, hsk1⟩ := sOf_some hs1
    have hkm1 : k1 < mk := Nat.lt_of_not_le (fun e => by rw [hnone k1 e] at hsk1; cases hsk1)
    obtain ⟨hsN1, hqa1, hqb1⟩ := hS.1 k1 q1 hsk1
    obtain ⟨hv1, kf1, wf1, am1, hns1, hO1, hkw1, hw1⟩ := id hsN1
    have ea1 := ns_am hO1 hkw1
    have oa1 := hO1.am
    refine V.stk (st' := [_]) rfl ?_
    refine V_astore_n (pc' := 6) (lv' := [_, _, _, _, _]) hX dX7_why_5 (Nat.le_of_ble_eq_true rfl) rfl rfl ?_
    refine V_aload_n (pc' := 7) hX dX7_why_6 rfl rfl ?_
    refine V_iload_n (pc' := 8) hX dX7_why_7 rfl rfl ?_
    refine V_callV (nA := 1) (pc' := 11) (k' := 0) (n' := 0) hX dX7_why_8 (c_PS_setOf s hP) hx rfl wM_X7_74 wI_X7_setOf wL_X7_setOf wN_X7 wC_X7_setOf rfl hy_X7_setOf rfl (Nat.le_of_ble_eq_true rfl) (by decide) (by omega) rfl rfl (by omega) rfl (by omega) rfl ?_
    rintro _ z h ⟨rfl, rfl, rfl⟩
    rcases hs2 : sOf sa s with _ | q2
    · refine V.stk (st' := [_]) rfl ?_
      refine V_astoreN (pc' := 13) (lv' := [_, _, _, _, _]) hX dX7_why_11 (Nat.le_of_ble_eq_true rfl) rfl rfl ?_
      refine V_aload_n (pc' := 14) hX dX7_why_13 rfl rfl ?_
      refine V_ifnull (pc' := 17) hX dX7_why_14 rfl ?_
      refine V_aloadN (pc' := 19) hX dX7_why_17 rfl rfl ?_
      refine V_ifnullN (pc' := 27) hX dX7_why_19 rfl ?_
      refine V_iconst (pc' := 28) (v := (-1)) hX dX7_why_27 (by decide) rfl ?_
      refine V_iret hX hR dX7_why_28 ?_
      first
        | exact ⟨_, rfl, rfl, fr.rf, hP, Or.inl ⟨Or.inl hs1, rfl⟩⟩
        | exact ⟨_, rfl, rfl, fr.rf, hP, Or.inl ⟨Or.inr (Or.inl hs2), rfl⟩⟩
        | exact ⟨_, rfl, rfl, fr.rf, hP, Or.inl ⟨Or.inr (Or.inr (by rw [c24])), rfl⟩⟩
    · obtain ⟨k2, hk312, rfl, hsk2⟩ := sOf_some hs2
      have hkm2 : k2 < mk := Nat.lt_of_not_le (fun e => by rw [hnone k2 e] at hsk2; cases hsk2)
      obtain ⟨hsN2, hqa2, hqb2⟩ := hS.1 k2 q2 hsk2
      obtain ⟨hv2, kf2, wf2, am2, hns2, hO2, hkw2, hw2⟩ := id hsN2
      have ea2 := ns_am hO2 hkw2
      have oa2 := hO2.am
      refine V.stk (st' := [_]) rfl ?_
      refine V_astore (pc' := 13) (lv' := [_, _, _, _, _]) hX dX7_why_11 (Nat.le_of_ble_eq_true rfl) rfl rfl ?_
      refine V_aload_n (pc' := 14) hX dX7_why_13 rfl rfl ?_
      refine V_ifnull (pc' := 17) hX dX7_why_14 rfl ?_
      refine V_aload (pc' := 19) hX dX7_why_17 rfl rfl ?_
      refine V_ifnull (pc' := 22) hX dX7_why_19 rfl ?_
      refine V_iload_n (pc' := 23) hX dX7_why_22 rfl rfl ?_
      refine V_iload_n (pc' := 24) hX dX7_why_23 rfl rfl ?_
      refine V_icmp_neN (pt := 29) (pc' := 27) hX dX7_why_24 hk311 hk312 rfl rfl (fun c24 => ?_) (fun c24 => ?_)
      · refine V_aload_n (pc' := 30) hX dX7_why_29 rfl rfl ?_
        refine V_aload_n (pc' := 31) hX dX7_why_30 rfl rfl ?_
        refine V_aload_n (pc' := 32) hX dX7_why_31 rfl rfl ?_
        refine V_aload_n (pc' := 33) hX dX7_why_32 rfl rfl ?_
        refine V_callV (nA := 1) (pc' := 36) (k' := 0) (n' := 0) hX dX7_why_33 (c_PS_beginningOf k1 q1 hsk1 hP) hx rfl wM_X7_157 wI_X7_beginningOf wL_X7_beginningOf wN_X7 wC_X7_beginningOf rfl hy_X7_beginningOf rfl (Nat.le_of_ble_eq_true rfl) (by decide) (by omega) rfl rfl (by omega) rfl (by omega) rfl ?_
        rintro _ z h ⟨b1, rfl, rfl, rfl, hb1⟩
        refine V.stk (st' := [_, _, _]) rfl ?_
        refine V_aload (pc' := 38) hX dX7_why_36 rfl rfl ?_
        refine V_aload_n (pc' := 39) hX dX7_why_38 rfl rfl ?_
        refine V_aload (pc' := 41) hX dX7_why_39 rfl rfl ?_
        refine V_callV (nA := 1) (pc' := 44) (k' := 0) (n' := 0) hX dX7_why_41 (c_PS_beginningOf k2 q2 hsk2 hP) hx rfl wM_X7_157 wI_X7_beginningOf wL_X7_beginningOf wN_X7 wC_X7_beginningOf rfl hy_X7_beginningOf rfl (Nat.le_of_ble_eq_true rfl) (by decide) (by omega) rfl rfl (by omega) rfl (by omega) rfl ?_
        rintro _ z h ⟨b2, rfl, rfl, rfl, hb2⟩
        refine V.stk (st' := [_, _, _, _, _]) rfl ?_
        refine V_callV (nA := 4) (pc' := 47) (k' := 0) (n' := 0) hX dX7_why_44 (c_PS_fateOf k1 k2 q1 q2 b1 b2 hsk1 hsk2 hb1.1 hb2.1 hP) hx rfl wM_X7_205 wI_X7_fateOf wL_X7_fateOf wN_X7 wC_X7_fateOf rfl hy_X7_fateOf rfl (Nat.le_of_ble_eq_true rfl) (by decide) (by omega) rfl rfl (by omega) rfl (by omega) rfl ?_
        rintro _ z h' ⟨mb, rfl, rfl, g1, g2, g3, g4⟩
        refine V.stk (st' := [_]) rfl ?_
        refine V_iret hX hR dX7_why_47 ?_
        exact ⟨_, rfl, rfl, g1, g4, Or.inr ⟨k1, k2, _, hkm1, hkm2, rfl, rfl, c24, by rw [hsk1]; rfl, by rw [hsk2]; rfl, ⟨b1, b2, mb, hb1, hb2, g3, rfl⟩, rfl⟩⟩
      · refine V_iconst (pc' := 28) (v := (-1)) hX dX7_why_27 (by decide) rfl ?_
        refine V_iret hX hR dX7_why_28 ?_
        first
          | exact ⟨_, rfl, rfl, fr.rf, hP, Or.inl ⟨Or.inl hs1, rfl⟩⟩
          | exact ⟨_, rfl, rfl, fr.rf, hP, Or.inl ⟨Or.inr (Or.inl hs2), rfl⟩⟩
          | exact ⟨_, rfl, rfl, fr.rf, hP, Or.inl ⟨Or.inr (Or.inr (by rw [c24])), rfl⟩⟩
set_option maxRecDepth 100000 in
set_option maxHeartbeats 4000000 in
theorem c_PS_like {G : Gd} {h : AH} {z x : Nat} {mk : Nat} {sa : Nat → Option Nat} {L : Nat → List Nat} {F : Nat → Nat} {W : Nat → Nat} {fn : Nat → Nat} {fv : Nat → Nat} {fs : Nat} {tn : Nat → Nat} {tv : Nat → Nat} {ts : Nat} {kd : Nat} {p : Nat} {q : Nat} {bf : Nat → Nat} {len : Nat} {ta : Nat → Nat} {sp : Nat} {f1 : Nat → Nat} {f2 : Nat → Nat} {f3 : Nat → Nat} {ks : Nat} {ff : Nat → Nat} {fg : Nat} {co : Nat} (r s what : Int32) (hP : psAt G h z x mk sa L (fun _ => F) (fun _ => W) fn fv fs tn tv ts kd p q bf len ta sp f1 f2 f3 ks ff fg co) : Ct G yX7_like cX7_like 12 (some .long) 3 0 0 [.ref x, .int r, .int s, .int what] z h (fun r' z' h' => ∃ y, r' = some (.long y) ∧ z' = z ∧ fr (x + 12) (x + 13) h h' ∧ psAt G h' z x mk sa L (fun _ => F) (fun _ => W) fn fv fs tn tv ts kd p q bf len ta sp f1 f2 f3 ks ff fg co ∧ (((sOf sa r = none ∨ sOf sa s = none ∨ r = s) ∧ y = -1) ∨ ∃ i j, i < mk ∧ j < mk ∧ r = nI i ∧ s = nI j ∧ i ≠ j ∧ (sa i).isSome = true ∧ (sa j).isSome = true ∧ y = likeV kd p q (amL W (L i)) (amL W (L j)) (shL W (L i) (L j)) what)) := by
  refine Ct.of (lv := [_, _, _, _, _, _, _, _, _, _, _, _]) (by decide) (Nat.le_of_ble_eq_true rfl) rfl ?_
  rintro X rfl hX hR hnm
  obtain ⟨⟨hx, hsa⟩, ⟨hF, hFO⟩, ⟨hT, hTO⟩, ⟨hm, hM⟩, ⟨⟨nf, hp⟩, hPO⟩, ⟨s0, s1, s2, ho⟩, ⟨bg, hbg⟩, hta, ⟨⟨ab, bw, hk⟩, hks⟩, ⟨hn, hnO⟩, hS, hmk, hnone, hxz, hco⟩ := id hP
  refine V_aload_n (pc' := 1) hX dX7_like_0 rfl rfl ?_
  refine V_iload_n (pc' := 2) hX dX7_like_1 rfl rfl ?_
  refine V_callV (nA := 1) (pc' := 5) (k' := 0) (n' := 0) hX dX7_like_2 (c_PS_setOf r hP) hx rfl wM_X7_74 wI_X7_setOf wL_X7_setOf wN_X7 wC_X7_setOf rfl hy_X7_setOf rfl (Nat.le_of_ble_eq_true rfl) (by decide) (by omega) rfl rfl (by omega) rfl (by omega) rfl ?_
  rintro _ z h ⟨rfl, rfl, rfl⟩
  rcases hs1 : sOf sa r with _ | q1
  · refine V.stk (st' := [_]) rfl ?_
    refine V_astoreN (pc' := 7) (lv' := [_, _, _, _, _, _, _, _, _, _, _, _]) hX dX7_like_5 (Nat.le_of_ble_eq_true rfl) rfl rfl ?_
    refine V_aload_n (pc' := 8) hX dX7_like_7 rfl rfl ?_
    refine V_iload_n (pc' := 9) hX dX7_like_8 rfl rfl ?_
    refine V_callV (nA := 1) (pc' := 12) (k' := 0) (n' := 0) hX dX7_like_9 (c_PS_setOf s hP) hx rfl wM_X7_74 wI_X7_setOf wL_X7_setOf wN_X7 wC_X7_setOf rfl hy_X7_setOf rfl (Nat.le_of_ble_eq_true rfl) (by decide) (by omega) rfl rfl (by omega) rfl (by omega) rfl ?_
    rintro _ z h ⟨rfl, rfl, rfl⟩
    rcases hs2 : sOf sa s with _ | q2
    · refine V.stk (st' := [_]) rfl ?_
      refine V_astoreN (pc' := 14) (lv' := [_, _, _, _, _, _, _, _, _, _, _, _]) hX dX7_like_12 (Nat.le_of_ble_eq_true rfl) rfl rfl ?_
      refine V_aloadN (pc' := 16) hX dX7_like_14 rfl rfl ?_
      refine V_ifnullN (pc' := 29) hX dX7_like_16 rfl ?_
      refine V_ldc2N (pc' := 32) (v' := (-1)) hX dX7_like_29 wK_X7_178 (by decide) rfl ?_
      refine V_lret hX hR dX7_like_32 ?_
      first
        | exact ⟨_, rfl, rfl, fr.rf, hP, Or.inl ⟨Or.inl hs1, rfl⟩⟩
        | exact ⟨_, rfl, rfl, fr.rf, hP, Or.inl ⟨Or.inr (Or.inl hs2), rfl⟩⟩
        | exact ⟨_, rfl, rfl, fr.rf, hP, Or.inl ⟨Or.inr (Or.inr (by rw [c26])), rfl⟩⟩
    · obtain ⟨k2, hk312, rfl, hsk2⟩ := sOf_some hs2
      have hkm2 : k2 < mk := Nat.lt_of_not_le (fun e => by rw [hnone k2 e] at hsk2; cases hsk2)
      obtain ⟨hsN2, hqa2, hqb2⟩ := hS.1 k2 q2 hsk2
      obtain ⟨hv2, kf2, wf2, am2, hns2, hO2, hkw2, hw2⟩ := id hsN2
      have ea2 := ns_am hO2 hkw2
      have oa2 := hO2.am
      refine V.stk (st' := [_]) rfl ?_
      refine V_astore (pc' := 14) (lv' := [_, _, _, _, _, _, _, _, _, _, _, _]) hX dX7_like_12 (Nat.le_of_ble_eq_true rfl) rfl rfl ?_
      refine V_aloadN (pc' := 16) hX dX7_like_14 rfl rfl ?_
      refine V_ifnullN (pc' := 29) hX dX7_like_16 rfl ?_
      refine V_ldc2N (pc' := 32) (v' := (-1)) hX dX7_like_29 wK_X7_178 (by decide) rfl ?_
      refine V_lret hX hR dX7_like_32 ?_
      first
        | exact ⟨_, rfl, rfl, fr.rf, hP, Or.inl ⟨Or.inl hs1, rfl⟩⟩
        | exact ⟨_, rfl, rfl, fr.rf, hP, Or.inl ⟨Or.inr (Or.inl hs2), rfl⟩⟩
        | exact ⟨_, rfl, rfl, fr.rf, hP, Or.inl ⟨Or.inr (Or.inr (by rw [c26])), rfl⟩⟩
  · obtain ⟨k1, hk311, rfl, hsk1⟩ := sOf_some hs1
    have hkm1 : k1 < mk := Nat.lt_of_not_le (fun e => by rw [hnone k1 e] at hsk1; cases hsk1)
    obtain ⟨hsN1, hqa1, hqb1⟩ := hS.1 k1 q1 hsk1
    obtain ⟨hv1, kf1, wf1, am1, hns1, hO1, hkw1, hw1⟩ := id hsN1
    have ea1 := ns_am hO1 hkw1
    have oa1 := hO1.am
    refine V.stk (st' := [_]) rfl ?_
    refine V_astore (pc' := 7) (lv' := [_, _, _, _, _, _, _, _, _, _, _, _]) hX dX7_like_5 (Nat.le_of_ble_eq_true rfl) rfl rfl ?_
    refine V_aload_n (pc' := 8) hX dX7_like_7 rfl rfl ?_
    refine V_iload_n (pc' := 9) hX dX7_like_8 rfl rfl ?_
    refine V_callV (nA := 1) (pc' := 12) (k' := 0) (n' := 0) hX dX7_like_9 (c_PS_setOf s hP) hx rfl wM_X7_74 wI_X7_setOf wL_X7_setOf wN_X7 wC_X7_setOf rfl hy_X7_setOf rfl (Nat.le_of_ble_eq_true rfl) (by decide) (by omega) rfl rfl (by omega) rfl (by omega) rfl ?_
    rintro _ z h ⟨rfl, rfl, rfl⟩
    rcases hs2 : sOf sa s with _ | q2
    · refine V.stk (st' := [_]) rfl ?_
      refine V_astoreN (pc' := 14) (lv' := [_, _, _, _, _, _, _, _, _, _, _, _]) hX dX7_like_12 (Nat.le_of_ble_eq_true rfl) rfl rfl ?_
      refine V_aload (pc' := 16) hX dX7_like_14 rfl rfl ?_
      refine V_ifnull (pc' := 19) hX dX7_like_16 rfl ?_
      refine V_aloadN (pc' := 21) hX dX7_like_19 rfl rfl ?_
      refine V_ifnullN (pc' := 29) hX dX7_like_21 rfl ?_
      refine V_ldc2N (pc' := 32) (v' := (-1)) hX dX7_like_29 wK_X7_178 (by decide) rfl ?_
      refine V_lret hX hR dX7_like_32 ?_
      first
        | exact ⟨_, rfl, rfl, fr.rf, hP, Or.inl ⟨Or.inl hs1, rfl⟩⟩
        | exact ⟨_, rfl, rfl, fr.rf, hP, Or.inl ⟨Or.inr (Or.inl hs2), rfl⟩⟩
        | exact ⟨_, rfl, rfl, fr.rf, hP, Or.inl ⟨Or.inr (Or.inr (by rw [c26])), rfl⟩⟩
    · obtain ⟨k2, hk312, rfl, hsk2⟩ := sOf_some hs2
      have hkm2 : k2 < mk := Nat.lt_of_not_le (fun e => by rw [hnone k2 e] at hsk2; cases hsk2)
      obtain ⟨hsN2, hqa2, hqb2⟩ := hS.1 k2 q2 hsk2
      obtain ⟨hv2, kf2, wf2, am2, hns2, hO2, hkw2, hw2⟩ := id hsN2
      have ea2 := ns_am hO2 hkw2
      have oa2 := hO2.am
      refine V.stk (st' := [_]) rfl ?_
      refine V_astore (pc' := 14) (lv' := [_, _, _, _, _, _, _, _, _, _, _, _]) hX dX7_like_12 (Nat.le_of_ble_eq_true rfl) rfl rfl ?_
      refine V_aload (pc' := 16) hX dX7_like_14 rfl rfl ?_
      refine V_ifnull (pc' := 19) hX dX7_like_16 rfl ?_
      refine V_aload (pc' := 21) hX dX7_like_19 rfl rfl ?_
      refine V_ifnull (pc' := 24) hX dX7_like_21 rfl ?_
      refine V_iload_n (pc' := 25) hX dX7_like_24 rfl rfl ?_
      refine V_iload_n (pc' := 26) hX dX7_like_25 rfl rfl ?_
      refine V_icmp_neN (pt := 33) (pc' := 29) hX dX7_like_26 hk311 hk312 rfl rfl (fun c26 => ?_) (fun c26 => ?_)
      · refine V_aload_n (pc' := 34) hX dX7_like_33 rfl rfl ?_
        refine V_get (pc' := 37) hX dX7_like_34 hx rfl inX7 6 (by decide) wF_X7_44 rfl rfl ?_
        refine V_aload (pc' := 39) hX dX7_like_37 rfl rfl ?_
        refine V_iconst (pc' := 40) (v := nI 0) hX dX7_like_39 (by decide) rfl ?_
        refine V_aload (pc' := 42) hX dX7_like_40 rfl rfl ?_
        refine V_iconst (pc' := 43) (v := nI 0) hX dX7_like_42 (by decide) rfl ?_
        refine V_callV (nA := 4) (pc' := 46) (k' := 0) (n' := 0) hX dX7_like_43 (c_Ov_compare 0 0 (Nat.zero_le _) (Nat.zero_le _) ho (by omega) (by omega) hns1 hO1 hns2 hO2 hw1) ho rfl wM_X7_180 wI_X4_compare wL_X4_compare wN_X4 wC_X4_compare rfl hy_X4_compare rfl (Nat.le_of_ble_eq_true rfl) (by decide) (by omega) rfl rfl (by omega) rfl (by omega) rfl ?_
        rintro _ z h' ⟨rfl, rfl, q1f, mb, q2, q3⟩
        have hP0 := hP
        have hP := hP.uO q2 q1f
        have hns1 := hns1.kept q1f (by omega)
        have hns2 := hns2.kept q1f (by omega)
        rw [ns_sh hv1 hv2 hkw1 hkw2] at q2
        
        obtain ⟨⟨hx, hsa⟩, ⟨hF, hFO⟩, ⟨hT, hTO⟩, ⟨hm, hM⟩, ⟨⟨nf, hp⟩, hPO⟩, ⟨s0, s1, s2, ho⟩, ⟨bg, hbg⟩, hta, ⟨⟨ab, bw, hk⟩, hks⟩, ⟨hn, hnO⟩, hS, hmk, hnone, hxz, hco⟩ := id hP
        have hshl := shL_le W (L k1) (L k2)
        have hpos := shL_pos (w := W) (L := L k1) (M := L k2)
        rw [← ea2] at hpos
        obtain ⟨sh, esh⟩ : ∃ sh, sh = shL W (L k1) (L k2) := ⟨_, rfl⟩
        rw [← esh] at q2 hshl hpos
        have l3 := aboveN_bd (kd := kd) (s := sh) (by omega)
        have l4 := belowN_bd (kd := kd) (a := am1) (b := am2) (s := sh) (by omega) (by omega)
        have l5 := belowN_pos2 (kd := kd) (a := am1) (b := am2) (s := sh) (by omega) hpos
        refine V.stk (st' := []) rfl ?_
        refine V_aload_n (pc' := 47) hX dX7_like_46 rfl rfl ?_
        refine V_get (pc' := 50) hX dX7_like_47 hx rfl inX7 6 (by decide) wF_X7_44 rfl rfl ?_
        refine V_getN (pc' := 53) hX dX7_like_50 q2 rfl inX4 0 (by decide) wFn_X7_184 rfl rfl ?_
        refine V_i2lN (pc' := 54) hX dX7_like_53 (by omega) rfl ?_
        refine V_lstore (pc' := 56) (lv' := [_, _, _, _, _, _, _, _, _, _, _, _]) hX dX7_like_54 (Nat.le_of_ble_eq_true rfl) rfl rfl ?_
        refine V_aload_n (pc' := 57) hX dX7_like_56 rfl rfl ?_
        refine V_get (pc' := 60) hX dX7_like_57 hx rfl inX7 4 (by decide) wF_X7_30 rfl rfl ?_
        refine V_lload (pc' := 62) hX dX7_like_60 rfl rfl ?_
        refine V_aload (pc' := 64) hX dX7_like_62 rfl rfl ?_
        refine V_getN (pc' := 67) hX dX7_like_64 hns1.1 rfl inX3 3 (by decide) wFn_X7_150 rfl rfl ?_
        refine V_i2lN (pc' := 68) hX dX7_like_67 (by omega) rfl ?_
        refine V_aload (pc' := 70) hX dX7_like_68 rfl rfl ?_
        refine V_getN (pc' := 73) hX dX7_like_70 hns2.1 rfl inX3 3 (by decide) wFn_X7_150 rfl rfl ?_
        refine V_i2lN (pc' := 74) hX dX7_like_73 (by omega) rfl ?_
        refine V_callV (nA := 3) (pc' := 77) (k' := 0) (n' := 0) hX dX7_like_74 (c_Ms_above sh am1 am2 hm hM) hm rfl wM_X7_187 wI_X1_likenessAbove wL_X1_likenessAbove wN_X1 wC_X1_likenessAbove rfl hy_X1_likenessAbove rfl (Nat.le_of_ble_eq_true rfl) (by decide) (by omega) rfl rfl (by omega) rfl (by omega) rfl ?_
        rintro _ z h' ⟨rfl, rfl, rfl⟩
        refine V.stk (st' := [_]) rfl ?_
        refine V_lstore (pc' := 79) (lv' := [_, _, _, _, _, _, _, _, _, _, _, _]) hX dX7_like_77 (Nat.le_of_ble_eq_true rfl) rfl rfl ?_
        refine V_aload_n (pc' := 80) hX dX7_like_79 rfl rfl ?_
        refine V_get (pc' := 83) hX dX7_like_80 hx rfl inX7 4 (by decide) wF_X7_30 rfl rfl ?_
        refine V_lload (pc' := 85) hX dX7_like_83 rfl rfl ?_
        refine V_aload (pc' := 87) hX dX7_like_85 rfl rfl ?_
        refine V_getN (pc' := 90) hX dX7_like_87 hns1.1 rfl inX3 3 (by decide) wFn_X7_150 rfl rfl ?_
        refine V_i2lN (pc' := 91) hX dX7_like_90 (by omega) rfl ?_
        refine V_aload (pc' := 93) hX dX7_like_91 rfl rfl ?_
        refine V_getN (pc' := 96) hX dX7_like_93 hns2.1 rfl inX3 3 (by decide) wFn_X7_150 rfl rfl ?_
        refine V_i2lN (pc' := 97) hX dX7_like_96 (by omega) rfl ?_
        refine V_callV (nA := 3) (pc' := 100) (k' := 0) (n' := 0) hX dX7_like_97 (c_Ms_below sh am1 am2 (by omega) (by omega) (by omega) hm hM) hm rfl wM_X7_191 wI_X1_likenessBelow wL_X1_likenessBelow wN_X1 wC_X1_likenessBelow rfl hy_X1_likenessBelow rfl (Nat.le_of_ble_eq_true rfl) (by decide) (by omega) rfl rfl (by omega) rfl (by omega) rfl ?_
        rintro _ z h' ⟨rfl, rfl, rfl⟩
        refine V.stk (st' := [_]) rfl ?_
        refine V_lstore (pc' := 102) (lv' := [_, _, _, _, _, _, _, _, _, _, _, _]) hX dX7_like_100 (Nat.le_of_ble_eq_true rfl) rfl rfl ?_
        refine V_iload_n (pc' := 103) hX dX7_like_102 rfl rfl ?_
        rcases pk_ix what (n := 5) (by omega) with hsw | hsw | ⟨j, hj, rfl⟩
        · have hsw : what.toInt < 0 ∨ 4 < what.toInt := Or.inl (by rw [i32_lt] at hsw; exact hsw)
          refine V_tableOut (pc' := 209) hX dX7_like_103 hsw rfl ?_
          refine V_ldc2N (pc' := 212) (v' := (-1)) hX dX7_like_209 wK_X7_178 (by decide) rfl ?_
          refine V_lret hX hR dX7_like_212 ?_
          exact ⟨_, rfl, rfl, q1f, hP, Or.inr ⟨k1, k2, hkm1, hkm2, rfl, rfl, c26, by rw [hsk1]; rfl, by rw [hsk2]; rfl, (likeV_out hsw).symm⟩⟩
        · have hsw : what.toInt < 0 ∨ 4 < what.toInt := Or.inr (by rw [i32_le, nI_toInt (by omega)] at hsw; omega)
          refine V_tableOut (pc' := 209) hX dX7_like_103 hsw rfl ?_
          refine V_ldc2N (pc' := 212) (v' := (-1)) hX dX7_like_209 wK_X7_178 (by decide) rfl ?_
          refine V_lret hX hR dX7_like_212 ?_
          exact ⟨_, rfl, rfl, q1f, hP, Or.inr ⟨k1, k2, hkm1, hkm2, rfl, rfl, c26, by rw [hsk1]; rfl, by rw [hsk2]; rfl, (likeV_out hsw).symm⟩⟩
        · rcases (show j = 0 ∨ j = 1 ∨ j = 2 ∨ j = 3 ∨ j = 4 by omega) with rfl | rfl | rfl | rfl | rfl
          · refine V_tableIn (pc' := 136) hX dX7_like_103 (by decide) (by decide) rfl rfl ?_
            refine V_lload (pc' := 138) hX dX7_like_136 rfl rfl ?_
            refine V_lret hX hR dX7_like_138 ?_
            exact ⟨_, rfl, rfl, q1f, hP, Or.inr ⟨k1, k2, hkm1, hkm2, rfl, rfl, c26, by rw [hsk1]; rfl, by rw [hsk2]; rfl, by rw [← ea1, ← ea2, ← esh]; rfl⟩⟩
          · refine V_tableIn (pc' := 139) hX dX7_like_103 (by decide) (by decide) rfl rfl ?_
            refine V_aload_n (pc' := 140) hX dX7_like_139 rfl rfl ?_
            refine V_get (pc' := 143) hX dX7_like_140 hx rfl inX7 4 (by decide) wF_X7_30 rfl rfl ?_
            refine V_aload (pc' := 145) hX dX7_like_143 rfl rfl ?_
            refine V_getN (pc' := 148) hX dX7_like_145 hns1.1 rfl inX3 3 (by decide) wFn_X7_150 rfl rfl ?_
            refine V_i2lN (pc' := 149) hX dX7_like_148 (by omega) rfl ?_
            refine V_aload (pc' := 151) hX dX7_like_149 rfl rfl ?_
            refine V_getN (pc' := 154) hX dX7_like_151 hns2.1 rfl inX3 3 (by decide) wFn_X7_150 rfl rfl ?_
            refine V_i2lN (pc' := 155) hX dX7_like_154 (by omega) rfl ?_
            refine V_callV (nA := 2) (pc' := 158) (k' := 0) (n' := 0) hX dX7_like_155 (c_Ms_needed am1 am2 (by omega) (by omega) hm hM) hm rfl wM_X7_194 wI_X1_needed wL_X1_needed wN_X1 wC_X1_needed rfl hy_X1_needed rfl (Nat.le_of_ble_eq_true rfl) (by decide) (by omega) rfl rfl (by omega) rfl (by omega) rfl ?_
            rintro _ z h' ⟨rfl, rfl, rfl⟩
            refine V.stk (st' := [_]) rfl ?_
            refine V_lret hX hR dX7_like_158 ?_
            exact ⟨_, rfl, rfl, q1f, hP, Or.inr ⟨k1, k2, hkm1, hkm2, rfl, rfl, c26, by rw [hsk1]; rfl, by rw [hsk2]; rfl, by rw [← ea1, ← ea2, ← esh]; rfl⟩⟩
          · refine V_tableIn (pc' := 159) hX dX7_like_103 (by decide) (by decide) rfl rfl ?_
            refine V_lload (pc' := 161) hX dX7_like_159 rfl rfl ?_
            refine V_lload (pc' := 163) hX dX7_like_161 rfl rfl ?_
            refine V_lload (pc' := 165) hX dX7_like_163 rfl rfl ?_
            refine V_callS (nA := 3) (pc' := 168) (k' := 0) (n' := 0) hX dX7_like_165 (c_Ms_gcd (aboveN kd sh) (aboveN kd sh) (belowN kd am1 am2 sh) (by omega) l3 l5 l4) wM_X7_198 wS_X1_withoutDivisor wN_X1 wC_X1_withoutDivisor rfl hy_X1_withoutDivisor rfl (Nat.le_of_ble_eq_true rfl) (by decide) (by omega) rfl rfl (by omega) rfl (by omega) rfl ?_
            rintro _ z h' ⟨rfl, rfl, rfl⟩
            refine V.stk (st' := [_]) rfl ?_
            refine V_lret hX hR dX7_like_168 ?_
            exact ⟨_, rfl, rfl, q1f, hP, Or.inr ⟨k1, k2, hkm1, hkm2, rfl, rfl, c26, by rw [hsk1]; rfl, by rw [hsk2]; rfl, by rw [← ea1, ← ea2, ← esh]; rfl⟩⟩
          · refine V_tableIn (pc' := 169) hX dX7_like_103 (by decide) (by decide) rfl rfl ?_
            refine V_lload (pc' := 171) hX dX7_like_169 rfl rfl ?_
            refine V_lload (pc' := 173) hX dX7_like_171 rfl rfl ?_
            refine V_lload (pc' := 175) hX dX7_like_173 rfl rfl ?_
            refine V_callS (nA := 3) (pc' := 178) (k' := 0) (n' := 0) hX dX7_like_175 (c_Ms_gcd (belowN kd am1 am2 sh) (aboveN kd sh) (belowN kd am1 am2 sh) (by omega) l3 l5 l4) wM_X7_198 wS_X1_withoutDivisor wN_X1 wC_X1_withoutDivisor rfl hy_X1_withoutDivisor rfl (Nat.le_of_ble_eq_true rfl) (by decide) (by omega) rfl rfl (by omega) rfl (by omega) rfl ?_
            rintro _ z h' ⟨rfl, rfl, rfl⟩
            refine V.stk (st' := [_]) rfl ?_
            refine V_lret hX hR dX7_like_178 ?_
            exact ⟨_, rfl, rfl, q1f, hP, Or.inr ⟨k1, k2, hkm1, hkm2, rfl, rfl, c26, by rw [hsk1]; rfl, by rw [hsk2]; rfl, by rw [← ea1, ← ea2, ← esh]; rfl⟩⟩
          · refine V_tableIn (pc' := 179) hX dX7_like_103 (by decide) (by decide) rfl rfl ?_
            refine V_aload_n (pc' := 180) hX dX7_like_179 rfl rfl ?_
            refine V_get (pc' := 183) hX dX7_like_180 hx rfl inX7 4 (by decide) wF_X7_30 rfl rfl ?_
            refine V_lload (pc' := 185) hX dX7_like_183 rfl rfl ?_
            refine V_aload (pc' := 187) hX dX7_like_185 rfl rfl ?_
            refine V_getN (pc' := 190) hX dX7_like_187 hns1.1 rfl inX3 3 (by decide) wFn_X7_150 rfl rfl ?_
            refine V_i2lN (pc' := 191) hX dX7_like_190 (by omega) rfl ?_
            refine V_aload (pc' := 193) hX dX7_like_191 rfl rfl ?_
            refine V_getN (pc' := 196) hX dX7_like_193 hns2.1 rfl inX3 3 (by decide) wFn_X7_150 rfl rfl ?_
            refine V_i2lN (pc' := 197) hX dX7_like_196 (by omega) rfl ?_
            refine V_callV (nA := 3) (pc' := 200) (k' := 0) (n' := 0) hX dX7_like_197 (c_Ms_isReached sh am1 am2 (by omega) (by omega) (by omega) (by omega) hm hM) hm rfl wM_X7_201 wI_X1_isReached wL_X1_isReached wN_X1 wC_X1_isReached rfl hy_X1_isReached rfl (Nat.le_of_ble_eq_true rfl) (by decide) (by omega) rfl rfl (by omega) rfl (by omega) rfl ?_
            rintro _ z h' ⟨rfl, rfl, rfl⟩
            refine V.stk (st' := [_]) rfl ?_
            refine V_if_eqB (pt := 207) (pc' := 203) hX dX7_like_200 rfl rfl (fun c200 => ?_) (fun c200 => ?_)
            · refine V_lconst (pc' := 208) (v := lN 0) hX dX7_like_207 rfl rfl ?_
              refine V_lret hX hR dX7_like_208 ?_
              exact ⟨_, rfl, rfl, q1f, hP, Or.inr ⟨k1, k2, hkm1, hkm2, rfl, rfl, c26, by rw [hsk1]; rfl, by rw [hsk2]; rfl, by rw [← ea1, ← ea2, ← esh]; show _ = if reachN kd p q am1 am2 sh = true then _ else _; rw [if_neg (by rw [c200]; decide)]⟩⟩
            · refine V_lconst (pc' := 204) (v := lN 1) hX dX7_like_203 rfl rfl ?_
              refine V_goto (pc' := 208) hX dX7_like_204 rfl ?_
              refine V_lret hX hR dX7_like_208 ?_
              exact ⟨_, rfl, rfl, q1f, hP, Or.inr ⟨k1, k2, hkm1, hkm2, rfl, rfl, c26, by rw [hsk1]; rfl, by rw [hsk2]; rfl, by rw [← ea1, ← ea2, ← esh]; show _ = if reachN kd p q am1 am2 sh = true then _ else _; rw [if_pos c200]⟩⟩
      · refine V_ldc2N (pc' := 32) (v' := (-1)) hX dX7_like_29 wK_X7_178 (by decide) rfl ?_
        refine V_lret hX hR dX7_like_32 ?_
        first
          | exact ⟨_, rfl, rfl, fr.rf, hP, Or.inl ⟨Or.inl hs1, rfl⟩⟩
          | exact ⟨_, rfl, rfl, fr.rf, hP, Or.inl ⟨Or.inr (Or.inl hs2), rfl⟩⟩
          | exact ⟨_, rfl, rfl, fr.rf, hP, Or.inl ⟨Or.inr (Or.inr (by rw [c26])), rfl⟩⟩
