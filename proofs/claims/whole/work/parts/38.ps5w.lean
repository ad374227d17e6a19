set_option maxRecDepth 100000 in
set_option maxHeartbeats 4000000 in
theorem c_PS_put {G : Gd} {h : AH} {z x : Nat} {mk : Nat} {sa : Nat → Option Nat} {L : Nat → List Nat} {F : Nat → Nat} {W : Nat → Nat} {fn : Nat → Nat} {fv : Nat → Nat} {fs : Nat} {tn : Nat → Nat} {tv : Nat → Nat} {ts : Nat} {kd : Nat} {p : Nat} {q : Nat} {bf : Nat → Nat} {len : Nat} {ta : Nat → Nat} {sp : Nat} {f1 : Nat → Nat} {f2 : Nat → Nat} {f3 : Nat → Nat} {ks : Nat} {ff : Nat → Nat} {fg : Nat} {co : Nat} (r v : Int32) (hFe : F = tF fn fv fs) (hF60 : ∀ v, F v ≤ 60) (hWe : W = wtF kd tn tv ts) (hW1 : ∀ v, 1 ≤ W v ∧ W v ≤ 100) (hP : psAt G h z x mk sa L (fun _ => F) (fun _ => W) fn fv fs tn tv ts kd p q bf len ta sp f1 f2 f3 ks ff fg co) : Ct G yX7_put cX7_put 4 (some .boolean) 3 0 0 [.ref x, .int r, .int v] z h (fun r' z' h' => z' = z ∧ frO x z sa h h' ∧ (((sOf sa r = none ∨ isNumB v = false ∨ ∃ i k, i < mk ∧ r = nI i ∧ (sa i).isSome = true ∧ v = nI k ∧ (k ∈ L i ∨ (L i).length = 30)) ∧ r' = some (.int (bI false)) ∧ h' = h) ∨ ∃ i k L', i < mk ∧ r = nI i ∧ (sa i).isSome = true ∧ k < 1000000 ∧ v = nI k ∧ k ∉ L i ∧ (L i).length < 30 ∧ L'.Perm (k :: L i) ∧ r' = some (.int (bI true)) ∧ psAt G h' z x mk sa (va_up L i L') (fun _ => F) (fun _ => W) fn fv fs tn tv ts kd p q bf len ta sp f1 f2 f3 ks ff (fg ||| 2 ^ i) co)) := by
  refine Ct.of (lv := [_, _, _, _]) (by decide) (Nat.le_of_ble_eq_true rfl) rfl ?_
  rintro X rfl hX hR hnm
  obtain ⟨⟨hx, hsa⟩, ⟨hF, hFO⟩, ⟨hT, hTO⟩, ⟨hm, hM⟩, ⟨⟨nf, hp⟩, hPO⟩, ⟨s0, s1, s2, ho⟩, ⟨bg, hbg⟩, hta, ⟨⟨ab, bw, hk⟩, hks⟩, ⟨hn, hnO⟩, hS, hmk, hnone, hxz, hco⟩ := id hP
  refine V_aload_n (pc' := 1) hX dX7_put_0 rfl rfl ?_
  refine V_iload_n (pc' := 2) hX dX7_put_1 rfl rfl ?_
  refine V_callV (nA := 1) (pc' := 5) (k' := 0) (n' := 0) hX dX7_put_2 (c_PS_setOf r hP) hx rfl wM_X7_74 wI_X7_setOf wL_X7_setOf wN_X7 wC_X7_setOf rfl hy_X7_setOf rfl (Nat.le_of_ble_eq_true rfl) (by decide) (by omega) rfl rfl (by omega) rfl (by omega) rfl ?_
  rintro _ z h ⟨rfl, rfl, rfl⟩
  rcases hs1 : sOf sa r with _ | q1
  · refine V.stk (st' := [_]) rfl ?_
    refine V_astore_nN (pc' := 6) (lv' := [_, _, _, _]) hX dX7_put_5 (Nat.le_of_ble_eq_true rfl) rfl rfl ?_
    refine V_aload_nN (pc' := 7) hX dX7_put_6 rfl rfl ?_
    refine V_ifnullN (pc' := 37) hX dX7_put_7 rfl ?_
    refine V_iconst (pc' := 38) (v := nI 0) hX dX7_put_37 (by decide) rfl ?_
    refine V_zret hX hR dX7_put_38 (by rfl) ?_
    first
      | exact ⟨rfl, frO.rf, Or.inl ⟨Or.inl hs1, rfl, rfl⟩⟩
      | exact ⟨rfl, frO.rf, Or.inl ⟨Or.inr (Or.inl c14), rfl, rfl⟩⟩
      | (refine ⟨rfl, frO.rf, Or.inl ⟨Or.inr (Or.inr ⟨k1, k9, hkm1, rfl, by rw [hsk1]; rfl, rfl, ?_⟩), rfl, rfl⟩⟩
         rcases hbad with e | ⟨j, j1, j2⟩
         · exact Or.inr e
         · rw [(hkw1 j j1).1] at j2
           exact Or.inl (mem_getD.mpr ⟨j, j1, kyF_inj (hv1 _ (getD_mem j1)) hk9 j2⟩))
  · obtain ⟨k1, hk311, rfl, hsk1⟩ := sOf_some hs1
    have hkm1 : k1 < mk := Nat.lt_of_not_le (fun e => by rw [hnone k1 e] at hsk1; cases hsk1)
    obtain ⟨hsN1, hqa1, hqb1⟩ := hS.1 k1 q1 hsk1
    obtain ⟨hv1, kf1, wf1, am1, hns1, hO1, hkw1, hw1⟩ := id hsN1
    have ea1 := ns_am hO1 hkw1
    have oa1 := hO1.am
    refine V.stk (st' := [_]) rfl ?_
    refine V_astore_n (pc' := 6) (lv' := [_, _, _, _]) hX dX7_put_5 (Nat.le_of_ble_eq_true rfl) rfl rfl ?_
    refine V_aload_n (pc' := 7) hX dX7_put_6 rfl rfl ?_
    refine V_ifnull (pc' := 10) hX dX7_put_7 rfl ?_
    refine V_iload_n (pc' := 11) hX dX7_put_10 rfl rfl ?_
    refine V_callS (nA := 1) (pc' := 14) (k' := 0) (n' := 0) hX dX7_put_11 (c_PS_isNumber v) wM_X7_81 wS_X7_isNumber wN_X7 wC_X7_isNumber rfl hy_X7_isNumber rfl (Nat.le_of_ble_eq_true rfl) (by decide) (by omega) rfl rfl (by omega) rfl (by omega) rfl ?_
    rintro _ z h ⟨rfl, rfl, rfl⟩
    refine V.stk (st' := [_]) rfl ?_
    refine V_if_eqB (pt := 37) (pc' := 17) hX dX7_put_14 rfl rfl (fun c14 => ?_) (fun c14 => ?_)
    · refine V_iconst (pc' := 38) (v := nI 0) hX dX7_put_37 (by decide) rfl ?_
      refine V_zret hX hR dX7_put_38 (by rfl) ?_
      first
        | exact ⟨rfl, frO.rf, Or.inl ⟨Or.inl hs1, rfl, rfl⟩⟩
        | exact ⟨rfl, frO.rf, Or.inl ⟨Or.inr (Or.inl c14), rfl, rfl⟩⟩
        | (refine ⟨rfl, frO.rf, Or.inl ⟨Or.inr (Or.inr ⟨k1, k9, hkm1, rfl, by rw [hsk1]; rfl, rfl, ?_⟩), rfl, rfl⟩⟩
           rcases hbad with e | ⟨j, j1, j2⟩
           · exact Or.inr e
           · rw [(hkw1 j j1).1] at j2
             exact Or.inl (mem_getD.mpr ⟨j, j1, kyF_inj (hv1 _ (getD_mem j1)) hk9 j2⟩))
    · obtain ⟨k9, hk9, rfl⟩ := isNumB_nI c14
      have hFk := hF60 k9
      have hWk := hW1 k9
      have hkey : kyF F k9 < 100000000 := by unfold kyF; omega
      refine V_aload_n (pc' := 18) hX dX7_put_17 rfl rfl ?_
      refine V_iload_n (pc' := 19) hX dX7_put_18 rfl rfl ?_
      refine V_aload_n (pc' := 20) hX dX7_put_19 rfl rfl ?_
      refine V_get (pc' := 23) hX dX7_put_20 hx rfl inX7 2 (by decide) wF_X7_20 rfl rfl ?_
      refine V_callS (nA := 2) (pc' := 26) (k' := 0) (n' := 0) hX dX7_put_23 (c_NS_keyOf k9 hk9 hF hFO) wM_X7_85 wS_X3_keyOf wN_X3 wC_X3_keyOf rfl hy_X3_keyOf rfl (Nat.le_of_ble_eq_true rfl) (by decide) (by omega) rfl rfl (by omega) rfl (by omega) rfl ?_
      rintro _ z h ⟨rfl, rfl, rfl⟩
      rw [← hFe]
      refine V.stk (st' := [_, _]) rfl ?_
      refine V_aload_n (pc' := 27) hX dX7_put_26 rfl rfl ?_
      refine V_iload_n (pc' := 28) hX dX7_put_27 rfl rfl ?_
      refine V_callV (nA := 1) (pc' := 31) (k' := 0) (n' := 0) hX dX7_put_28 (c_PS_weightOf k9 hk9 hP) hx rfl wM_X7_89 wI_X7_weightOf wL_X7_weightOf wN_X7 wC_X7_weightOf rfl hy_X7_weightOf rfl (Nat.le_of_ble_eq_true rfl) (by decide) (by omega) rfl rfl (by omega) rfl (by omega) rfl ?_
      rintro _ z h ⟨rfl, rfl, rfl⟩
      rw [← hWe]
      refine V.stk (st' := [_, _, _]) rfl ?_
      refine V_callV (nA := 2) (pc' := 34) (k' := 0) (n' := 0) hX dX7_put_31 (c_NS_insert (kyF F k9) (W k9) hkey hWk.2 hns1 hO1) hns1.1 rfl wM_X7_93 wI_X3_insert wL_X3_insert wN_X3 wC_X3_insert rfl hy_X3_insert rfl (Nat.le_of_ble_eq_true rfl) (by decide) (by omega) rfl rfl (by omega) rfl (by omega) rfl ?_
      rintro _ z h' ⟨b, rfl, rfl, g1, g2⟩
      refine V.stk (st' := [_]) rfl ?_
      refine V_if_neB (pt := 39) (pc' := 37) hX dX7_put_34 rfl rfl (fun c34 => ?_) (fun c34 => ?_)
      · obtain ⟨g3, g4, q3, kf', wf', p9, q4, q5, q6⟩ := g2 c34
        have hnm : k9 ∉ L k1 := fun hm => by
          obtain ⟨j, j1, j2⟩ := mem_getD.mp hm
          exact g4 j j1 (by rw [(hkw1 j j1).1, j2])
        have hP1 := hP.uS hsk1 (nsR.ins hv1 hk9 hkw1 hw1 hWk.1 q6 q4 q5) q3
        rw [va_up_const, va_up_const] at hP1
        obtain ⟨⟨hx, hsa⟩, ⟨hF, hFO⟩, ⟨hT, hTO⟩, ⟨hm, hM⟩, ⟨⟨nf, hp⟩, hPO⟩, ⟨s0, s1, s2, ho⟩, ⟨bg, hbg⟩, hta, ⟨⟨ab, bw, hk⟩, hks⟩, ⟨hn, hnO⟩, hS, hmk, hnone, hxz, hco⟩ := id hP1
        refine V_aload_n (pc' := 40) hX dX7_put_39 rfl rfl ?_
        refine V_get (pc' := 43) hX dX7_put_40 hx rfl inX7 11 (by decide) wF_X7_65 rfl rfl ?_
        refine V_iload_n (pc' := 44) hX dX7_put_43 rfl rfl ?_
        refine V_callV (nA := 1) (pc' := 47) (k' := 0) (n' := 0) hX dX7_put_44 (c_Nt_forget k1 (by omega) hn hnO) hn.1 rfl wM_X7_78 wI_X2_forget wL_X2_forget wN_X2 wC_X2_forget rfl hy_X2_forget rfl (Nat.le_of_ble_eq_true rfl) (by decide) (by omega) rfl rfl (by omega) rfl (by omega) rfl ?_
        rintro _ z h2 ⟨rfl, rfl, r1, r2⟩
        refine V.stk (st' := []) rfl ?_
        refine V_iconst (pc' := 48) (v := nI 1) hX dX7_put_47 (by decide) rfl ?_
        refine V_zret hX hR dX7_put_48 (by rfl) ?_
        exact ⟨rfl, (frO.set q3 hsk1).tr (frO.of r2 (by omega) (by omega)), Or.inr ⟨k1, k9, _, hkm1, rfl, by rw [hsk1]; rfl, hk9, rfl, hnm, g3, ins_perm _ _ _, rfl, hP1.uN r1 ⟨hnO.1, Nat.or_lt_two_pow hnO.2 (pow_lt60 (by omega))⟩ r2⟩⟩
      · obtain ⟨rfl, hbad⟩ := g1 c34
        refine V_iconst (pc' := 38) (v := nI 0) hX dX7_put_37 (by decide) rfl ?_
        refine V_zret hX hR dX7_put_38 (by rfl) ?_
        first
          | exact ⟨rfl, frO.rf, Or.inl ⟨Or.inl hs1, rfl, rfl⟩⟩
          | exact ⟨rfl, frO.rf, Or.inl ⟨Or.inr (Or.inl c14), rfl, rfl⟩⟩
          | (refine ⟨rfl, frO.rf, Or.inl ⟨Or.inr (Or.inr ⟨k1, k9, hkm1, rfl, by rw [hsk1]; rfl, rfl, ?_⟩), rfl, rfl⟩⟩
             rcases hbad with e | ⟨j, j1, j2⟩
             · exact Or.inr e
             · rw [(hkw1 j j1).1] at j2
               exact Or.inl (mem_getD.mpr ⟨j, j1, kyF_inj (hv1 _ (getD_mem j1)) hk9 j2⟩))
set_option maxRecDepth 100000 in
set_option maxHeartbeats 4000000 in
theorem c_PS_take {G : Gd} {h : AH} {z x : Nat} {mk : Nat} {sa : Nat → Option Nat} {L : Nat → List Nat} {F : Nat → Nat} {W : Nat → Nat} {fn : Nat → Nat} {fv : Nat → Nat} {fs : Nat} {tn : Nat → Nat} {tv : Nat → Nat} {ts : Nat} {kd : Nat} {p : Nat} {q : Nat} {bf : Nat → Nat} {len : Nat} {ta : Nat → Nat} {sp : Nat} {f1 : Nat → Nat} {f2 : Nat → Nat} {f3 : Nat → Nat} {ks : Nat} {ff : Nat → Nat} {fg : Nat} {co : Nat} (r v : Int32) (hFe : F = tF fn fv fs) (hF60 : ∀ v, F v ≤ 60) (hWe : W = wtF kd tn tv ts) (hW1 : ∀ v, 1 ≤ W v ∧ W v ≤ 100) (hP : psAt G h z x mk sa L (fun _ => F) (fun _ => W) fn fv fs tn tv ts kd p q bf len ta sp f1 f2 f3 ks ff fg co) : Ct G yX7_take cX7_take 4 (some .boolean) 3 0 0 [.ref x, .int r, .int v] z h (fun r' z' h' => z' = z ∧ frO x z sa h h' ∧ (((sOf sa r = none ∨ isNumB v = false ∨ ∃ i k, i < mk ∧ r = nI i ∧ (sa i).isSome = true ∧ v = nI k ∧ k < 1000000 ∧ k ∉ L i) ∧ r' = some (.int (bI false)) ∧ h' = h) ∨ ∃ i k L', i < mk ∧ r = nI i ∧ (sa i).isSome = true ∧ k < 1000000 ∧ v = nI k ∧ (L i).Perm (k :: L') ∧ r' = some (.int (bI true)) ∧ psAt G h' z x mk sa (va_up L i L') (fun _ => F) (fun _ => W) fn fv fs tn tv ts kd p q bf len ta sp f1 f2 f3 ks ff (fg ||| 2 ^ i) co)) := by
  refine Ct.of (lv := [_, _, _, _]) (by decide) (Nat.le_of_ble_eq_true rfl) rfl ?_
  rintro X rfl hX hR hnm
  obtain ⟨⟨hx, hsa⟩, ⟨hF, hFO⟩, ⟨hT, hTO⟩, ⟨hm, hM⟩, ⟨⟨nf, hp⟩, hPO⟩, ⟨s0, s1, s2, ho⟩, ⟨bg, hbg⟩, hta, ⟨⟨ab, bw, hk⟩, hks⟩, ⟨hn, hnO⟩, hS, hmk, hnone, hxz, hco⟩ := id hP
  refine V_aload_n (pc' := 1) hX dX7_take_0 rfl rfl ?_
  refine V_iload_n (pc' := 2) hX dX7_take_1 rfl rfl ?_
  refine V_callV (nA := 1) (pc' := 5) (k' := 0) (n' := 0) hX dX7_take_2 (c_PS_setOf r hP) hx rfl wM_X7_74 wI_X7_setOf wL_X7_setOf wN_X7 wC_X7_setOf rfl hy_X7_setOf rfl (Nat.le_of_ble_eq_true rfl) (by decide) (by omega) rfl rfl (by omega) rfl (by omega) rfl ?_
  rintro _ z h ⟨rfl, rfl, rfl⟩
  rcases hs1 : sOf sa r with _ | q1
  · refine V.stk (st' := [_]) rfl ?_
    refine V_astore_nN (pc' := 6) (lv' := [_, _, _, _]) hX dX7_take_5 (Nat.le_of_ble_eq_true rfl) rfl rfl ?_
    refine V_aload_nN (pc' := 7) hX dX7_take_6 rfl rfl ?_
    refine V_ifnullN (pc' := 32) hX dX7_take_7 rfl ?_
    refine V_iconst (pc' := 33) (v := nI 0) hX dX7_take_32 (by decide) rfl ?_
    refine V_zret hX hR dX7_take_33 (by rfl) ?_
    first
      | exact ⟨rfl, frO.rf, Or.inl ⟨Or.inl hs1, rfl, rfl⟩⟩
      | exact ⟨rfl, frO.rf, Or.inl ⟨Or.inr (Or.inl c14), rfl, rfl⟩⟩
      | (refine ⟨rfl, frO.rf, Or.inl ⟨Or.inr (Or.inr ⟨k1, k9, hkm1, rfl, by rw [hsk1]; rfl, rfl, hk9, fun hm => ?_⟩), rfl, rfl⟩⟩
         obtain ⟨j, j1, j2⟩ := mem_getD.mp hm
         exact hbad j j1 (by rw [(hkw1 j j1).1, j2]))
  · obtain ⟨k1, hk311, rfl, hsk1⟩ := sOf_some hs1
    have hkm1 : k1 < mk := Nat.lt_of_not_le (fun e => by rw [hnone k1 e] at hsk1; cases hsk1)
    obtain ⟨hsN1, hqa1, hqb1⟩ := hS.1 k1 q1 hsk1
    obtain ⟨hv1, kf1, wf1, am1, hns1, hO1, hkw1, hw1⟩ := id hsN1
    have ea1 := ns_am hO1 hkw1
    have oa1 := hO1.am
    refine V.stk (st' := [_]) rfl ?_
    refine V_astore_n (pc' := 6) (lv' := [_, _, _, _]) hX dX7_take_5 (Nat.le_of_ble_eq_true rfl) rfl rfl ?_
    refine V_aload_n (pc' := 7) hX dX7_take_6 rfl rfl ?_
    refine V_ifnull (pc' := 10) hX dX7_take_7 rfl ?_
    refine V_iload_n (pc' := 11) hX dX7_take_10 rfl rfl ?_
    refine V_callS (nA := 1) (pc' := 14) (k' := 0) (n' := 0) hX dX7_take_11 (c_PS_isNumber v) wM_X7_81 wS_X7_isNumber wN_X7 wC_X7_isNumber rfl hy_X7_isNumber rfl (Nat.le_of_ble_eq_true rfl) (by decide) (by omega) rfl rfl (by omega) rfl (by omega) rfl ?_
    rintro _ z h ⟨rfl, rfl, rfl⟩
    refine V.stk (st' := [_]) rfl ?_
    refine V_if_eqB (pt := 32) (pc' := 17) hX dX7_take_14 rfl rfl (fun c14 => ?_) (fun c14 => ?_)
    · refine V_iconst (pc' := 33) (v := nI 0) hX dX7_take_32 (by decide) rfl ?_
      refine V_zret hX hR dX7_take_33 (by rfl) ?_
      first
        | exact ⟨rfl, frO.rf, Or.inl ⟨Or.inl hs1, rfl, rfl⟩⟩
        | exact ⟨rfl, frO.rf, Or.inl ⟨Or.inr (Or.inl c14), rfl, rfl⟩⟩
        | (refine ⟨rfl, frO.rf, Or.inl ⟨Or.inr (Or.inr ⟨k1, k9, hkm1, rfl, by rw [hsk1]; rfl, rfl, hk9, fun hm => ?_⟩), rfl, rfl⟩⟩
           obtain ⟨j, j1, j2⟩ := mem_getD.mp hm
           exact hbad j j1 (by rw [(hkw1 j j1).1, j2]))
    · obtain ⟨k9, hk9, rfl⟩ := isNumB_nI c14
      have hFk := hF60 k9
      have hkey : kyF F k9 < 100000000 := by unfold kyF; omega
      refine V_aload_n (pc' := 18) hX dX7_take_17 rfl rfl ?_
      refine V_iload_n (pc' := 19) hX dX7_take_18 rfl rfl ?_
      refine V_aload_n (pc' := 20) hX dX7_take_19 rfl rfl ?_
      refine V_get (pc' := 23) hX dX7_take_20 hx rfl inX7 2 (by decide) wF_X7_20 rfl rfl ?_
      refine V_callS (nA := 2) (pc' := 26) (k' := 0) (n' := 0) hX dX7_take_23 (c_NS_keyOf k9 hk9 hF hFO) wM_X7_85 wS_X3_keyOf wN_X3 wC_X3_keyOf rfl hy_X3_keyOf rfl (Nat.le_of_ble_eq_true rfl) (by decide) (by omega) rfl rfl (by omega) rfl (by omega) rfl ?_
      rintro _ z h ⟨rfl, rfl, rfl⟩
      rw [← hFe]
      refine V.stk (st' := [_, _]) rfl ?_
      refine V_callV (nA := 1) (pc' := 29) (k' := 0) (n' := 0) hX dX7_take_26 (c_NS_remove (kyF F k9) hkey hns1 hO1) hns1.1 rfl wM_X7_97 wI_X3_remove wL_X3_remove wN_X3 wC_X3_remove rfl hy_X3_remove rfl (Nat.le_of_ble_eq_true rfl) (by decide) (by omega) rfl rfl (by omega) rfl (by omega) rfl ?_
      rintro _ z h' ⟨b, rfl, rfl, g1, g2⟩
      refine V.stk (st' := [_]) rfl ?_
      refine V_if_neB (pt := 34) (pc' := 32) hX dX7_take_29 rfl rfl (fun c29 => ?_) (fun c29 => ?_)
      · obtain ⟨q3, kf', wf', p9, g3, g4, q4, q5, q6⟩ := g2 c29
        have ek : (L k1).getD p9 0 = k9 := by
          rw [(hkw1 p9 g3).1] at g4
          exact kyF_inj (hv1 _ (getD_mem g3)) hk9 g4
        have hpm := del_perm g3
        rw [ek] at hpm
        have hP1 := hP.uS hsk1 (nsR.del hv1 hkw1 hw1 hO1 g3 q5 q6 q4) q3
        rw [va_up_const, va_up_const] at hP1
        obtain ⟨⟨hx, hsa⟩, ⟨hF, hFO⟩, ⟨hT, hTO⟩, ⟨hm, hM⟩, ⟨⟨nf, hp⟩, hPO⟩, ⟨s0, s1, s2, ho⟩, ⟨bg, hbg⟩, hta, ⟨⟨ab, bw, hk⟩, hks⟩, ⟨hn, hnO⟩, hS, hmk, hnone, hxz, hco⟩ := id hP1
        refine V_aload_n (pc' := 35) hX dX7_take_34 rfl rfl ?_
        refine V_get (pc' := 38) hX dX7_take_35 hx rfl inX7 11 (by decide) wF_X7_65 rfl rfl ?_
        refine V_iload_n (pc' := 39) hX dX7_take_38 rfl rfl ?_
        refine V_callV (nA := 1) (pc' := 42) (k' := 0) (n' := 0) hX dX7_take_39 (c_Nt_forget k1 (by omega) hn hnO) hn.1 rfl wM_X7_78 wI_X2_forget wL_X2_forget wN_X2 wC_X2_forget rfl hy_X2_forget rfl (Nat.le_of_ble_eq_true rfl) (by decide) (by omega) rfl rfl (by omega) rfl (by omega) rfl ?_
        rintro _ z h2 ⟨rfl, rfl, r1, r2⟩
        refine V.stk (st' := []) rfl ?_
        refine V_iconst (pc' := 43) (v := nI 1) hX dX7_take_42 (by decide) rfl ?_
        refine V_zret hX hR dX7_take_43 (by rfl) ?_
        exact ⟨rfl, (frO.set q3 hsk1).tr (frO.of r2 (by omega) (by omega)), Or.inr ⟨k1, k9, _, hkm1, rfl, by rw [hsk1]; rfl, hk9, rfl, hpm, rfl, hP1.uN r1 ⟨hnO.1, Nat.or_lt_two_pow hnO.2 (pow_lt60 (by omega))⟩ r2⟩⟩
      · obtain ⟨rfl, hbad⟩ := g1 c29
        refine V_iconst (pc' := 33) (v := nI 0) hX dX7_take_32 (by decide) rfl ?_
        refine V_zret hX hR dX7_take_33 (by rfl) ?_
        first
          | exact ⟨rfl, frO.rf, Or.inl ⟨Or.inl hs1, rfl, rfl⟩⟩
          | exact ⟨rfl, frO.rf, Or.inl ⟨Or.inr (Or.inl c14), rfl, rfl⟩⟩
          | (refine ⟨rfl, frO.rf, Or.inl ⟨Or.inr (Or.inr ⟨k1, k9, hkm1, rfl, by rw [hsk1]; rfl, rfl, hk9, fun hm => ?_⟩), rfl, rfl⟩⟩
             obtain ⟨j, j1, j2⟩ := mem_getD.mp hm
             exact hbad j j1 (by rw [(hkw1 j j1).1, j2]))
