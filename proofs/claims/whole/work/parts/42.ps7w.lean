set_option maxRecDepth 100000 in
set_option maxHeartbeats 4000000 in
theorem c_PS_text {G : Gd} {h : AH} {z x : Nat} {mk : Nat} {sa : Nat → Option Nat} {L : Nat → List Nat} {F : Nat → Nat} {W : Nat → Nat} {fn : Nat → Nat} {fv : Nat → Nat} {fs : Nat} {tn : Nat → Nat} {tv : Nat → Nat} {ts : Nat} {kd : Nat} {p : Nat} {q : Nat} {bf : Nat → Nat} {len : Nat} {ta : Nat → Nat} {sp : Nat} {f1 : Nat → Nat} {f2 : Nat → Nat} {f3 : Nat → Nat} {ks : Nat} {ff : Nat → Nat} {fg : Nat} {co : Nat} (r qv : Int32) (hFe : F = tF fn fv fs) (hF60 : ∀ v, F v ≤ 60) (hWe : W = wtF kd tn tv ts) (hW1 : ∀ v, 1 ≤ W v ∧ W v ≤ 100) (hP : psAt G h z x mk sa L (fun _ => F) (fun _ => W) fn fv fs tn tv ts kd p q bf len ta sp f1 f2 f3 ks ff fg co) : Ct G yX7_text cX7_text 7 (some .int) 3 0 0 [.ref x, .int r, .int qv] z h (fun r' z' h' => z' = z ∧ frO x z sa h h' ∧ (((sOf sa r = none ∨ ¬ (1 ≤ qv.toInt ∧ qv.toInt ≤ 2)) ∧ r' = some (.int (-1)) ∧ h' = h) ∨ ∃ i qq, i < mk ∧ r = nI i ∧ (sa i).isSome = true ∧ qv = nI qq ∧ (qq = 1 ∨ qq = 2) ∧ ((30 < (tnL bf qq (len + 1 - qq)).length ∧ r' = some (.int (-1)) ∧ psAt G h' z x mk sa L (fun _ => F) (fun _ => W) fn fv fs tn tv ts kd p q bf len ta sp f1 f2 f3 ks ff fg co) ∨ ((tnL bf qq (len + 1 - qq)).length ≤ 30 ∧ r' = some (.int (nI (tnL bf qq (len + 1 - qq)).length)) ∧ ∃ L', L'.Perm (tnL bf qq (len + 1 - qq)) ∧ psAt G h' z x mk sa (va_up L i L') (fun _ => F) (fun _ => W) fn fv fs tn tv ts kd p q bf (0) ta sp f1 f2 f3 ks ff (fg ||| 2 ^ i) co)))) := by
  refine Ct.of (lv := [_, _, _, _, _, _, _]) (by decide) (Nat.le_of_ble_eq_true rfl) rfl ?_
  rintro X rfl hX hR hnm
  obtain ⟨⟨hx, hsa⟩, ⟨hF, hFO⟩, ⟨hT, hTO⟩, ⟨hm, hM⟩, ⟨⟨nf, hp⟩, hPO⟩, ⟨s0, s1, s2, ho⟩, ⟨bg, hbg⟩, hta, ⟨⟨ab, bw, hk⟩, hks⟩, ⟨hn, hnO⟩, hS, hmk, hnone, hxz, hco⟩ := id hP
  refine V_aload_n (pc' := 1) hX dX7_text_0 rfl rfl ?_
  refine V_iload_n (pc' := 2) hX dX7_text_1 rfl rfl ?_
  refine V_callV (nA := 1) (pc' := 5) (k' := 0) (n' := 0) hX dX7_text_2 (c_PS_setOf r hP) hx rfl wM_X7_74 wI_X7_setOf wL_X7_setOf wN_X7 wC_X7_setOf rfl hy_X7_setOf rfl (Nat.le_of_ble_eq_true rfl) (by decide) (by omega) rfl rfl (by omega) rfl (by omega) rfl ?_
  rintro _ z h ⟨rfl, rfl, rfl⟩
  rcases hs1 : sOf sa r with _ | q1
  · refine V.stk (st' := [_]) rfl ?_
    refine V_astore_nN (pc' := 6) (lv' := [_, _, _, _, _, _, _]) hX dX7_text_5 (Nat.le_of_ble_eq_true rfl) rfl rfl ?_
    refine V_aload_nN (pc' := 7) hX dX7_text_6 rfl rfl ?_
    refine V_ifnullN (pc' := 20) hX dX7_text_7 rfl ?_
    refine V_iconst (pc' := 21) (v := (-1)) hX dX7_text_20 (by decide) rfl ?_
    refine V_iret hX hR dX7_text_21 ?_
    exact ⟨rfl, frO.rf, Or.inl ⟨Or.inl hs1, rfl, rfl⟩⟩
  · obtain ⟨k1, hk311, rfl, hsk1⟩ := sOf_some hs1
    have hkm1 : k1 < mk := Nat.lt_of_not_le (fun e => by rw [hnone k1 e] at hsk1; cases hsk1)
    obtain ⟨hsN1, hqa1, hqb1⟩ := hS.1 k1 q1 hsk1
    obtain ⟨hv1, kf1, wf1, am1, hns1, hO1, hkw1, hw1⟩ := id hsN1
    have ea1 := ns_am hO1 hkw1
    have oa1 := hO1.am
    refine V.stk (st' := [_]) rfl ?_
    refine V_astore_n (pc' := 6) (lv' := [_, _, _, _, _, _, _]) hX dX7_text_5 (Nat.le_of_ble_eq_true rfl) rfl rfl ?_
    refine V_aload_n (pc' := 7) hX dX7_text_6 rfl rfl ?_
    refine V_ifnull (pc' := 10) hX dX7_text_7 rfl ?_
    refine V_iload_n (pc' := 11) hX dX7_text_10 rfl rfl ?_
    refine V_iconst (pc' := 12) (v := nI 1) hX dX7_text_11 (by decide) rfl ?_
    refine V_icmp_lt (pt := 20) (pc' := 15) hX dX7_text_12 rfl rfl (fun c12 => ?_) (fun c12 => ?_)
    · have hc : qv.toInt < 1 := i32_lt.mp c12
      refine V_iconst (pc' := 21) (v := (-1)) hX dX7_text_20 (by decide) rfl ?_
      refine V_iret hX hR dX7_text_21 ?_
      exact ⟨rfl, frO.rf, Or.inl ⟨Or.inr (by omega), rfl, rfl⟩⟩
    · have hc : ¬ qv.toInt < 1 := fun e => c12 (i32_lt.mpr e)
      refine V_iload_n (pc' := 16) hX dX7_text_15 rfl rfl ?_
      refine V_iconst (pc' := 17) (v := nI 2) hX dX7_text_16 (by decide) rfl ?_
      refine V_icmp_le (pt := 22) (pc' := 20) hX dX7_text_17 rfl rfl (fun c17 => ?_) (fun c17 => ?_)
      · have hd : qv.toInt ≤ 2 := i32_le.mp c17
        obtain ⟨qq, hqq, rfl⟩ := nI_of (x := qv) (by rw [i32_lt]; show ¬ _ < (0 : Int); omega)
        rw [nI_toInt hqq] at hc hd
        have hq2 : qq = 1 ∨ qq = 2 := by omega
        refine V_aload_n (pc' := 23) hX dX7_text_22 rfl rfl ?_
        refine V_get (pc' := 26) hX dX7_text_23 hx rfl inX7 5 (by decide) wF_X7_37 rfl rfl ?_
        refine V_iload_n (pc' := 27) hX dX7_text_26 rfl rfl ?_
        refine V_callV (nA := 1) (pc' := 30) (k' := 0) (n' := 0) hX dX7_text_27 (c_Tp_findNumbers qq hq2 hp hPO) hp.1 rfl wM_X7_118 wI_X6_findNumbers wL_X6_findNumbers wN_X6 wC_X6_findNumbers rfl hy_X6_findNumbers rfl (Nat.le_of_ble_eq_true rfl) (by decide) (by omega) rfl rfl (by omega) rfl (by omega) rfl ?_
        rintro r9 z h1 ⟨rfl, g1, nf, g2, g3⟩
        have hP1 := hP.uP g2 hPO g1
        have hns1 := hns1.kept g1 (by omega)
        rcases g3 with ⟨g3, rfl, g4⟩ | ⟨g3, rfl⟩
        · obtain ⟨⟨hx, hsa⟩, ⟨hF, hFO⟩, ⟨hT, hTO⟩, ⟨hm, hM⟩, ⟨⟨nf2, hp⟩, hPO⟩, ⟨s0, s1, s2, ho⟩, ⟨bg, hbg⟩, hta, ⟨⟨ab, bw, hk⟩, hks⟩, ⟨hn, hnO⟩, hS, hmk, hnone, hxz, hco⟩ := id hP1
          have hp := g2
          refine V.stk (st' := [_]) rfl ?_
          refine V_istore (pc' := 32) (lv' := [_, _, _, _, _, _, _]) hX dX7_text_30 (Nat.le_of_ble_eq_true rfl) rfl rfl ?_
          refine V_iload (pc' := 34) hX dX7_text_32 rfl rfl ?_
          refine V_iconst (pc' := 35) (v := (-1)) hX dX7_text_34 (by decide) rfl ?_
          refine V_icmp_ne (pt := 40) (pc' := 38) hX dX7_text_35 rfl rfl (fun c35 => ?_) (fun c35 => ?_)
          · have hnd := tnL_nd (bf := bf) (q := qq) (len + 1 - qq)
            refine V_aload_n (pc' := 41) hX dX7_text_40 rfl rfl ?_
            refine V_callV (nA := 0) (pc' := 44) (k' := 0) (n' := 0) hX dX7_text_41 (c_NS_clear hns1) hns1.1 rfl wM_X7_121 wI_X3_clear wL_X3_clear wN_X3 wC_X3_clear rfl hy_X3_clear rfl (Nat.le_of_ble_eq_true rfl) (by decide) (by omega) rfl rfl (by omega) rfl (by omega) rfl ?_
            rintro _ z h2 ⟨rfl, rfl, w1, w2⟩
            have hP2 := hP1.uS hsk1 (nsR.nil (F := F) (wt := W) w1) w2
            rw [va_up_const, va_up_const] at hP2
            have g5 : frO x z sa h h2 := (frO.of g1 (by omega) (by omega)).tr (frO.set w2 hsk1)
            have g6 : h2 (x + 9 + 2) = some (aI X.G 30 nf) := (w2 _ (by omega)).trans hp.2.2
            refine V.stk (st' := []) rfl ?_
            refine V_iconst (pc' := 45) (v := nI 0) hX dX7_text_44 (by decide) rfl ?_
            refine V_istore (pc' := 47) (lv' := [_, _, _, _, _, _, _]) hX dX7_text_45 (Nat.le_of_ble_eq_true rfl) rfl rfl ?_
            have lp : ∀ (μ j : Nat) (h3 : AH) (Lj : List Nat), j ≤ (tnL bf qq (len + 1 - qq)).length → Lj.Perm ((tnL bf qq (len + 1 - qq)).take j) → frO x z sa h h3 → h3 (x + 9 + 2) = some (aI X.G 30 nf) → psAt X.G h3 z x mk sa (va_up L k1 Lj) (fun _ => F) (fun _ => W) fn fv fs tn tv ts kd p q bf len ta sp f1 f2 f3 ks ff fg co → (tnL bf qq (len + 1 - qq)).length - j < μ → V X 0 0 z h3 47 [some (.ref x), some (.int (nI k1)), none, some (.ref q1), some (.int (nI (tnL bf qq (len + 1 - qq)).length)), some (.int (nI j)), none] [] := by
              intro μ
              induction μ with
              | zero => intros; omega
              | succ μ ih =>
                intro j h3 Lj e1 e2 e3 e4 hP e6
                obtain ⟨⟨hx, hsa⟩, ⟨hF, hFO⟩, ⟨hT, hTO⟩, ⟨hm, hM⟩, ⟨⟨nf2, hp⟩, hPO⟩, ⟨s0, s1, s2, ho⟩, ⟨bg, hbg⟩, hta, ⟨⟨ab, bw, hk⟩, hks⟩, ⟨hn, hnO⟩, hS, hmk, hnone, hxz, hco⟩ := id hP
                obtain ⟨hsN1, hqa1, hqb1⟩ := hS.1 k1 q1 hsk1
                rw [vu_at] at hsN1
                obtain ⟨hv1, kf1, wf1, am1, hns1, hO1, hkw1, hw1⟩ := id hsN1
                refine V_iload (pc' := 49) hX dX7_text_47 rfl rfl ?_
                refine V_iload (pc' := 51) hX dX7_text_49 rfl rfl ?_
                refine V_icmp_geN (pt := 92) (pc' := 54) hX dX7_text_51 (by omega) (by omega) rfl rfl (fun c51 => ?_) (fun c51 => ?_)
                · refine V_aload_n (pc' := 93) hX dX7_text_92 rfl rfl ?_
                  refine V_get (pc' := 96) hX dX7_text_93 hx rfl inX7 5 (by decide) wF_X7_37 rfl rfl ?_
                  refine V_iconst (pc' := 97) (v := nI 0) hX dX7_text_96 (by decide) rfl ?_
                  refine V_callV (nA := 1) (pc' := 100) (k' := 0) (n' := 0) hX dX7_text_97 (c_Tp_cut (nI 0) hp hPO) hp.1 rfl wM_X7_115 wI_X6_cut wL_X6_cut wN_X6 wC_X6_cut rfl hy_X6_cut rfl (Nat.le_of_ble_eq_true rfl) (by decide) (by omega) rfl rfl (by omega) rfl (by omega) rfl ?_
                  rintro _ z h4 ⟨b, rfl, rfl, w1, w2, w3⟩
                  have hb : b = true := w1.mpr ⟨by decide, by rw [nI_toInt (by omega)]; omega⟩
                  obtain ⟨m, m1, m2, m3, m4⟩ := w3 hb
                  have m0 : m = 0 := by
                    have hpo := hPO.1
                    have e := congrArg Int32.toInt m2
                    rw [nI_toInt (by omega), nI_toInt (by omega)] at e
                    omega
                  subst m0
                  have hP4 := hP.uP m3 ⟨by omega, fun j hj => by omega⟩ m4
                  obtain ⟨⟨hx, hsa⟩, ⟨hF, hFO⟩, ⟨hT, hTO⟩, ⟨hm, hM⟩, ⟨⟨nf3, hp⟩, hPO⟩, ⟨s0, s1, s2, ho⟩, ⟨bg, hbg⟩, hta, ⟨⟨ab, bw, hk⟩, hks⟩, ⟨hn, hnO⟩, hS, hmk, hnone, hxz, hco⟩ := id hP4
                  refine V.stk (st' := [_]) rfl ?_
                  refine V_pop (pc' := 101) hX dX7_text_100 rfl rfl ?_
                  refine V_aload_n (pc' := 102) hX dX7_text_101 rfl rfl ?_
                  refine V_get (pc' := 105) hX dX7_text_102 hx rfl inX7 11 (by decide) wF_X7_65 rfl rfl ?_
                  refine V_iload_n (pc' := 106) hX dX7_text_105 rfl rfl ?_
                  refine V_callV (nA := 1) (pc' := 109) (k' := 0) (n' := 0) hX dX7_text_106 (c_Nt_forget k1 (by omega) hn hnO) hn.1 rfl wM_X7_78 wI_X2_forget wL_X2_forget wN_X2 wC_X2_forget rfl hy_X2_forget rfl (Nat.le_of_ble_eq_true rfl) (by decide) (by omega) rfl rfl (by omega) rfl (by omega) rfl ?_
                  rintro _ z h5 ⟨rfl, rfl, r1, r2⟩
                  refine V.stk (st' := []) rfl ?_
                  refine V_iload (pc' := 111) hX dX7_text_109 rfl rfl ?_
                  refine V_iret hX hR dX7_text_111 ?_
                  exact ⟨rfl, (e3.tr (frO.of m4 (by omega) (by omega))).tr (frO.of r2 (by omega) (by omega)), Or.inr ⟨k1, qq, hkm1, rfl, by rw [hsk1]; rfl, rfl, hq2, Or.inr ⟨g3, rfl, Lj, by rw [show j = (tnL bf qq (len + 1 - qq)).length by omega, List.take_length] at e2; exact e2, hP4.uN r1 ⟨hnO.1, Nat.or_lt_two_pow hnO.2 (pow_lt60 (by omega))⟩ r2⟩⟩⟩
                · have hjl : j < (tnL bf qq (len + 1 - qq)).length := by omega
                  have hv9 := tnL_lt hPO hq2 (getD_mem hjl)
                  have hFk := hF60 ((tnL bf qq (len + 1 - qq)).getD j 0)
                  have hWk := hW1 ((tnL bf qq (len + 1 - qq)).getD j 0)
                  have hlj : Lj.length = j := by rw [e2.length_eq, List.length_take]; omega
                  have hnm : (tnL bf qq (len + 1 - qq)).getD j 0 ∉ Lj := fun hm => by
                    have hm := (mem_take (by omega)).mp (e2.mem_iff.mp hm)
                    obtain ⟨i9, i1, i2⟩ := hm
                    have h8 := List.nodup_iff_pairwise_ne.mp hnd
                    rw [List.pairwise_iff_getElem] at h8
                    refine h8 i9 j (by omega) hjl i1 ?_
                    rw [List.getD_eq_getElem?_getD, List.getD_eq_getElem?_getD, List.getElem?_eq_getElem (by omega), List.getElem?_eq_getElem hjl] at i2
                    exact i2
                  refine V_aload_n (pc' := 55) hX dX7_text_54 rfl rfl ?_
                  refine V_get (pc' := 58) hX dX7_text_55 hx rfl inX7 5 (by decide) wF_X7_37 rfl rfl ?_
                  refine V_getN (pc' := 61) hX dX7_text_58 hp.1 rfl inX6 2 (by decide) wFn_X7_124 rfl rfl ?_
                  refine V_iload (pc' := 63) hX dX7_text_61 rfl rfl ?_
                  refine V_ialdN (pc' := 64) (v := nI ((tnL bf qq (len + 1 - qq)).getD j 0)) hX dX7_text_63 e4 (by omega) (by omega) (by rw [g4 j hjl]) rfl ?_
                  refine V_istore (pc' := 66) (lv' := [_, _, _, _, _, _, _]) hX dX7_text_64 (Nat.le_of_ble_eq_true rfl) rfl rfl ?_
                  refine V_aload_n (pc' := 67) hX dX7_text_66 rfl rfl ?_
                  refine V_iload (pc' := 69) hX dX7_text_67 rfl rfl ?_
                  refine V_aload_n (pc' := 70) hX dX7_text_69 rfl rfl ?_
                  refine V_get (pc' := 73) hX dX7_text_70 hx rfl inX7 2 (by decide) wF_X7_20 rfl rfl ?_
                  refine V_callS (nA := 2) (pc' := 76) (k' := 0) (n' := 0) hX dX7_text_73 (c_NS_keyOf ((tnL bf qq (len + 1 - qq)).getD j 0) hv9 hF hFO) wM_X7_85 wS_X3_keyOf wN_X3 wC_X3_keyOf rfl hy_X3_keyOf rfl (Nat.le_of_ble_eq_true rfl) (by decide) (by omega) rfl rfl (by omega) rfl (by omega) rfl ?_
                  rintro _ z h3 ⟨rfl, rfl, rfl⟩
                  rw [← hFe]
                  refine V.stk (st' := [_, _]) rfl ?_
                  refine V_aload_n (pc' := 77) hX dX7_text_76 rfl rfl ?_
                  refine V_iload (pc' := 79) hX dX7_text_77 rfl rfl ?_
                  refine V_callV (nA := 1) (pc' := 82) (k' := 0) (n' := 0) hX dX7_text_79 (c_PS_weightOf ((tnL bf qq (len + 1 - qq)).getD j 0) hv9 hP) hx rfl wM_X7_89 wI_X7_weightOf wL_X7_weightOf wN_X7 wC_X7_weightOf rfl hy_X7_weightOf rfl (Nat.le_of_ble_eq_true rfl) (by decide) (by omega) rfl rfl (by omega) rfl (by omega) rfl ?_
                  rintro _ z h3 ⟨rfl, rfl, rfl⟩
                  rw [← hWe]
                  refine V.stk (st' := [_, _, _]) rfl ?_
                  refine V_callV (nA := 2) (pc' := 85) (k' := 0) (n' := 0) hX dX7_text_82 (c_NS_insR ((tnL bf qq (len + 1 - qq)).getD j 0) hv9 hFk hWk hnm (by omega) hsN1) hns1.1 rfl wM_X7_93 wI_X3_insert wL_X3_insert wN_X3 wC_X3_insert rfl hy_X3_insert rfl (Nat.le_of_ble_eq_true rfl) (by decide) (by omega) rfl rfl (by omega) rfl (by omega) rfl ?_
                  rintro _ z h4 ⟨rfl, rfl, g3, L9, g7, g8⟩
                  have hp9 : L9.Perm ((tnL bf qq (len + 1 - qq)).take j ++ [(tnL bf qq (len + 1 - qq)).getD j 0]) := (g7.trans (e2.cons _)).trans (List.perm_append_singleton _ _).symm
                  have hP9 := hP.uS hsk1 g8 g3
                  rw [va_up_const, va_up_const, vu_up] at hP9
                  refine V.stk (st' := [_]) rfl ?_
                  refine V_pop (pc' := 86) hX dX7_text_85 rfl rfl ?_
                  refine V_iincN (pc' := 89) (j := 1) (lv' := [_, _, _, _, _, _, _]) hX dX7_text_86 rfl rfl rfl rfl ?_
                  refine V_goto (pc' := 47) hX dX7_text_89 rfl ?_
                  refine V.loc2 (lv' := [some _, some _, none, some _, some _, some _, none]) ⟨rfl, rfl, rfl, rfl, rfl, trivial⟩ ?_
                  exact ih (j + 1) _ L9 (by omega) (by rw [take_s (by omega)]; exact hp9) (e3.tr (frO.set g3 hsk1)) ((g3 _ (by omega)).trans e4) hP9 (by omega)
            refine V.loc2 (lv' := [some _, some _, none, some _, some _, some _, none]) ⟨rfl, rfl, rfl, rfl, rfl, trivial⟩ ?_
            exact lp ((tnL bf qq (len + 1 - qq)).length + 1) 0 _ [] (by omega) (by rw [List.take_zero]) g5 g6 hP2 (by omega)
          · exfalso
            have e := congrArg Int32.toInt c35
            rw [nI_toInt (by omega)] at e
            have e2 : (-1 : Int32).toInt = -1 := by decide
            rw [e2] at e
            omega
        · refine V.stk (st' := [_]) rfl ?_
          refine V_istore (pc' := 32) (lv' := [_, _, _, _, _, _, _]) hX dX7_text_30 (Nat.le_of_ble_eq_true rfl) rfl rfl ?_
          refine V_iload (pc' := 34) hX dX7_text_32 rfl rfl ?_
          refine V_iconst (pc' := 35) (v := (-1)) hX dX7_text_34 (by decide) rfl ?_
          refine V_icmp_ne (pt := 40) (pc' := 38) hX dX7_text_35 rfl rfl (fun c35 => ?_) (fun c35 => ?_)
          · exact absurd rfl c35
          · refine V_iconst (pc' := 39) (v := (-1)) hX dX7_text_38 (by decide) rfl ?_
            refine V_iret hX hR dX7_text_39 ?_
            exact ⟨rfl, frO.of g1 (by omega) (by omega), Or.inr ⟨k1, qq, hkm1, rfl, by rw [hsk1]; rfl, rfl, hq2, Or.inl ⟨g3, rfl, hP1⟩⟩⟩
      · have hd : ¬ qv.toInt ≤ 2 := fun e => c17 (i32_le.mpr e)
        refine V_iconst (pc' := 21) (v := (-1)) hX dX7_text_20 (by decide) rfl ?_
        refine V_iret hX hR dX7_text_21 ?_
        exact ⟨rfl, frO.rf, Or.inl ⟨Or.inr (by omega), rfl, rfl⟩⟩
set_option maxRecDepth 100000 in
set_option maxHeartbeats 4000000 in
theorem c_PS_order {G : Gd} {h : AH} {z x : Nat} {mk : Nat} {sa : Nat → Option Nat} {L : Nat → List Nat} {F : Nat → Nat} {W : Nat → Nat} {fn : Nat → Nat} {fv : Nat → Nat} {fs : Nat} {tn : Nat → Nat} {tv : Nat → Nat} {ts : Nat} {kd : Nat} {p : Nat} {q : Nat} {bf : Nat → Nat} {len : Nat} {ta : Nat → Nat} {sp : Nat} {f1 : Nat → Nat} {f2 : Nat → Nat} {f3 : Nat → Nat} {ks : Nat} {ff : Nat → Nat} {fg : Nat} {co : Nat} (hP : psAt G h z x mk sa L (fun _ => F) (fun _ => W) fn fv fs tn tv ts kd p q bf len ta sp f1 f2 f3 ks ff fg co) : Ct G yX7_order cX7_order 4 (some .int) 4 0 0 [.ref x] z h (fun r' z' h' => z' = z ∧ frO x z sa h h' ∧ ∃ fn' fv' fs' L', (∀ u, tget fn' fv' fs' u = cntO (allL sa L mk) u) ∧ (∀ v, tF fn' fv' fs' v ≤ 60) ∧ r' = some (.int (nI fs')) ∧ (∀ r, (L' r).Perm (L r)) ∧ psAt G h' z x mk sa (L') (fun _ => tF fn' fv' fs') (fun _ => W) (fn') (fv') (fs') tn tv ts kd p q bf len ta sp f1 f2 f3 ks ff fg co) := by
  refine Ct.of (lv := [_, _, _, _]) (by decide) (Nat.le_of_ble_eq_true rfl) rfl ?_
  rintro X rfl hX hR hnm
  obtain ⟨⟨hx, hsa⟩, ⟨hF, hFO⟩, ⟨hT, hTO⟩, ⟨hm, hM⟩, ⟨⟨nf, hp⟩, hPO⟩, ⟨s0, s1, s2, ho⟩, ⟨bg, hbg⟩, hta, ⟨⟨ab, bw, hk⟩, hks⟩, ⟨hn, hnO⟩, hS, hmk, hnone, hxz, hco⟩ := id hP
  have hndA : ∀ r, (sa r).isSome = true → (L r).Nodup ∧ (L r).length ≤ 30 := fun r hr => by
    cases e : sa r with
    | none => rw [e] at hr; cases hr
    | some q0 => exact ⟨nd_of (hS.1 r q0 e).1.nd, (hS.1 r q0 e).1.len⟩
  refine V_aload_n (pc' := 1) hX dX7_order_0 rfl rfl ?_
  refine V_get (pc' := 4) hX dX7_order_1 hx rfl inX7 2 (by decide) wF_X7_20 rfl rfl ?_
  refine V_callV (nA := 0) (pc' := 7) (k' := 0) (n' := 0) hX dX7_order_4 (c_Table_clear hF) hF.1 rfl wM_X7_131 wI_X5_clear wL_X5_clear wN_X5 wC_X5_clear rfl hy_X5_clear rfl (Nat.le_of_ble_eq_true rfl) (by decide) (by omega) rfl rfl (by omega) rfl (by omega) rfl ?_
  rintro _ z h1 ⟨rfl, rfl, w1, w2⟩
  have hP1 := hP.uF w1 ⟨by omega, hFO.2.1, fun j hj => by omega, fun i j a b => by omega⟩ w2
  refine V.stk (st' := []) rfl ?_
  refine V_iconst (pc' := 8) (v := nI 0) hX dX7_order_7 (by decide) rfl ?_
  refine V_istore_n (pc' := 9) (lv' := [_, _, _, _]) hX dX7_order_8 (Nat.le_of_ble_eq_true rfl) rfl rfl ?_
  have lp : ∀ (μ i : Nat) (h1 : AH) (fn1 fv1 : Nat → Nat) (fs1 : Nat), i ≤ mk → frO x z sa h h1 → psAt X.G h1 z x mk sa L (fun _ => F) (fun _ => W) (fn1) (fv1) (fs1) tn tv ts kd p q bf len ta sp f1 f2 f3 ks ff fg co → (∀ u, tget fn1 fv1 fs1 u = cntO (allL sa L i) u) → fs1 ≤ 30 * i → mk - i < μ → V X 0 0 z h1 9 [some (.ref x), some (.int (nI i)), none, none] [] := by
    intro μ
    induction μ with
    | zero => intros; omega
    | succ μ ih =>
      intro i h1 fn1 fv1 fs1 b1 b2 hP b4 b5 b6
      obtain ⟨⟨hx, hsa⟩, ⟨hF, hFO⟩, ⟨hT, hTO⟩, ⟨hm, hM⟩, ⟨⟨nf, hp⟩, hPO⟩, ⟨s0, s1, s2, ho⟩, ⟨bg, hbg⟩, hta, ⟨⟨ab, bw, hk⟩, hks⟩, ⟨hn, hnO⟩, hS, hmk, hnone, hxz, hco⟩ := id hP
      refine V_iload_n (pc' := 10) hX dX7_order_9 rfl rfl ?_
      refine V_aload_n (pc' := 11) hX dX7_order_10 rfl rfl ?_
      refine V_get (pc' := 14) hX dX7_order_11 hx rfl inX7 1 (by decide) wF_X7_69 rfl rfl ?_
      refine V_icmp_geN (pt := 62) (pc' := 17) hX dX7_order_14 (by omega) (by omega) rfl rfl (fun c14 => ?_) (fun c14 => ?_)
      · have eim : mk = i := by omega
        subst eim
        have hF60 : ∀ v, tF fn1 fv1 fs1 v ≤ 60 := fun v => by
          rw [tF_cnt b4]
          have := allL_count (u := v) (fun r _ hr => (hndA r hr).1) (n := mk)
          omega
        refine V_iconst (pc' := 63) (v := nI 0) hX dX7_order_62 (by decide) rfl ?_
        refine V_istore_n (pc' := 64) (lv' := [_, _, _, _]) hX dX7_order_63 (Nat.le_of_ble_eq_true rfl) rfl rfl ?_
        have lr : ∀ (ν i : Nat) (h2 : AH) (L2 : Nat → List Nat), i ≤ mk → frO x z sa h h2 → (∀ r, (L2 r).Perm (L r)) → psAt X.G h2 z x mk sa (L2) (fun s => if s < i then tF fn1 fv1 fs1 else F) (fun _ => W) (fn1) (fv1) (fs1) tn tv ts kd p q bf len ta sp f1 f2 f3 ks ff fg co → mk - i < ν → V X 0 0 z h2 64 [some (.ref x), some (.int (nI i)), none, none] [] := by
          intro μ
          induction μ with
          | zero => intros; omega
          | succ μ ih =>
            intro i h2 L2 e1 e2 e3 hP e4
            obtain ⟨⟨hx, hsa⟩, ⟨hF, hFO⟩, ⟨hT, hTO⟩, ⟨hm, hM⟩, ⟨⟨nf, hp⟩, hPO⟩, ⟨s0, s1, s2, ho⟩, ⟨bg, hbg⟩, hta, ⟨⟨ab, bw, hk⟩, hks⟩, ⟨hn, hnO⟩, hS, hmk, hnone, hxz, hco⟩ := id hP
            refine V_iload_n (pc' := 65) hX dX7_order_64 rfl rfl ?_
            refine V_aload_n (pc' := 66) hX dX7_order_65 rfl rfl ?_
            refine V_get (pc' := 69) hX dX7_order_66 hx rfl inX7 1 (by decide) wF_X7_69 rfl rfl ?_
            refine V_icmp_geN (pt := 100) (pc' := 72) hX dX7_order_69 (by omega) (by omega) rfl rfl (fun c69 => ?_) (fun c69 => ?_)
            · refine V_aload_n (pc' := 101) hX dX7_order_100 rfl rfl ?_
              refine V_get (pc' := 104) hX dX7_order_101 hx rfl inX7 2 (by decide) wF_X7_20 rfl rfl ?_
              refine V_getN (pc' := 107) hX dX7_order_104 hF.1 rfl inX5 2 (by decide) wFn_X7_145 rfl rfl ?_
              refine V_iret hX hR dX7_order_107 ?_
              refine ⟨rfl, e2, fn1, fv1, fs1, L2, b4, hF60, rfl, e3, hP.cong (fun r q0 hq => ⟨rfl, fun v hv => ⟨?_, rfl⟩⟩)⟩
              have hr : r < mk := Nat.lt_of_not_le (fun e => by rw [hnone r e] at hq; cases hq)
              rw [if_pos (by omega)]
            · refine V_aload_n (pc' := 73) hX dX7_order_72 rfl rfl ?_
              refine V_get (pc' := 76) hX dX7_order_73 hx rfl inX7 0 (by decide) wF_X7_11 rfl rfl ?_
              refine V_iload_n (pc' := 77) hX dX7_order_76 rfl rfl ?_
              rcases hs : sa i with _ | q1
              · refine V_aaldN (pc' := 78) (v := .null) hX dX7_order_77 hsa (by omega) (by omega) (by rw [hs]; rfl) rfl ?_
                refine V_ifnullN (pc' := 94) hX dX7_order_78 rfl ?_
                refine V_iincN (pc' := 97) (j := 1) (lv' := [_, _, _, _]) hX dX7_order_94 rfl rfl rfl rfl ?_
                refine V_goto (pc' := 64) hX dX7_order_97 rfl ?_
                refine V.loc2 (lv' := [some _, some _, none, none]) ⟨rfl, rfl, trivial⟩ ?_
                first
                  | exact ih (i + 1) _ L3 (by omega) (e2.tr (frO.set g3 hs)) hL3 hP9 (by omega)
                  | (refine ih (i + 1) _ L2 (by omega) e2 e3 (hP.cong (fun r q0 hq => ⟨rfl, fun v hv => ⟨?_, rfl⟩⟩)) (by omega)
                     by_cases e : r = i
                     · rw [e, hs] at hq; cases hq
                     · by_cases e9 : r < i
                       · rw [if_pos e9, if_pos (by omega)]
                       · rw [if_neg e9, if_neg (by omega)])
              · refine V_aaldN (pc' := 78) (v := .ref q1) hX dX7_order_77 hsa (by omega) (by omega) (by rw [hs]; rfl) rfl ?_
                obtain ⟨hsN1, hqa1, hqb1⟩ := hS.1 i q1 hs
                obtain ⟨hv1, kf1, wf1, am1, hns1, hO1, hkw1, hw1⟩ := id hsN1
                refine V_ifnull (pc' := 81) hX dX7_order_78 rfl ?_
                refine V_aload_n (pc' := 82) hX dX7_order_81 rfl rfl ?_
                refine V_get (pc' := 85) hX dX7_order_82 hx rfl inX7 0 (by decide) wF_X7_11 rfl rfl ?_
                refine V_iload_n (pc' := 86) hX dX7_order_85 rfl rfl ?_
                refine V_aaldN (pc' := 87) (v := .ref q1) hX dX7_order_86 hsa (by omega) (by omega) (by rw [hs]; rfl) rfl ?_
                refine V_aload_n (pc' := 88) hX dX7_order_87 rfl rfl ?_
                refine V_get (pc' := 91) hX dX7_order_88 hx rfl inX7 2 (by decide) wF_X7_20 rfl rfl ?_
                refine V_callV (nA := 1) (pc' := 94) (k' := 0) (n' := 0) hX dX7_order_91 (c_NS_putR hF hFO (by omega) hF60 hsN1) hns1.1 rfl wM_X7_141 wI_X3_putInOrder wL_X3_putInOrder wN_X3 wC_X3_putInOrder rfl hy_X3_putInOrder rfl (Nat.le_of_ble_eq_true rfl) (by decide) (by omega) rfl rfl (by omega) rfl (by omega) rfl ?_
                rintro _ z h3 ⟨rfl, rfl, g3, L9, g4, g5⟩
                obtain ⟨L3, eL3⟩ : ∃ L3, L3 = va_up L2 i L9 := ⟨_, rfl⟩
                have hL3 : ∀ r, (L3 r).Perm (L r) := fun r => by
                  rw [eL3]
                  by_cases e : r = i
                  · rw [e, vu_at]; exact g4.trans (e3 i)
                  · rw [vu_ne _ _ e]; exact e3 r
                have hP8 := hP.uS hs g5 g3
                rw [← eL3, va_up_const] at hP8
                have hP9 : psAt X.G _ z x mk sa (L3) (fun s => if s < i + 1 then tF fn1 fv1 fs1 else F) (fun _ => W) (fn1) (fv1) (fs1) tn tv ts kd p q bf len ta sp f1 f2 f3 ks ff fg co := hP8.cong (fun r q0 hq => ⟨rfl, fun v hv => ⟨by
                  by_cases e : r = i
                  · rw [e, vu_at, if_pos (by omega)]
                  · rw [vu_ne _ _ e]
                    by_cases e9 : r < i
                    · rw [if_pos e9, if_pos (by omega)]
                    · rw [if_neg e9, if_neg (by omega)], rfl⟩⟩)
                refine V.stk (st' := []) rfl ?_
                refine V_iincN (pc' := 97) (j := 1) (lv' := [_, _, _, _]) hX dX7_order_94 rfl rfl rfl rfl ?_
                refine V_goto (pc' := 64) hX dX7_order_97 rfl ?_
                refine V.loc2 (lv' := [some _, some _, none, none]) ⟨rfl, rfl, trivial⟩ ?_
                first
                  | exact ih (i + 1) _ L3 (by omega) (e2.tr (frO.set g3 hs)) hL3 hP9 (by omega)
                  | (refine ih (i + 1) _ L2 (by omega) e2 e3 (hP.cong (fun r q0 hq => ⟨rfl, fun v hv => ⟨?_, rfl⟩⟩)) (by omega)
                     by_cases e : r = i
                     · rw [e, hs] at hq; cases hq
                     · by_cases e9 : r < i
                       · rw [if_pos e9, if_pos (by omega)]
                       · rw [if_neg e9, if_neg (by omega)])
        refine V.loc2 (lv' := [some _, some _, none, none]) ⟨rfl, rfl, trivial⟩ ?_
        exact lr (mk + 1) 0 h1 L (by omega) b2 (fun r => List.Perm.refl _) (hP.cong (fun r q0 hq => ⟨rfl, fun v hv => ⟨by rw [if_neg (by omega)], rfl⟩⟩)) (by omega)
      · refine V_aload_n (pc' := 18) hX dX7_order_17 rfl rfl ?_
        refine V_get (pc' := 21) hX dX7_order_18 hx rfl inX7 0 (by decide) wF_X7_11 rfl rfl ?_
        refine V_iload_n (pc' := 22) hX dX7_order_21 rfl rfl ?_
        rcases hs : sa i with _ | q1
        · refine V_aaldN (pc' := 23) (v := .null) hX dX7_order_22 hsa (by omega) (by omega) (by rw [hs]; rfl) rfl ?_
          refine V_astore_nN (pc' := 24) (lv' := [_, _, _, _]) hX dX7_order_23 (Nat.le_of_ble_eq_true rfl) rfl rfl ?_
          have ihO := ih
          refine V_iconst (pc' := 25) (v := nI 0) hX dX7_order_24 (by decide) rfl ?_
          refine V_istore_n (pc' := 26) (lv' := [_, _, _, _]) hX dX7_order_25 (Nat.le_of_ble_eq_true rfl) rfl rfl ?_
          refine V_aload_nN (pc' := 27) hX dX7_order_26 rfl rfl ?_
          refine V_ifnullN (pc' := 56) hX dX7_order_27 rfl ?_
          first
            | (have d2 := e2
               have d4 : ∀ u, tget fn2 fv2 fs2 u = cntO (allL sa L (i + 1)) u := fun u => by
                 rw [e4, allL_s, hs, show j = (L i).length by omega, List.take_length]; rfl
               have d5 : fs2 ≤ 30 * (i + 1) := by omega)
            | (have d2 := b2
               have d4 : ∀ u, tget fn1 fv1 fs1 u = cntO (allL sa L (i + 1)) u := fun u => by
                 rw [b4, allL_s, hs]
                 have e9 : (if (none : Option Nat).isSome = true then L i else []) = [] := rfl
                 rw [e9, List.append_nil]
               have d5 : fs1 ≤ 30 * (i + 1) := by omega)
          refine V_iincN (pc' := 59) (j := 1) (lv' := [_, _, _, _]) hX dX7_order_56 rfl rfl rfl rfl ?_
          refine V_goto (pc' := 9) hX dX7_order_59 rfl ?_
          refine V.loc2 (lv' := [some _, some _, none, none]) ⟨rfl, rfl, trivial⟩ ?_
          exact ihO (i + 1) _ _ _ _ (by omega) d2 hP d4 d5 (by omega)
        · refine V_aaldN (pc' := 23) (v := .ref q1) hX dX7_order_22 hsa (by omega) (by omega) (by rw [hs]; rfl) rfl ?_
          refine V_astore_n (pc' := 24) (lv' := [_, _, _, _]) hX dX7_order_23 (Nat.le_of_ble_eq_true rfl) rfl rfl ?_
          have ihO := ih
          refine V_iconst (pc' := 25) (v := nI 0) hX dX7_order_24 (by decide) rfl ?_
          refine V_istore_n (pc' := 26) (lv' := [_, _, _, _]) hX dX7_order_25 (Nat.le_of_ble_eq_true rfl) rfl rfl ?_
          have lq : ∀ (ν j : Nat) (h2 : AH) (fn2 fv2 : Nat → Nat) (fs2 : Nat), j ≤ (L i).length → frO x z sa h h2 → psAt X.G h2 z x mk sa L (fun _ => F) (fun _ => W) (fn2) (fv2) (fs2) tn tv ts kd p q bf len ta sp f1 f2 f3 ks ff fg co → (∀ u, tget fn2 fv2 fs2 u = cntO (allL sa L i ++ (L i).take j) u) → fs2 ≤ 30 * i + j → (L i).length - j < ν → V X 0 0 z h2 26 [some (.ref x), some (.int (nI i)), some (.ref q1), some (.int (nI j))] [] := by
            intro μ
            induction μ with
            | zero => intros; omega
            | succ μ ih =>
              intro j h2 fn2 fv2 fs2 e1 e2 hP e4 e5 e6
              obtain ⟨⟨hx, hsa⟩, ⟨hF, hFO⟩, ⟨hT, hTO⟩, ⟨hm, hM⟩, ⟨⟨nf, hp⟩, hPO⟩, ⟨s0, s1, s2, ho⟩, ⟨bg, hbg⟩, hta, ⟨⟨ab, bw, hk⟩, hks⟩, ⟨hn, hnO⟩, hS, hmk, hnone, hxz, hco⟩ := id hP
              obtain ⟨hsN1, hqa1, hqb1⟩ := hS.1 i q1 hs
              obtain ⟨hv1, kf1, wf1, am1, hns1, hO1, hkw1, hw1⟩ := id hsN1
              have ea1 := ns_am hO1 hkw1
              have oa1 := hO1.am
              have hl1 := hsN1.len
              refine V_aload_n (pc' := 27) hX dX7_order_26 rfl rfl ?_
              refine V_ifnull (pc' := 30) hX dX7_order_27 rfl ?_
              refine V_iload_n (pc' := 31) hX dX7_order_30 rfl rfl ?_
              refine V_aload_n (pc' := 32) hX dX7_order_31 rfl rfl ?_
              refine V_getN (pc' := 35) hX dX7_order_32 hns1.1 rfl inX3 2 (by decide) wFn_X7_132 rfl rfl ?_
              refine V_icmp_geN (pt := 56) (pc' := 38) hX dX7_order_35 (by omega) (by omega) rfl rfl (fun c35 => ?_) (fun c35 => ?_)
              · first
                  | (have d2 := e2
                     have d4 : ∀ u, tget fn2 fv2 fs2 u = cntO (allL sa L (i + 1)) u := fun u => by
                       rw [e4, allL_s, hs, show j = (L i).length by omega, List.take_length]; rfl
                     have d5 : fs2 ≤ 30 * (i + 1) := by omega)
                  | (have d2 := b2
                     have d4 : ∀ u, tget fn1 fv1 fs1 u = cntO (allL sa L (i + 1)) u := fun u => by
                       rw [b4, allL_s, hs]
                       have e9 : (if (none : Option Nat).isSome = true then L i else []) = [] := rfl
                       rw [e9, List.append_nil]
                     have d5 : fs1 ≤ 30 * (i + 1) := by omega)
                refine V_iincN (pc' := 59) (j := 1) (lv' := [_, _, _, _]) hX dX7_order_56 rfl rfl rfl rfl ?_
                refine V_goto (pc' := 9) hX dX7_order_59 rfl ?_
                refine V.loc2 (lv' := [some _, some _, none, none]) ⟨rfl, rfl, trivial⟩ ?_
                exact ihO (i + 1) _ _ _ _ (by omega) d2 hP d4 d5 (by omega)
              · refine V_aload_n (pc' := 39) hX dX7_order_38 rfl rfl ?_
                refine V_get (pc' := 42) hX dX7_order_39 hx rfl inX7 2 (by decide) wF_X7_20 rfl rfl ?_
                refine V_aload_n (pc' := 43) hX dX7_order_42 rfl rfl ?_
                refine V_iload_n (pc' := 44) hX dX7_order_43 rfl rfl ?_
                refine V_callV (nA := 1) (pc' := 47) (k' := 0) (n' := 0) hX dX7_order_44 (c_NS_numR j (by omega) hsN1) hns1.1 rfl wM_X7_135 wI_X3_numberAt wL_X3_numberAt wN_X3 wC_X3_numberAt rfl hy_X3_numberAt rfl (Nat.le_of_ble_eq_true rfl) (by decide) (by omega) rfl rfl (by omega) rfl (by omega) rfl ?_
                rintro _ z h2 ⟨rfl, rfl, rfl⟩
                refine V.stk (st' := [_, _]) rfl ?_
                refine V_callV (nA := 1) (pc' := 50) (k' := 0) (n' := 0) hX dX7_order_47 (c_Table_raise ((L i).getD j 0) (hv1 _ (getD_mem (by omega))) (by omega) hF hFO) hF.1 rfl wM_X7_138 wI_X5_raise wL_X5_raise wN_X5 wC_X5_raise rfl hy_X5_raise rfl (Nat.le_of_ble_eq_true rfl) (by decide) (by omega) rfl rfl (by omega) rfl (by omega) rfl ?_
                rintro _ z h3 ⟨fn3, fv3, fs3, rfl, rfl, g1, g2, g4, g5, g6⟩
                have hP9 := hP.uF g1 g2 g4
                have g7 : ∀ u, tget fn3 fv3 fs3 u = cntO (allL sa L i ++ (L i).take (j + 1)) u := fun u => by
                  rw [g5, take_s (by omega), ← List.append_assoc, cntO_snoc, e4, e4]
                refine V.stk (st' := []) rfl ?_
                refine V_iincN (pc' := 53) (j := 1) (lv' := [_, _, _, _]) hX dX7_order_50 rfl rfl rfl rfl ?_
                refine V_goto (pc' := 26) hX dX7_order_53 rfl ?_
                exact ih (j + 1) _ _ _ _ (by omega) (e2.tr (frO.of g4 (by omega) (by omega))) hP9 g7 (by rw [g6]; split <;> omega) (by omega)
          exact lq ((L i).length + 1) 0 h1 fn1 fv1 fs1 (by omega) b2 hP (fun u => by rw [List.take_zero, List.append_nil]; exact b4 u) (by omega) (by omega)
  refine V.loc2 (lv' := [some _, some _, none, none]) ⟨rfl, rfl, trivial⟩ ?_
  exact lp (mk + 1) 0 _ fn fv 0 (by omega) (frO.of w2 (by omega) (by omega)) hP1 (fun u => (cntO_nil u).symm) (by omega) (by omega)
