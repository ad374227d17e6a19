set_option maxRecDepth 100000 in
set_option maxHeartbeats 4000000 in
theorem c_PS_startSieve {G : Gd} {h : AH} {z x : Nat} {mk : Nat} {sa : Nat → Option Nat} {L : Nat → List Nat} {F : Nat → Nat} {W : Nat → Nat} {fn : Nat → Nat} {fv : Nat → Nat} {fs : Nat} {tn : Nat → Nat} {tv : Nat → Nat} {ts : Nat} {kd : Nat} {p : Nat} {q : Nat} {bf : Nat → Nat} {len : Nat} {ta : Nat → Nat} {sp : Nat} {f1 : Nat → Nat} {f2 : Nat → Nat} {f3 : Nat → Nat} {ks : Nat} {ff : Nat → Nat} {fg : Nat} {co : Nat} (hP : psAt G h z x mk sa L (fun _ => F) (fun _ => W) fn fv fs tn tv ts kd p q bf len ta sp f1 f2 f3 ks ff fg co) : Ct G yX7_startSieve cX7_startSieve 2 none 3 0 0 [.ref x] z h (fun r' z' h' => r' = none ∧ z' = z ∧ frO x z sa h h' ∧ ∃ bg ta', (∀ f, f < 5 → ta' f = 0) ∧ h' (x + 13) = some (aI G 60 bg) ∧ (∀ r q0, sa r = some q0 → bg r = bgn kd p q W (L r)) ∧ psAt G h' z x mk sa L (fun _ => F) (fun _ => W) fn fv fs tn tv ts kd p q bf len (ta') (0) f1 f2 f3 (0) ff fg co) := by
  refine Ct.of (lv := [_, _]) (by decide) (Nat.le_of_ble_eq_true rfl) rfl ?_
  rintro X rfl hX hR hnm
  obtain ⟨⟨hx, hsa⟩, ⟨hF, hFO⟩, ⟨hT, hTO⟩, ⟨hm, hM⟩, ⟨⟨nf, hp⟩, hPO⟩, ⟨s0, s1, s2, ho⟩, ⟨bg, hbg⟩, hta, ⟨⟨ab, bw, hk⟩, hks⟩, ⟨hn, hnO⟩, hS, hmk, hnone, hxz, hco⟩ := id hP
  refine V_aload_n (pc' := 1) hX dX7_startSieve_0 rfl rfl ?_
  refine V_get (pc' := 4) hX dX7_startSieve_1 hx rfl inX7 10 (by decide) wF_X7_58 rfl rfl ?_
  refine V_callV (nA := 0) (pc' := 7) (k' := 0) (n' := 0) hX dX7_startSieve_4 (c_Kp_clear hk) hk.1 rfl wM_X7_232 wI_X0_clear wL_X0_clear wN_X0 wC_X0_clear rfl hy_X0_clear rfl (Nat.le_of_ble_eq_true rfl) (by decide) (by omega) rfl rfl (by omega) rfl (by omega) rfl ?_
  rintro _ z h1 ⟨rfl, rfl, g1, g2⟩
  have hP1 := hP.uK g1 (by omega) g2
  obtain ⟨⟨hx, hsa⟩, ⟨hF, hFO⟩, ⟨hT, hTO⟩, ⟨hm, hM⟩, ⟨⟨nf, hp⟩, hPO⟩, ⟨s0, s1, s2, ho⟩, ⟨bg, hbg⟩, hta, ⟨⟨ab, bw, hk⟩, hks⟩, ⟨hn, hnO⟩, hS, hmk, hnone, hxz, hco⟩ := id hP1
  refine V.stk (st' := []) rfl ?_
  refine V_aload_n (pc' := 8) hX dX7_startSieve_7 rfl rfl ?_
  refine V_iconst (pc' := 9) (v := nI 0) hX dX7_startSieve_8 (by decide) rfl ?_
  refine V_put (pc' := 12) (fs' := [_, _, _, _, _, _, _, _, _, _, _, _, _]) (ty0 := tyX7) hX dX7_startSieve_9 hx rfl inX7 tyX7_ok nmX7 9 (by decide) wF_X7_261 rfl (tyX7_ok 9 (by decide)) rfl rfl (Nat.le_of_ble_eq_true rfl) rfl rfl ?_
  refine V.gen (fun h2 eh2 => ?_)
  have hf2 := fr.of_up eh2
  have hP2 := hP1.uA (up_at eh2) ((hf2 _ (by omega)).trans hsa) hmk hnone hco (fun r q9 e => e) (hf2.mono (by omega) (by omega))
  have g3 : frO x z sa h h2 := (frO.of g2 (by omega) (by omega)).tr (frO.of hf2 (by omega) (by omega))
  refine V_iconst (pc' := 13) (v := nI 0) hX dX7_startSieve_12 (by decide) rfl ?_
  refine V_istore_n (pc' := 14) (lv' := [_, _]) hX dX7_startSieve_13 (Nat.le_of_ble_eq_true rfl) rfl rfl ?_
  have lp : ∀ (μ i : Nat) (h2 : AH) (ta2 : Nat → Nat), i ≤ 5 → (∀ f, f < i → ta2 f = 0) → frO x z sa h h2 → psAt X.G h2 z x mk sa L (fun _ => F) (fun _ => W) fn fv fs tn tv ts kd p q bf len (ta2) (0) f1 f2 f3 (0) ff fg co → 5 - i < μ → V X 0 0 z h2 14 [some (.ref x), some (.int (nI i))] [] := by
    intro μ
    induction μ with
    | zero => intros; omega
    | succ μ ih =>
      intro i h2 ta2 b1 b2 b3 hP b5
      obtain ⟨⟨hx, hsa⟩, ⟨hF, hFO⟩, ⟨hT, hTO⟩, ⟨hm, hM⟩, ⟨⟨nf, hp⟩, hPO⟩, ⟨s0, s1, s2, ho⟩, ⟨bg, hbg⟩, hta, ⟨⟨ab, bw, hk⟩, hks⟩, ⟨hn, hnO⟩, hS, hmk, hnone, hxz, hco⟩ := id hP
      refine V_iload_n (pc' := 15) hX dX7_startSieve_14 rfl rfl ?_
      refine V_iconst (pc' := 16) (v := nI 5) hX dX7_startSieve_15 (by decide) rfl ?_
      refine V_icmp_geN (pt := 32) (pc' := 19) hX dX7_startSieve_16 (by omega) (by omega) rfl rfl (fun c16 => ?_) (fun c16 => ?_)
      · have ei : i = 5 := by omega
        subst ei
        refine V_iconst (pc' := 33) (v := nI 0) hX dX7_startSieve_32 (by decide) rfl ?_
        refine V_istore_n (pc' := 34) (lv' := [_, _]) hX dX7_startSieve_33 (Nat.le_of_ble_eq_true rfl) rfl rfl ?_
        have lq : ∀ (ν i : Nat) (h3 : AH) (bg3 : Nat → Nat), i ≤ mk → h3 (x + 13) = some (aI X.G 60 bg3) → (∀ r q0, r < i → sa r = some q0 → bg3 r = bgn kd p q W (L r)) → frO x z sa h h3 → psAt X.G h3 z x mk sa L (fun _ => F) (fun _ => W) fn fv fs tn tv ts kd p q bf len (ta2) (0) f1 f2 f3 (0) ff fg co → mk - i < ν → V X 0 0 z h3 34 [some (.ref x), some (.int (nI i))] [] := by
          intro μ
          induction μ with
          | zero => intros; omega
          | succ μ ih =>
            intro i h3 bg3 e1 hbg3 e3 e4 hP e6
            obtain ⟨⟨hx, hsa⟩, ⟨hF, hFO⟩, ⟨hT, hTO⟩, ⟨hm, hM⟩, ⟨⟨nf, hp⟩, hPO⟩, ⟨s0, s1, s2, ho⟩, ⟨bg, hbg⟩, hta, ⟨⟨ab, bw, hk⟩, hks⟩, ⟨hn, hnO⟩, hS, hmk, hnone, hxz, hco⟩ := id hP
            refine V_iload_n (pc' := 35) hX dX7_startSieve_34 rfl rfl ?_
            refine V_aload_n (pc' := 36) hX dX7_startSieve_35 rfl rfl ?_
            refine V_get (pc' := 39) hX dX7_startSieve_36 hx rfl inX7 1 (by decide) wF_X7_69 rfl rfl ?_
            refine V_icmp_geN (pt := 77) (pc' := 42) hX dX7_startSieve_39 (by omega) (by omega) rfl rfl (fun c39 => ?_) (fun c39 => ?_)
            · refine V_vret hX hR dX7_startSieve_77 ?_
              refine ⟨rfl, rfl, e4, bg3, ta2, b2, hbg3, fun r q0 hq => ?_, hP⟩
              have hr : r < mk := Nat.lt_of_not_le (fun e => by rw [hnone r e] at hq; cases hq)
              exact e3 r q0 (by omega) hq
            · refine V_aload_n (pc' := 43) hX dX7_startSieve_42 rfl rfl ?_
              refine V_get (pc' := 46) hX dX7_startSieve_43 hx rfl inX7 7 (by decide) wF_X7_48 rfl rfl ?_
              refine V_iload_n (pc' := 47) hX dX7_startSieve_46 rfl rfl ?_
              refine V_aload_n (pc' := 48) hX dX7_startSieve_47 rfl rfl ?_
              refine V_get (pc' := 51) hX dX7_startSieve_48 hx rfl inX7 0 (by decide) wF_X7_11 rfl rfl ?_
              refine V_iload_n (pc' := 52) hX dX7_startSieve_51 rfl rfl ?_
              rcases hs : sa i with _ | q1
              · refine V_aaldN (pc' := 53) (v := .null) hX dX7_startSieve_52 hsa (by omega) (by omega) (by rw [hs]; rfl) rfl ?_
                refine V_ifnonnullN (pc' := 56) hX dX7_startSieve_53 rfl ?_
                refine V_iconst (pc' := 57) (v := nI 0) hX dX7_startSieve_56 (by decide) rfl ?_
                refine V_goto (pc' := 70) hX dX7_startSieve_57 rfl ?_
                refine V_iastN (pc' := 71) hX dX7_startSieve_70 hbg3 (by omega) (by omega) rfl ?_
                refine V.gen (fun h4 eh4 => ?_)
                have hf4 := fr.of_up eh4
                have hP4 := hP.uB (up_at eh4) hf4
                refine V_iincN (pc' := 74) (j := 1) (lv' := [_, _]) hX dX7_startSieve_71 rfl rfl rfl rfl ?_
                refine V_goto (pc' := 34) hX dX7_startSieve_74 rfl ?_
                refine ih (i + 1) _ _ (by omega) (up_at eh4) (fun r q0 hr hq => ?_) (e4.tr (frO.of hf4 (by omega) (by omega))) hP4 (by omega)
                by_cases e : r = i
                · first
                    | (rw [e, hs] at hq; cases hq; done)
                    | (rw [e, vu_at]; exact hb)
                · rw [vu_ne _ _ e]; exact e3 r q0 (by omega) hq
              · refine V_aaldN (pc' := 53) (v := .ref q1) hX dX7_startSieve_52 hsa (by omega) (by omega) (by rw [hs]; rfl) rfl ?_
                refine V_ifnonnull (pc' := 60) hX dX7_startSieve_53 rfl ?_
                refine V_aload_n (pc' := 61) hX dX7_startSieve_60 rfl rfl ?_
                refine V_aload_n (pc' := 62) hX dX7_startSieve_61 rfl rfl ?_
                refine V_get (pc' := 65) hX dX7_startSieve_62 hx rfl inX7 0 (by decide) wF_X7_11 rfl rfl ?_
                refine V_iload_n (pc' := 66) hX dX7_startSieve_65 rfl rfl ?_
                refine V_aaldN (pc' := 67) (v := .ref q1) hX dX7_startSieve_66 hsa (by omega) (by omega) (by rw [hs]; rfl) rfl ?_
                refine V_callV (nA := 1) (pc' := 70) (k' := 0) (n' := 0) hX dX7_startSieve_67 (c_PS_beginningOf i q1 hs hP) hx rfl wM_X7_157 wI_X7_beginningOf wL_X7_beginningOf wN_X7 wC_X7_beginningOf rfl hy_X7_beginningOf rfl (Nat.le_of_ble_eq_true rfl) (by decide) (by omega) rfl rfl (by omega) rfl (by omega) rfl ?_
                rintro _ z h3 ⟨b, rfl, rfl, rfl, hb⟩
                have hb := begP_bgn hb
                refine V.stk (st' := [_, _, _]) rfl ?_
                refine V_iastN (pc' := 71) hX dX7_startSieve_70 hbg3 (by omega) (by omega) rfl ?_
                refine V.gen (fun h4 eh4 => ?_)
                have hf4 := fr.of_up eh4
                have hP4 := hP.uB (up_at eh4) hf4
                refine V_iincN (pc' := 74) (j := 1) (lv' := [_, _]) hX dX7_startSieve_71 rfl rfl rfl rfl ?_
                refine V_goto (pc' := 34) hX dX7_startSieve_74 rfl ?_
                refine ih (i + 1) _ _ (by omega) (up_at eh4) (fun r q0 hr hq => ?_) (e4.tr (frO.of hf4 (by omega) (by omega))) hP4 (by omega)
                by_cases e : r = i
                · first
                    | (rw [e, hs] at hq; cases hq; done)
                    | (rw [e, vu_at]; exact hb)
                · rw [vu_ne _ _ e]; exact e3 r q0 (by omega) hq
        exact lq (mk + 1) 0 h2 bg (by omega) hbg (fun r q0 hr => by omega) b3 hP (by omega)
      · refine V_aload_n (pc' := 20) hX dX7_startSieve_19 rfl rfl ?_
        refine V_get (pc' := 23) hX dX7_startSieve_20 hx rfl inX7 8 (by decide) wF_X7_52 rfl rfl ?_
        refine V_iload_n (pc' := 24) hX dX7_startSieve_23 rfl rfl ?_
        refine V_iconst (pc' := 25) (v := nI 0) hX dX7_startSieve_24 (by decide) rfl ?_
        refine V_iastN (pc' := 26) hX dX7_startSieve_25 hta (by omega) (by omega) rfl ?_
        refine V.gen (fun h3 eh3 => ?_)
        have hf1 := fr.of_up eh3
        have hP3 := hP.uY (up_at eh3) hf1
        have b6 : ∀ f, f < i + 1 → va_up ta2 i 0 f = 0 := fun f hf => by
          by_cases e : f = i
          · rw [e, vu_at]
          · rw [vu_ne _ _ e]; exact b2 f (by omega)
        refine V_iincN (pc' := 29) (j := 1) (lv' := [_, _]) hX dX7_startSieve_26 rfl rfl rfl rfl ?_
        refine V_goto (pc' := 14) hX dX7_startSieve_29 rfl ?_
        exact ih (i + 1) _ _ (by omega) b6 (b3.tr (frO.of hf1 (by omega) (by omega))) hP3 (by omega)
  exact lp 6 0 _ ta (by omega) (fun f hf => by omega) g3 hP2 (by omega)
set_option maxRecDepth 100000 in
set_option maxHeartbeats 4000000 in
theorem c_PS_sift {G : Gd} {h : AH} {z x : Nat} {mk : Nat} {sa : Nat → Option Nat} {L : Nat → List Nat} {F : Nat → Nat} {W : Nat → Nat} {fn : Nat → Nat} {fv : Nat → Nat} {fs : Nat} {tn : Nat → Nat} {tv : Nat → Nat} {ts : Nat} {kd : Nat} {p : Nat} {q : Nat} {bf : Nat → Nat} {len : Nat} {ta : Nat → Nat} {sp : Nat} {f1 : Nat → Nat} {f2 : Nat → Nat} {f3 : Nat → Nat} {ks : Nat} {ff : Nat → Nat} {fg : Nat} {co : Nat} {bg0 : Nat → Nat} (r s q1 q2 : Nat) (hr : r < 60) (hs60 : s < 60) (hs1 : sa r = some q1) (hs2 : sa s = some q2) (hb1 : bg0 r = bgn kd p q W (L r)) (hb2 : bg0 s = bgn kd p q W (L s)) (hbg0 : h (x + 13) = some (aI G 60 bg0)) (hkl : ks < 1770) (hP : psAt G h z x mk sa L (fun _ => F) (fun _ => W) fn fv fs tn tv ts kd p q bf len ta sp f1 f2 f3 ks ff fg co) : Ct G yX7_sift cX7_sift 4 none 4 0 0 [.ref x, .int (nI r), .int (nI s)] z h (fun r' z' h' => r' = none ∧ z' = z ∧ frO x z sa h h' ∧ h' (x + 13) = some (aI G 60 bg0) ∧ ((fdE kd p q W L (r, s) = 0 ∧ psAt G h' z x mk sa L (fun _ => F) (fun _ => W) fn fv fs tn tv ts kd p q bf len (va_up ta 0 (ta 0 + 1)) (sp + sbE kd p q W L (r, s)) (va_up f1 ks r) (va_up f2 ks s) (va_up f3 ks (shE W L (r, s))) (ks + 1) ff fg co) ∨ (fdE kd p q W L (r, s) ≠ 0 ∧ psAt G h' z x mk sa L (fun _ => F) (fun _ => W) fn fv fs tn tv ts kd p q bf len (va_up ta (fdE kd p q W L (r, s)) (ta (fdE kd p q W L (r, s)) + 1)) (sp + sbE kd p q W L (r, s)) f1 f2 f3 ks ff fg co))) := by
  refine Ct.of (lv := [_, _, _, _]) (by decide) (Nat.le_of_ble_eq_true rfl) rfl ?_
  rintro X rfl hX hR hnm
  obtain ⟨⟨hx, hsa⟩, ⟨hF, hFO⟩, ⟨hT, hTO⟩, ⟨hm, hM⟩, ⟨⟨nf, hp⟩, hPO⟩, ⟨s0, s1, s2, ho⟩, ⟨bg, hbg⟩, hta, ⟨⟨ab, bw, hk⟩, hks⟩, ⟨hn, hnO⟩, hS, hmk, hnone, hxz, hco⟩ := id hP
  have hn2 : (L s).Nodup := nd_of (hS.1 s q2 hs2).1.nd
  have l1 := bgn_le kd p q W (L r)
  have l2 := bgn_le kd p q W (L s)
  refine V_aload_n (pc' := 1) hX dX7_sift_0 rfl rfl ?_
  refine V_aload_n (pc' := 2) hX dX7_sift_1 rfl rfl ?_
  refine V_get (pc' := 5) hX dX7_sift_2 hx rfl inX7 0 (by decide) wF_X7_11 rfl rfl ?_
  refine V_iload_n (pc' := 6) hX dX7_sift_5 rfl rfl ?_
  refine V_aaldN (pc' := 7) (v := .ref q1) hX dX7_sift_6 hsa (by omega) (by omega) (by rw [hs1]; rfl) rfl ?_
  refine V_aload_n (pc' := 8) hX dX7_sift_7 rfl rfl ?_
  refine V_get (pc' := 11) hX dX7_sift_8 hx rfl inX7 7 (by decide) wF_X7_48 rfl rfl ?_
  refine V_iload_n (pc' := 12) hX dX7_sift_11 rfl rfl ?_
  refine V_ialdN (pc' := 13) (v := nI (bgn kd p q W (L r))) hX dX7_sift_12 hbg0 (by omega) (by omega) (by rw [hb1]) rfl ?_
  refine V_aload_n (pc' := 14) hX dX7_sift_13 rfl rfl ?_
  refine V_get (pc' := 17) hX dX7_sift_14 hx rfl inX7 0 (by decide) wF_X7_11 rfl rfl ?_
  refine V_iload_n (pc' := 18) hX dX7_sift_17 rfl rfl ?_
  refine V_aaldN (pc' := 19) (v := .ref q2) hX dX7_sift_18 hsa (by omega) (by omega) (by rw [hs2]; rfl) rfl ?_
  refine V_aload_n (pc' := 20) hX dX7_sift_19 rfl rfl ?_
  refine V_get (pc' := 23) hX dX7_sift_20 hx rfl inX7 7 (by decide) wF_X7_48 rfl rfl ?_
  refine V_iload_n (pc' := 24) hX dX7_sift_23 rfl rfl ?_
  refine V_ialdN (pc' := 25) (v := nI (bgn kd p q W (L s))) hX dX7_sift_24 hbg0 (by omega) (by omega) (by rw [hb2]) rfl ?_
  refine V_callV (nA := 4) (pc' := 28) (k' := 0) (n' := 0) hX dX7_sift_25 (c_PS_fateOf r s q1 q2 _ _ hs1 hs2 l1 l2 hP) hx rfl wM_X7_205 wI_X7_fateOf wL_X7_fateOf wN_X7 wC_X7_fateOf rfl hy_X7_fateOf rfl (Nat.le_of_ble_eq_true rfl) (by decide) (by omega) rfl rfl (by omega) rfl (by omega) rfl ?_
  rintro _ z h1 ⟨mb, rfl, rfl, g1, g2, g3, g4⟩
  have g5 := mbL_F hn2 g3
  subst g5
  rw [show fateN kd p q (amL W (L r)) (amL W (L s)) (sbL (bgn kd p q W (L r)) (bgn kd p q W (L s)) (L r) (L s)) (mbF W (L r) (L s)) (shL W (L r) (L s)) = fdE kd p q W L (r, s) from rfl]
  have hf5 : fdE kd p q W L (r, s) < 5 := fateN_lt _ _ _ _ _ _ _ _
  obtain ⟨fd, efd⟩ : ∃ fd, fd = fdE kd p q W L (r, s) := ⟨_, rfl⟩
  rw [← efd] at hf5 ⊢
  have hbg1 := (g1 _ (by omega)).trans hbg0
  obtain ⟨⟨hx, hsa⟩, ⟨hF, hFO⟩, ⟨hT, hTO⟩, ⟨hm, hM⟩, ⟨⟨nf, hp⟩, hPO⟩, ⟨s0, s1, s2, ho⟩, ⟨bg, hbg⟩, hta, ⟨⟨ab, bw, hk⟩, hks⟩, ⟨hn, hnO⟩, hS, hmk, hnone, hxz, hco⟩ := id g4
  refine V.stk (st' := [_]) rfl ?_
  refine V_istore_n (pc' := 29) (lv' := [_, _, _, _]) hX dX7_sift_28 (Nat.le_of_ble_eq_true rfl) rfl rfl ?_
  refine V_aload_n (pc' := 30) hX dX7_sift_29 rfl rfl ?_
  refine V_get (pc' := 33) hX dX7_sift_30 hx rfl inX7 8 (by decide) wF_X7_52 rfl rfl ?_
  refine V_iload_n (pc' := 34) hX dX7_sift_33 rfl rfl ?_
  refine V_dup2_11 (pc' := 35) hX dX7_sift_34 rfl rfl rfl ?_
  refine V_ialdN (pc' := 36) hX dX7_sift_35 hta (by omega) (by omega) rfl rfl ?_
  refine V_iconst (pc' := 37) (v := nI 1) hX dX7_sift_36 (by decide) rfl ?_
  refine V_iaddN (pc' := 38) hX dX7_sift_37 rfl ?_
  refine V_iastN (pc' := 39) hX dX7_sift_38 hta (by omega) (by omega) rfl ?_
  refine V.gen (fun h2 eh2 => ?_)
  have hf2 := fr.of_up eh2
  have hP2 := g4.uY (up_at eh2) hf2
  have g2 := (hf2 _ (by omega)).trans g2
  have hbg1 := (hf2 _ (by omega)).trans hbg1
  obtain ⟨⟨hx, hsa⟩, ⟨hF, hFO⟩, ⟨hT, hTO⟩, ⟨hm, hM⟩, ⟨⟨nf, hp⟩, hPO⟩, ⟨s0, s1, s2, ho⟩, ⟨bg, hbg⟩, hta, ⟨⟨ab, bw, hk⟩, hks⟩, ⟨hn, hnO⟩, hS, hmk, hnone, hxz, hco⟩ := id hP2
  refine V_aload_n (pc' := 40) hX dX7_sift_39 rfl rfl ?_
  refine V_dup (pc' := 41) hX dX7_sift_40 rfl rfl ?_
  refine V_get (pc' := 44) hX dX7_sift_41 hx rfl inX7 9 (by decide) wF_X7_261 rfl rfl ?_
  refine V_aload_n (pc' := 45) hX dX7_sift_44 rfl rfl ?_
  refine V_get (pc' := 48) hX dX7_sift_45 hx rfl inX7 6 (by decide) wF_X7_44 rfl rfl ?_
  refine V_getN (pc' := 51) hX dX7_sift_48 g2 rfl inX4 1 (by decide) wFn_X7_283 rfl rfl ?_
  refine V_iaddN (pc' := 52) hX dX7_sift_51 rfl ?_
  refine V_put (pc' := 55) (fs' := [_, _, _, _, _, _, _, _, _, _, _, _, _]) (ty0 := tyX7) hX dX7_sift_52 hx rfl inX7 tyX7_ok nmX7 9 (by decide) wF_X7_261 rfl (tyX7_ok 9 (by decide)) rfl rfl (Nat.le_of_ble_eq_true rfl) rfl rfl ?_
  refine V.gen (fun h3 eh3 => ?_)
  have hf3 := fr.of_up eh3
  have hP3 := hP2.uA (up_at eh3) ((hf3 _ (by omega)).trans hsa) hmk hnone hco (fun r q9 e => e) (hf3.mono (by omega) (by omega))
  have g2 := (hf3 _ (by omega)).trans g2
  have hbg1 := (hf3 _ (by omega)).trans hbg1
  have g8 : frO x z sa h h3 := ((frO.of g1 (by omega) (by omega)).tr (frO.of hf2 (by omega) (by omega))).tr (frO.of hf3 (by omega) (by omega))
  obtain ⟨⟨hx, hsa⟩, ⟨hF, hFO⟩, ⟨hT, hTO⟩, ⟨hm, hM⟩, ⟨⟨nf, hp⟩, hPO⟩, ⟨s0, s1, s2, ho⟩, ⟨bg, hbg⟩, hta, ⟨⟨ab, bw, hk⟩, hks⟩, ⟨hn, hnO⟩, hS, hmk, hnone, hxz, hco⟩ := id hP3
  refine V_iload_n (pc' := 56) hX dX7_sift_55 rfl rfl ?_
  refine V_if_neN (pt := 75) (pc' := 59) hX dX7_sift_56 (by omega) rfl rfl (fun c56 => ?_) (fun c56 => ?_)
  · refine V_vret hX hR dX7_sift_75 ?_
    rw [← efd]
    exact ⟨rfl, rfl, g8, hbg1, Or.inr ⟨c56, hP3⟩⟩
  · refine V_aload_n (pc' := 60) hX dX7_sift_59 rfl rfl ?_
    refine V_get (pc' := 63) hX dX7_sift_60 hx rfl inX7 10 (by decide) wF_X7_58 rfl rfl ?_
    refine V_iload_n (pc' := 64) hX dX7_sift_63 rfl rfl ?_
    refine V_iload_n (pc' := 65) hX dX7_sift_64 rfl rfl ?_
    refine V_aload_n (pc' := 66) hX dX7_sift_65 rfl rfl ?_
    refine V_get (pc' := 69) hX dX7_sift_66 hx rfl inX7 6 (by decide) wF_X7_44 rfl rfl ?_
    refine V_getN (pc' := 72) hX dX7_sift_69 g2 rfl inX4 0 (by decide) wFn_X7_184 rfl rfl ?_
    refine V_callV (nA := 3) (pc' := 75) (k' := 0) (n' := 0) hX dX7_sift_72 (c_Kp_append r s (shL W (L r) (L s)) hkl hk) hk.1 rfl wM_X7_294 wI_X0_append wL_X0_append wN_X0 wC_X0_append rfl hy_X0_append rfl (Nat.le_of_ble_eq_true rfl) (by decide) (by omega) rfl rfl (by omega) rfl (by omega) rfl ?_
    rintro _ z h4 ⟨rfl, rfl, k1, k2⟩
    have hP4 := hP3.uK k1 (by omega) k2
    refine V.stk (st' := []) rfl ?_
    refine V_vret hX hR dX7_sift_75 ?_
    have e0 : fd = 0 := by omega
    subst e0
    rw [← efd]
    exact ⟨rfl, rfl, g8.tr (frO.of k2 (by omega) (by omega)), (k2 _ (by omega)).trans hbg1, Or.inl ⟨rfl, hP4⟩⟩
set_option maxRecDepth 100000 in
set_option maxHeartbeats 4000000 in
theorem c_PS_pairs {G : Gd} {h : AH} {z x : Nat} {mk : Nat} {sa : Nat → Option Nat} {L : Nat → List Nat} {F : Nat → Nat} {W : Nat → Nat} {fn : Nat → Nat} {fv : Nat → Nat} {fs : Nat} {tn : Nat → Nat} {tv : Nat → Nat} {ts : Nat} {kd : Nat} {p : Nat} {q : Nat} {bf : Nat → Nat} {len : Nat} {ta : Nat → Nat} {sp : Nat} {f1 : Nat → Nat} {f2 : Nat → Nat} {f3 : Nat → Nat} {ks : Nat} {ff : Nat → Nat} {fg : Nat} {co : Nat} (hP : psAt G h z x mk sa L (fun _ => F) (fun _ => W) fn fv fs tn tv ts kd p q bf len ta sp f1 f2 f3 ks ff fg co) : Ct G yX7_pairs cX7_pairs 3 (some .int) 5 0 0 [.ref x] z h (fun r' z' h' => z' = z ∧ frO x z sa h h' ∧ ∃ ta' sp' g1 g2 g3 ks', svOk kd p q W L (prL (al sa) mk mk) ta' sp' g1 g2 g3 ks' ∧ r' = some (.int (nI (ta' 0))) ∧ psAt G h' z x mk sa L (fun _ => F) (fun _ => W) fn fv fs tn tv ts kd p q bf len (ta') (sp') (g1) (g2) (g3) (ks') ff fg co) := by
  refine Ct.of (lv := [_, _, _]) (by decide) (Nat.le_of_ble_eq_true rfl) rfl ?_
  rintro X rfl hX hR hnm
  obtain ⟨⟨hx, hsa⟩, ⟨hF, hFO⟩, ⟨hT, hTO⟩, ⟨hm, hM⟩, ⟨⟨nf, hp⟩, hPO⟩, ⟨s0, s1, s2, ho⟩, ⟨bg, hbg⟩, hta, ⟨⟨ab, bw, hk⟩, hks⟩, ⟨hn, hnO⟩, hS, hmk, hnone, hxz, hco⟩ := id hP
  refine V_aload_n (pc' := 1) hX dX7_pairs_0 rfl rfl ?_
  refine V_callV (nA := 0) (pc' := 4) (k' := 0) (n' := 0) hX dX7_pairs_1 (c_PS_startSieve hP) hx rfl wM_X7_209 wI_X7_startSieve wL_X7_startSieve wN_X7 wC_X7_startSieve rfl hy_X7_startSieve rfl (Nat.le_of_ble_eq_true rfl) (by decide) (by omega) rfl rfl (by omega) rfl (by omega) rfl ?_
  rintro _ z h1 ⟨rfl, rfl, g1, bg0, ta1, g2, g3, g4, hP1⟩
  refine V.stk (st' := []) rfl ?_
  refine V_iconst (pc' := 5) (v := nI 0) hX dX7_pairs_4 (by decide) rfl ?_
  refine V_istore_n (pc' := 6) (lv' := [_, _, _]) hX dX7_pairs_5 (Nat.le_of_ble_eq_true rfl) rfl rfl ?_
  have lp : ∀ (μ i : Nat) (h2 : AH) (ta2 : Nat → Nat) (sp2 : Nat) (k1 k2 k3 : Nat → Nat) (ks2 : Nat), i ≤ mk → h2 (x + 13) = some (aI X.G 60 bg0) → svOk kd p q W L (prL (al sa) mk i) ta2 sp2 k1 k2 k3 ks2 → frO x z sa h h2 → psAt X.G h2 z x mk sa L (fun _ => F) (fun _ => W) fn fv fs tn tv ts kd p q bf len (ta2) (sp2) (k1) (k2) (k3) (ks2) ff fg co → mk - i < μ → V X 0 0 z h2 6 [some (.ref x), some (.int (nI i)), none] [] := by
    intro μ
    induction μ with
    | zero => intros; omega
    | succ μ ih =>
      intro i h2 ta2 sp2 k1 k2 k3 ks2 b1 b2 b3 b4 hP b5
      obtain ⟨⟨hx, hsa⟩, ⟨hF, hFO⟩, ⟨hT, hTO⟩, ⟨hm, hM⟩, ⟨⟨nf, hp⟩, hPO⟩, ⟨s0, s1, s2, ho⟩, ⟨bg, hbg⟩, hta, ⟨⟨ab, bw, hk⟩, hks⟩, ⟨hn, hnO⟩, hS, hmk, hnone, hxz, hco⟩ := id hP
      refine V_iload_n (pc' := 7) hX dX7_pairs_6 rfl rfl ?_
      refine V_aload_n (pc' := 8) hX dX7_pairs_7 rfl rfl ?_
      refine V_get (pc' := 11) hX dX7_pairs_8 hx rfl inX7 1 (by decide) wF_X7_69 rfl rfl ?_
      refine V_icmp_geN (pt := 62) (pc' := 14) hX dX7_pairs_11 (by omega) (by omega) rfl rfl (fun c11 => ?_) (fun c11 => ?_)
      · refine V_aload_n (pc' := 63) hX dX7_pairs_62 rfl rfl ?_
        refine V_get (pc' := 66) hX dX7_pairs_63 hx rfl inX7 8 (by decide) wF_X7_52 rfl rfl ?_
        refine V_iconst (pc' := 67) (v := nI 0) hX dX7_pairs_66 (by decide) rfl ?_
        refine V_ialdN (pc' := 68) hX dX7_pairs_67 hta (by omega) (by omega) rfl rfl ?_
        refine V_iret hX hR dX7_pairs_68 ?_
        have ei : mk = i := by omega
        subst ei
        exact ⟨rfl, b4, ta2, sp2, k1, k2, k3, ks2, b3, rfl, hP⟩
      · have ihO := ih
        refine V_iload_n (pc' := 15) hX dX7_pairs_14 rfl rfl ?_
        refine V_iconst (pc' := 16) (v := nI 1) hX dX7_pairs_15 (by decide) rfl ?_
        refine V_iaddN (pc' := 17) hX dX7_pairs_16 rfl ?_
        refine V_istore_n (pc' := 18) (lv' := [_, _, _]) hX dX7_pairs_17 (Nat.le_of_ble_eq_true rfl) rfl rfl ?_
        have lq : ∀ (ν s : Nat) (h3 : AH) (ta3 : Nat → Nat) (sp3 : Nat) (k4 k5 k6 : Nat → Nat) (ks3 : Nat), i < s → s ≤ mk → h3 (x + 13) = some (aI X.G 60 bg0) → svOk kd p q W L (prL (al sa) mk i ++ prS (al sa) i s) ta3 sp3 k4 k5 k6 ks3 → frO x z sa h h3 → psAt X.G h3 z x mk sa L (fun _ => F) (fun _ => W) fn fv fs tn tv ts kd p q bf len (ta3) (sp3) (k4) (k5) (k6) (ks3) ff fg co → mk - s < ν → V X 0 0 z h3 18 [some (.ref x), some (.int (nI i)), some (.int (nI s))] [] := by
          intro μ
          induction μ with
          | zero => intros; omega
          | succ μ ih =>
            intro s h3 ta3 sp3 k4 k5 k6 ks3 e0 e1 e2 e3 e4 hP e5
            obtain ⟨⟨hx, hsa⟩, ⟨hF, hFO⟩, ⟨hT, hTO⟩, ⟨hm, hM⟩, ⟨⟨nf, hp⟩, hPO⟩, ⟨s0, s1, s2, ho⟩, ⟨bg, hbg⟩, hta, ⟨⟨ab, bw, hk⟩, hks⟩, ⟨hn, hnO⟩, hS, hmk, hnone, hxz, hco⟩ := id hP
            refine V_iload_n (pc' := 19) hX dX7_pairs_18 rfl rfl ?_
            refine V_aload_n (pc' := 20) hX dX7_pairs_19 rfl rfl ?_
            refine V_get (pc' := 23) hX dX7_pairs_20 hx rfl inX7 1 (by decide) wF_X7_69 rfl rfl ?_
            refine V_icmp_geN (pt := 56) (pc' := 26) hX dX7_pairs_23 (by omega) (by omega) rfl rfl (fun c23 => ?_) (fun c23 => ?_)
            · refine V_iincN (pc' := 59) (j := 1) (lv' := [_, _, _]) hX dX7_pairs_56 rfl rfl rfl rfl ?_
              refine V_goto (pc' := 6) hX dX7_pairs_59 rfl ?_
              refine V.loc2 (lv' := [some _, some _, none]) ⟨rfl, rfl, trivial⟩ ?_
              exact ihO (i + 1) _ _ _ _ _ _ _ (by omega) e2 (by rw [prL_s, show mk = s by omega]; rw [show mk = s by omega] at e3; exact e3) e4 hP (by omega)
            · refine V_aload_n (pc' := 27) hX dX7_pairs_26 rfl rfl ?_
              refine V_get (pc' := 30) hX dX7_pairs_27 hx rfl inX7 0 (by decide) wF_X7_11 rfl rfl ?_
              refine V_iload_n (pc' := 31) hX dX7_pairs_30 rfl rfl ?_
              rcases hs1 : sa i with _ | q1
              · refine V_aaldN (pc' := 32) (v := .null) hX dX7_pairs_31 hsa (by omega) (by omega) (by rw [hs1]; rfl) rfl ?_
                refine V_ifnullN (pc' := 50) hX dX7_pairs_32 rfl ?_
                first
                  | (rcases dd with ⟨d5, hP⟩ | ⟨d5, hP⟩
                     · have d3 := e3.yes d5 rfl
                       rw [List.append_assoc, ← ep] at d3
                       refine V_iincN (pc' := 53) (j := 1) (lv' := [_, _, _]) hX dX7_pairs_50 rfl rfl rfl rfl ?_
                       refine V_goto (pc' := 18) hX dX7_pairs_53 rfl ?_
                       exact ih (s + 1) _ _ _ _ _ _ _ (by omega) (by omega) d2 d3 d4 hP (by omega)
                     · have d3 := e3.no rfl d5
                       rw [List.append_assoc, ← ep] at d3
                       refine V_iincN (pc' := 53) (j := 1) (lv' := [_, _, _]) hX dX7_pairs_50 rfl rfl rfl rfl ?_
                       refine V_goto (pc' := 18) hX dX7_pairs_53 rfl ?_
                       exact ih (s + 1) _ _ _ _ _ _ _ (by omega) (by omega) d2 d3 d4 hP (by omega))
                  | (have ep : prS (al sa) i (s + 1) = prS (al sa) i s := by
                       rw [prS_s, if_neg (fun e => by
                         first
                           | (have := e.2.1; unfold al at this; rw [hs1] at this; cases this; done)
                           | (have := e.2.2; unfold al at this; rw [hs2] at this; cases this; done)), List.append_nil]
                     refine V_iincN (pc' := 53) (j := 1) (lv' := [_, _, _]) hX dX7_pairs_50 rfl rfl rfl rfl ?_
                     refine V_goto (pc' := 18) hX dX7_pairs_53 rfl ?_
                     exact ih (s + 1) _ _ _ _ _ _ _ (by omega) (by omega) e2 (by rw [ep]; exact e3) e4 hP (by omega))
              · refine V_aaldN (pc' := 32) (v := .ref q1) hX dX7_pairs_31 hsa (by omega) (by omega) (by rw [hs1]; rfl) rfl ?_
                refine V_ifnull (pc' := 35) hX dX7_pairs_32 rfl ?_
                refine V_aload_n (pc' := 36) hX dX7_pairs_35 rfl rfl ?_
                refine V_get (pc' := 39) hX dX7_pairs_36 hx rfl inX7 0 (by decide) wF_X7_11 rfl rfl ?_
                refine V_iload_n (pc' := 40) hX dX7_pairs_39 rfl rfl ?_
                rcases hs2 : sa s with _ | q2
                · refine V_aaldN (pc' := 41) (v := .null) hX dX7_pairs_40 hsa (by omega) (by omega) (by rw [hs2]; rfl) rfl ?_
                  refine V_ifnullN (pc' := 50) hX dX7_pairs_41 rfl ?_
                  first
                    | (rcases dd with ⟨d5, hP⟩ | ⟨d5, hP⟩
                       · have d3 := e3.yes d5 rfl
                         rw [List.append_assoc, ← ep] at d3
                         refine V_iincN (pc' := 53) (j := 1) (lv' := [_, _, _]) hX dX7_pairs_50 rfl rfl rfl rfl ?_
                         refine V_goto (pc' := 18) hX dX7_pairs_53 rfl ?_
                         exact ih (s + 1) _ _ _ _ _ _ _ (by omega) (by omega) d2 d3 d4 hP (by omega)
                       · have d3 := e3.no rfl d5
                         rw [List.append_assoc, ← ep] at d3
                         refine V_iincN (pc' := 53) (j := 1) (lv' := [_, _, _]) hX dX7_pairs_50 rfl rfl rfl rfl ?_
                         refine V_goto (pc' := 18) hX dX7_pairs_53 rfl ?_
                         exact ih (s + 1) _ _ _ _ _ _ _ (by omega) (by omega) d2 d3 d4 hP (by omega))
                    | (have ep : prS (al sa) i (s + 1) = prS (al sa) i s := by
                         rw [prS_s, if_neg (fun e => by
                           first
                             | (have := e.2.1; unfold al at this; rw [hs1] at this; cases this; done)
                             | (have := e.2.2; unfold al at this; rw [hs2] at this; cases this; done)), List.append_nil]
                       refine V_iincN (pc' := 53) (j := 1) (lv' := [_, _, _]) hX dX7_pairs_50 rfl rfl rfl rfl ?_
                       refine V_goto (pc' := 18) hX dX7_pairs_53 rfl ?_
                       exact ih (s + 1) _ _ _ _ _ _ _ (by omega) (by omega) e2 (by rw [ep]; exact e3) e4 hP (by omega))
                · refine V_aaldN (pc' := 41) (v := .ref q2) hX dX7_pairs_40 hsa (by omega) (by omega) (by rw [hs2]; rfl) rfl ?_
                  refine V_ifnull (pc' := 44) hX dX7_pairs_41 rfl ?_
                  refine V_aload_n (pc' := 45) hX dX7_pairs_44 rfl rfl ?_
                  refine V_iload_n (pc' := 46) hX dX7_pairs_45 rfl rfl ?_
                  refine V_iload_n (pc' := 47) hX dX7_pairs_46 rfl rfl ?_
                  refine V_callV (nA := 2) (pc' := 50) (k' := 0) (n' := 0) hX dX7_pairs_47 (c_PS_sift i s q1 q2 (by omega) (by omega) hs1 hs2 (g4 i q1 hs1) (g4 s q2 hs2) e2 (by
                        have h8 := e3.2.2.1
                        have h9 := prLS_len (al := al sa) hmk (r := i) (s := s) (by omega) (by omega)
                        have h7 : (cnE kd p q W L (prL (al sa) mk i ++ prS (al sa) i s) 0).length ≤ (prL (al sa) mk i ++ prS (al sa) i s).length := List.length_filter_le _ _
                        omega) hP) hx rfl wM_X7_212 wI_X7_sift wL_X7_sift wN_X7 wC_X7_sift rfl hy_X7_sift rfl (Nat.le_of_ble_eq_true rfl) (by decide) (by omega) rfl rfl (by omega) rfl (by omega) rfl ?_
                  rintro _ z h4 ⟨rfl, rfl, d4, d2, dd⟩
                  have d4 := e4.tr d4
                  have ep : prS (al sa) i (s + 1) = prS (al sa) i s ++ [(i, s)] := by
                    rw [prS_s, if_pos ⟨e0, by unfold al; rw [hs1]; rfl, by unfold al; rw [hs2]; rfl⟩]
                  refine V.stk (st' := []) rfl ?_
                  first
                    | (rcases dd with ⟨d5, hP⟩ | ⟨d5, hP⟩
                       · have d3 := e3.yes d5 rfl
                         rw [List.append_assoc, ← ep] at d3
                         refine V_iincN (pc' := 53) (j := 1) (lv' := [_, _, _]) hX dX7_pairs_50 rfl rfl rfl rfl ?_
                         refine V_goto (pc' := 18) hX dX7_pairs_53 rfl ?_
                         exact ih (s + 1) _ _ _ _ _ _ _ (by omega) (by omega) d2 d3 d4 hP (by omega)
                       · have d3 := e3.no rfl d5
                         rw [List.append_assoc, ← ep] at d3
                         refine V_iincN (pc' := 53) (j := 1) (lv' := [_, _, _]) hX dX7_pairs_50 rfl rfl rfl rfl ?_
                         refine V_goto (pc' := 18) hX dX7_pairs_53 rfl ?_
                         exact ih (s + 1) _ _ _ _ _ _ _ (by omega) (by omega) d2 d3 d4 hP (by omega))
                    | (have ep : prS (al sa) i (s + 1) = prS (al sa) i s := by
                         rw [prS_s, if_neg (fun e => by
                           first
                             | (have := e.2.1; unfold al at this; rw [hs1] at this; cases this; done)
                             | (have := e.2.2; unfold al at this; rw [hs2] at this; cases this; done)), List.append_nil]
                       refine V_iincN (pc' := 53) (j := 1) (lv' := [_, _, _]) hX dX7_pairs_50 rfl rfl rfl rfl ?_
                       refine V_goto (pc' := 18) hX dX7_pairs_53 rfl ?_
                       exact ih (s + 1) _ _ _ _ _ _ _ (by omega) (by omega) e2 (by rw [ep]; exact e3) e4 hP (by omega))
        exact lq (mk + 1) (i + 1) h2 ta2 sp2 k1 k2 k3 ks2 (by omega) (by omega) b2 (by rw [prS_nil (Nat.le_refl _), List.append_nil]; exact b3) b4 hP (by omega)
  refine V.loc2 (lv' := [some _, some _, none]) ⟨rfl, rfl, trivial⟩ ?_
  exact lp (mk + 1) 0 _ ta1 0 f1 f2 f3 0 (by omega) g3 (svOk.nil g2) g1 hP1 (by omega)
