theorem stpN_bd {ff : Nat → Nat} {r : Nat} : ∀ {k t seen ed u : Nat}, stpN ff r k t seen ed = some u → u < t + k
  | 0, t, seen, ed, u, h => by cases h
  | k + 1, t, seen, ed, u, h => by
    unfold stpN at h
    split at h
    · cases h
    · split at h
      · cases h; omega
      · have := stpN_bd h; omega
def cntV (a b : Nat) (ta : Nat → Nat) (sp kd p q len ks : Nat) (what : Int32) : Int32 := if what = nI 0 then nI a else if what = nI 1 then nI b else if what = nI 2 then nI (ta 0) else if what = nI 3 then nI (ta 4) else if what = nI 4 then nI (ta 2) else if what = nI 5 then nI (ta 3) else if what = nI 6 then nI (ta 1) else if what = nI 7 then nI sp else if what = nI 9 then nI kd else if what = nI 10 then nI p else if what = nI 11 then nI q else if what = nI 12 then nI len else if what = nI 13 then nI ks else -1
theorem cntV_out {a b : Nat} {ta : Nat → Nat} {sp kd p q len ks : Nat} {what : Int32} (h : what.toInt < 0 ∨ 13 < what.toInt) : cntV a b ta sp kd p q len ks what = -1 := by
  unfold cntV
  have e : ∀ k, k < 14 → what ≠ nI k := fun k hk e => by
    rw [e, nI_toInt (by omega)] at h; omega
  rw [if_neg (e 0 (by omega)), if_neg (e 1 (by omega)), if_neg (e 2 (by omega)), if_neg (e 3 (by omega)), if_neg (e 4 (by omega)), if_neg (e 5 (by omega)), if_neg (e 6 (by omega)), if_neg (e 7 (by omega)), if_neg (e 9 (by omega)), if_neg (e 10 (by omega)), if_neg (e 11 (by omega)), if_neg (e 12 (by omega)), if_neg (e 13 (by omega))]
set_option maxRecDepth 100000 in
set_option maxHeartbeats 4000000 in
theorem c_PS_freshNet {G : Gd} {h : AH} {z x : Nat} {mk : Nat} {sa : Nat → Option Nat} {L : Nat → List Nat} {F : Nat → Nat} {W : Nat → Nat} {fn : Nat → Nat} {fv : Nat → Nat} {fs : Nat} {tn : Nat → Nat} {tv : Nat → Nat} {ts : Nat} {kd : Nat} {p : Nat} {q : Nat} {bf : Nat → Nat} {len : Nat} {ta : Nat → Nat} {sp : Nat} {f1 : Nat → Nat} {f2 : Nat → Nat} {f3 : Nat → Nat} {ks : Nat} {ff : Nat → Nat} {fg : Nat} {co : Nat} (hNI : nInv kd p q W sa L mk ff fg) (hP : psAt G h z x mk sa L (fun _ => F) (fun _ => W) fn fv fs tn tv ts kd p q bf len ta sp f1 f2 f3 ks ff fg co) : Ct G yX7_freshNet cX7_freshNet 3 (some (.object "PairSieve$Net")) 4 0 0 [.ref x] z h (fun r' z' h' => r' = some (.ref (x + 21)) ∧ z' = z ∧ fr (x + 12) (x + 23) h h' ∧ ∃ ff' fg', nFr kd p q W sa L ff' ∧ nInv kd p q W sa L mk ff' fg' ∧ psAt G h' z x mk sa L (fun _ => F) (fun _ => W) fn fv fs tn tv ts kd p q bf len ta sp f1 f2 f3 ks (ff') (fg') co) := by
  refine Ct.of (lv := [_, _, _]) (by decide) (Nat.le_of_ble_eq_true rfl) rfl ?_
  rintro X rfl hX hR hnm
  obtain ⟨⟨hx, hsa⟩, ⟨hF, hFO⟩, ⟨hT, hTO⟩, ⟨hm, hM⟩, ⟨⟨nf, hp⟩, hPO⟩, ⟨s0, s1, s2, ho⟩, ⟨bg, hbg⟩, hta, ⟨⟨ab, bw, hk⟩, hks⟩, ⟨hn, hnO⟩, hS, hmk, hnone, hxz, hco⟩ := id hP
  have hND : ∀ r, (sa r).isSome = true → (L r).Nodup := fun r hr => by
    obtain ⟨q9, e9⟩ := Option.isSome_iff_exists.mp hr
    exact nd_of (hS.1 r q9 e9).1.nd
  refine V_iconst (pc' := 1) (v := nI 0) hX dX7_freshNet_0 (by decide) rfl ?_
  refine V_istore_n (pc' := 2) (lv' := [_, _, _]) hX dX7_freshNet_1 (Nat.le_of_ble_eq_true rfl) rfl rfl ?_
  have lp : ∀ (μ i : Nat) (h2 : AH) (ff2 : Nat → Nat) (fg2 : Nat), i ≤ mk → (∀ r, r < i → fg2.testBit r = false) → nInv kd p q W sa L mk ff2 fg2 → fr (x + 12) (x + 23) h h2 → psAt X.G h2 z x mk sa L (fun _ => F) (fun _ => W) fn fv fs tn tv ts kd p q bf len ta sp f1 f2 f3 ks (ff2) (fg2) co → mk - i < μ → V X 0 0 z h2 2 [some (.ref x), some (.int (nI i)), none] [] := by
    intro μ
    induction μ with
    | zero => intros; omega
    | succ μ ih =>
      intro i h2 ff2 fg2 b1 b2 b3 b4 hP b5
      obtain ⟨⟨hx, hsa⟩, ⟨hF, hFO⟩, ⟨hT, hTO⟩, ⟨hm, hM⟩, ⟨⟨nf, hp⟩, hPO⟩, ⟨s0, s1, s2, ho⟩, ⟨bg, hbg⟩, hta, ⟨⟨ab, bw, hk⟩, hks⟩, ⟨hn, hnO⟩, hS, hmk, hnone, hxz, hco⟩ := id hP
      refine V_iload_n (pc' := 3) hX dX7_freshNet_2 rfl rfl ?_
      refine V_aload_n (pc' := 4) hX dX7_freshNet_3 rfl rfl ?_
      refine V_get (pc' := 7) hX dX7_freshNet_4 hx rfl inX7 1 (by decide) wF_X7_69 rfl rfl ?_
      refine V_icmp_geN (pt := 82) (pc' := 10) hX dX7_freshNet_7 (by omega) (by omega) rfl rfl (fun c7 => ?_) (fun c7 => ?_)
      · refine V_aload_n (pc' := 83) hX dX7_freshNet_82 rfl rfl ?_
        refine V_get (pc' := 86) hX dX7_freshNet_83 hx rfl inX7 11 (by decide) wF_X7_65 rfl rfl ?_
        refine V_aret hX hR ⟨_, rfl⟩ dX7_freshNet_86 (Or.inr ⟨_, rfl⟩) ?_
        have ei : i = mk := by omega
        subst ei
        exact ⟨rfl, rfl, b4, ff2, fg2, b3.fr b2 hnone, b3, hP⟩
      · refine V_aload_n (pc' := 11) hX dX7_freshNet_10 rfl rfl ?_
        refine V_get (pc' := 14) hX dX7_freshNet_11 hx rfl inX7 11 (by decide) wF_X7_65 rfl rfl ?_
        refine V_iload_n (pc' := 15) hX dX7_freshNet_14 rfl rfl ?_
        refine V_callV (nA := 1) (pc' := 18) (k' := 0) (n' := 0) hX dX7_freshNet_15 (c_Nt_isForgotten i (by omega) hn hnO) hn.1 rfl wM_X7_311 wI_X2_isForgotten wL_X2_isForgotten wN_X2 wC_X2_isForgotten rfl hy_X2_isForgotten rfl (Nat.le_of_ble_eq_true rfl) (by decide) (by omega) rfl rfl (by omega) rfl (by omega) rfl ?_
        rintro _ z h2 ⟨rfl, rfl, rfl⟩
        refine V.stk (st' := [_]) rfl ?_
        refine V_if_eqB (pt := 76) (pc' := 21) hX dX7_freshNet_18 rfl rfl (fun c18 => ?_) (fun c18 => ?_)
        · refine V_iincN (pc' := 79) (j := 1) (lv' := [_, _, _]) hX dX7_freshNet_76 rfl rfl rfl rfl ?_
          refine V_goto (pc' := 2) hX dX7_freshNet_79 rfl ?_
          refine V.loc2 (lv' := [some _, some _, none]) ⟨rfl, rfl, trivial⟩ ?_
          first
            | exact ihO (i + 1) _ _ _ (by omega) hlow hni (e3.tr (k2.mono (by omega) (by omega))) hP6 (by omega)
            | exact ih (i + 1) _ _ _ (by omega) (fun r hr => by
                by_cases e : r = i
                · rw [e]; exact c18
                · exact b2 r (by omega)) b3 b4 hP (by omega)
        · have ihO := ih
          refine V_iconst (pc' := 22) (v := nI 0) hX dX7_freshNet_21 (by decide) rfl ?_
          refine V_istore_n (pc' := 23) (lv' := [_, _, _]) hX dX7_freshNet_22 (Nat.le_of_ble_eq_true rfl) rfl rfl ?_
          have lq : ∀ (ν s : Nat) (h3 : AH) (ff3 : Nat → Nat), s ≤ mk → nMid kd p q W sa L mk ff3 fg2 i s → fr (x + 12) (x + 23) h h3 → psAt X.G h3 z x mk sa L (fun _ => F) (fun _ => W) fn fv fs tn tv ts kd p q bf len ta sp f1 f2 f3 ks (ff3) (fg2) co → mk - s < ν → V X 0 0 z h3 23 [some (.ref x), some (.int (nI i)), some (.int (nI s))] [] := by
            intro μ
            induction μ with
            | zero => intros; omega
            | succ μ ih =>
              intro s h3 ff3 e1 e2 e3 hP e4
              obtain ⟨⟨hx, hsa⟩, ⟨hF, hFO⟩, ⟨hT, hTO⟩, ⟨hm, hM⟩, ⟨⟨nf, hp⟩, hPO⟩, ⟨s0, s1, s2, ho⟩, ⟨bg, hbg⟩, hta, ⟨⟨ab, bw, hk⟩, hks⟩, ⟨hn, hnO⟩, hS, hmk, hnone, hxz, hco⟩ := id hP
              refine V_iload_n (pc' := 24) hX dX7_freshNet_23 rfl rfl ?_
              refine V_aload_n (pc' := 25) hX dX7_freshNet_24 rfl rfl ?_
              refine V_get (pc' := 28) hX dX7_freshNet_25 hx rfl inX7 1 (by decide) wF_X7_69 rfl rfl ?_
              refine V_icmp_geN (pt := 68) (pc' := 31) hX dX7_freshNet_28 (by omega) (by omega) rfl rfl (fun c28 => ?_) (fun c28 => ?_)
              · refine V_aload_n (pc' := 69) hX dX7_freshNet_68 rfl rfl ?_
                refine V_get (pc' := 72) hX dX7_freshNet_69 hx rfl inX7 11 (by decide) wF_X7_65 rfl rfl ?_
                refine V_iload_n (pc' := 73) hX dX7_freshNet_72 rfl rfl ?_
                refine V_callV (nA := 1) (pc' := 76) (k' := 0) (n' := 0) hX dX7_freshNet_73 (c_Nt_know i (by omega) hn hnO) hn.1 rfl wM_X7_321 wI_X2_know wL_X2_know wN_X2 wC_X2_know rfl hy_X2_know rfl (Nat.le_of_ble_eq_true rfl) (by decide) (by omega) rfl rfl (by omega) rfl (by omega) rfl ?_
                rintro _ z h6 ⟨rfl, rfl, k1, k2⟩
                have hP6 := hP.uN k1 ⟨hnO.1, nD_lt hnO.2⟩ k2
                have es : s = mk := by omega
                rw [es] at e2
                have hni := nMid.done e2 b2
                have hlow : ∀ r, r < i + 1 → (nD fg2 (2 ^ i)).testBit r = false := fun r hr => by
                  rw [nD_bit, Nat.testBit_two_pow]
                  by_cases e : r = i
                  · rw [decide_eq_true e.symm]; simp
                  · rw [b2 r (by omega)]; rfl
                refine V.stk (st' := []) rfl ?_
                refine V_iincN (pc' := 79) (j := 1) (lv' := [_, _, _]) hX dX7_freshNet_76 rfl rfl rfl rfl ?_
                refine V_goto (pc' := 2) hX dX7_freshNet_79 rfl ?_
                refine V.loc2 (lv' := [some _, some _, none]) ⟨rfl, rfl, trivial⟩ ?_
                first
                  | exact ihO (i + 1) _ _ _ (by omega) hlow hni (e3.tr (k2.mono (by omega) (by omega))) hP6 (by omega)
                  | exact ih (i + 1) _ _ _ (by omega) (fun r hr => by
                      by_cases e : r = i
                      · rw [e]; exact c18
                      · exact b2 r (by omega)) b3 b4 hP (by omega)
              · refine V_iload_n (pc' := 32) hX dX7_freshNet_31 rfl rfl ?_
                refine V_iload_n (pc' := 33) hX dX7_freshNet_32 rfl rfl ?_
                refine V_icmp_ltN (pt := 47) (pc' := 36) hX dX7_freshNet_33 (by omega) (by omega) rfl rfl (fun c33 => ?_) (fun c33 => ?_)
                · refine V_aload_n (pc' := 48) hX dX7_freshNet_47 rfl rfl ?_
                  refine V_get (pc' := 51) hX dX7_freshNet_48 hx rfl inX7 11 (by decide) wF_X7_65 rfl rfl ?_
                  refine V_iload_n (pc' := 52) hX dX7_freshNet_51 rfl rfl ?_
                  refine V_iload_n (pc' := 53) hX dX7_freshNet_52 rfl rfl ?_
                  refine V_aload_n (pc' := 54) hX dX7_freshNet_53 rfl rfl ?_
                  refine V_iload_n (pc' := 55) hX dX7_freshNet_54 rfl rfl ?_
                  refine V_iload_n (pc' := 56) hX dX7_freshNet_55 rfl rfl ?_
                  refine V_callV (nA := 2) (pc' := 59) (k' := 0) (n' := 0) hX dX7_freshNet_56 (c_PS_arePair i s (by omega) (by omega) hP) hx rfl wM_X7_314 wI_X7_arePair wL_X7_arePair wN_X7 wC_X7_arePair rfl hy_X7_arePair rfl (Nat.le_of_ble_eq_true rfl) (by decide) (by omega) rfl rfl (by omega) rfl (by omega) rfl ?_
                  rintro _ z h4 ⟨rfl, rfl, a1, hP4⟩
                  have hne : i ≠ s := by
                    first
                      | omega
                      | (intro e; rw [e, c44] at c18; cases c18)
                  obtain ⟨⟨hx, hsa⟩, ⟨hF, hFO⟩, ⟨hT, hTO⟩, ⟨hm, hM⟩, ⟨⟨nf, hp⟩, hPO⟩, ⟨s0, s1, s2, ho⟩, ⟨bg, hbg⟩, hta, ⟨⟨ab, bw, hk⟩, hks⟩, ⟨hn, hnO⟩, hS, hmk, hnone, hxz, hco⟩ := id hP4
                  refine V.stk (st' := [_, _, _, _]) rfl ?_
                  refine V_callV (nA := 3) (pc' := 62) (k' := 0) (n' := 0) hX dX7_freshNet_59 (c_Nt_tie i s (arB kd p q W sa L i s) (by omega) (by omega) hne hn hnO) hn.1 rfl wM_X7_317 wI_X2_tie wL_X2_tie wN_X2 wC_X2_tie rfl hy_X2_tie rfl (Nat.le_of_ble_eq_true rfl) (by decide) (by omega) rfl rfl (by omega) rfl (by omega) rfl ?_
                  rintro _ z h5 ⟨rfl, rfl, t1, t2⟩
                  have hP5 := hP4.uN (ff' := tieF ff3 i s (arB kd p q W sa L i s)) t1 (tieF_ok hnO (by omega) (by omega)) t2
                  have hmid := nMid.tie hND e2 (by omega) (by omega) hne c18
                  refine V.stk (st' := []) rfl ?_
                  refine V_iincN (pc' := 65) (j := 1) (lv' := [_, _, _]) hX dX7_freshNet_62 rfl rfl rfl rfl ?_
                  refine V_goto (pc' := 23) hX dX7_freshNet_65 rfl ?_
                  first
                    | exact ih (s + 1) _ _ (by omega) hmid (e3.tr ((a1.mono (by omega) (by omega)).tr (t2.mono (by omega) (by omega)))) hP5 (by omega)
                    | exact ih (s + 1) _ _ (by omega) (e2.skip (by omega) c44) e3 hP (by omega)
                · refine V_aload_n (pc' := 37) hX dX7_freshNet_36 rfl rfl ?_
                  refine V_get (pc' := 40) hX dX7_freshNet_37 hx rfl inX7 11 (by decide) wF_X7_65 rfl rfl ?_
                  refine V_iload_n (pc' := 41) hX dX7_freshNet_40 rfl rfl ?_
                  refine V_callV (nA := 1) (pc' := 44) (k' := 0) (n' := 0) hX dX7_freshNet_41 (c_Nt_isForgotten s (by omega) hn hnO) hn.1 rfl wM_X7_311 wI_X2_isForgotten wL_X2_isForgotten wN_X2 wC_X2_isForgotten rfl hy_X2_isForgotten rfl (Nat.le_of_ble_eq_true rfl) (by decide) (by omega) rfl rfl (by omega) rfl (by omega) rfl ?_
                  rintro _ z h3 ⟨rfl, rfl, rfl⟩
                  refine V.stk (st' := [_]) rfl ?_
                  refine V_if_neB (pt := 62) (pc' := 47) hX dX7_freshNet_44 rfl rfl (fun c44 => ?_) (fun c44 => ?_)
                  · refine V_iincN (pc' := 65) (j := 1) (lv' := [_, _, _]) hX dX7_freshNet_62 rfl rfl rfl rfl ?_
                    refine V_goto (pc' := 23) hX dX7_freshNet_65 rfl ?_
                    first
                      | exact ih (s + 1) _ _ (by omega) hmid (e3.tr ((a1.mono (by omega) (by omega)).tr (t2.mono (by omega) (by omega)))) hP5 (by omega)
                      | exact ih (s + 1) _ _ (by omega) (e2.skip (by omega) c44) e3 hP (by omega)
                  · refine V_aload_n (pc' := 48) hX dX7_freshNet_47 rfl rfl ?_
                    refine V_get (pc' := 51) hX dX7_freshNet_48 hx rfl inX7 11 (by decide) wF_X7_65 rfl rfl ?_
                    refine V_iload_n (pc' := 52) hX dX7_freshNet_51 rfl rfl ?_
                    refine V_iload_n (pc' := 53) hX dX7_freshNet_52 rfl rfl ?_
                    refine V_aload_n (pc' := 54) hX dX7_freshNet_53 rfl rfl ?_
                    refine V_iload_n (pc' := 55) hX dX7_freshNet_54 rfl rfl ?_
                    refine V_iload_n (pc' := 56) hX dX7_freshNet_55 rfl rfl ?_
                    refine V_callV (nA := 2) (pc' := 59) (k' := 0) (n' := 0) hX dX7_freshNet_56 (c_PS_arePair i s (by omega) (by omega) hP) hx rfl wM_X7_314 wI_X7_arePair wL_X7_arePair wN_X7 wC_X7_arePair rfl hy_X7_arePair rfl (Nat.le_of_ble_eq_true rfl) (by decide) (by omega) rfl rfl (by omega) rfl (by omega) rfl ?_
                    rintro _ z h4 ⟨rfl, rfl, a1, hP4⟩
                    have hne : i ≠ s := by
                      first
                        | omega
                        | (intro e; rw [e, c44] at c18; cases c18)
                    obtain ⟨⟨hx, hsa⟩, ⟨hF, hFO⟩, ⟨hT, hTO⟩, ⟨hm, hM⟩, ⟨⟨nf, hp⟩, hPO⟩, ⟨s0, s1, s2, ho⟩, ⟨bg, hbg⟩, hta, ⟨⟨ab, bw, hk⟩, hks⟩, ⟨hn, hnO⟩, hS, hmk, hnone, hxz, hco⟩ := id hP4
                    refine V.stk (st' := [_, _, _, _]) rfl ?_
                    refine V_callV (nA := 3) (pc' := 62) (k' := 0) (n' := 0) hX dX7_freshNet_59 (c_Nt_tie i s (arB kd p q W sa L i s) (by omega) (by omega) hne hn hnO) hn.1 rfl wM_X7_317 wI_X2_tie wL_X2_tie wN_X2 wC_X2_tie rfl hy_X2_tie rfl (Nat.le_of_ble_eq_true rfl) (by decide) (by omega) rfl rfl (by omega) rfl (by omega) rfl ?_
                    rintro _ z h5 ⟨rfl, rfl, t1, t2⟩
                    have hP5 := hP4.uN (ff' := tieF ff3 i s (arB kd p q W sa L i s)) t1 (tieF_ok hnO (by omega) (by omega)) t2
                    have hmid := nMid.tie hND e2 (by omega) (by omega) hne c18
                    refine V.stk (st' := []) rfl ?_
                    refine V_iincN (pc' := 65) (j := 1) (lv' := [_, _, _]) hX dX7_freshNet_62 rfl rfl rfl rfl ?_
                    refine V_goto (pc' := 23) hX dX7_freshNet_65 rfl ?_
                    first
                      | exact ih (s + 1) _ _ (by omega) hmid (e3.tr ((a1.mono (by omega) (by omega)).tr (t2.mono (by omega) (by omega)))) hP5 (by omega)
                      | exact ih (s + 1) _ _ (by omega) (e2.skip (by omega) c44) e3 hP (by omega)
          exact lq (mk + 1) 0 h2 ff2 (by omega) ⟨b3, fun j hj => by omega⟩ b4 hP (by omega)
  refine V.loc2 (lv' := [some _, some _, none]) ⟨rfl, rfl, trivial⟩ ?_
  exact lp (mk + 1) 0 h ff fg (by omega) (fun r hr => by omega) hNI fr.rf hP (by omega)
set_option maxRecDepth 100000 in
set_option maxHeartbeats 4000000 in
theorem c_PS_countFamilies {G : Gd} {h : AH} {z x : Nat} {mk : Nat} {sa : Nat → Option Nat} {L : Nat → List Nat} {F : Nat → Nat} {W : Nat → Nat} {fn : Nat → Nat} {fv : Nat → Nat} {fs : Nat} {tn : Nat → Nat} {tv : Nat → Nat} {ts : Nat} {kd : Nat} {p : Nat} {q : Nat} {bf : Nat → Nat} {len : Nat} {ta : Nat → Nat} {sp : Nat} {f1 : Nat → Nat} {f2 : Nat → Nat} {f3 : Nat → Nat} {ks : Nat} {ff : Nat → Nat} {fg : Nat} {co : Nat} (hNI : nInv kd p q W sa L mk ff fg) (hP : psAt G h z x mk sa L (fun _ => F) (fun _ => W) fn fv fs tn tv ts kd p q bf len ta sp f1 f2 f3 ks ff fg co) : Ct G yX7_countFamilies cX7_countFamilies 5 (some .int) 5 0 0 [.ref x] z h (fun r' z' h' => z' = z ∧ fr (x + 12) (x + 23) h h' ∧ ∃ ff' fg', nFr kd p q W sa L ff' ∧ nInv kd p q W sa L mk ff' fg' ∧ r' = some (.int (nI (cfN ff' sa mk).1)) ∧ psAt G h' z x mk sa L (fun _ => F) (fun _ => W) fn fv fs tn tv ts kd p q bf len ta sp f1 f2 f3 ks (ff') (fg') co) := by
  refine Ct.of (lv := [_, _, _, _, _]) (by decide) (Nat.le_of_ble_eq_true rfl) rfl ?_
  rintro X rfl hX hR hnm
  obtain ⟨⟨hx, hsa⟩, ⟨hF, hFO⟩, ⟨hT, hTO⟩, ⟨hm, hM⟩, ⟨⟨nf, hp⟩, hPO⟩, ⟨s0, s1, s2, ho⟩, ⟨bg, hbg⟩, hta, ⟨⟨ab, bw, hk⟩, hks⟩, ⟨hn, hnO⟩, hS, hmk, hnone, hxz, hco⟩ := id hP
  refine V_aload_n (pc' := 1) hX dX7_countFamilies_0 rfl rfl ?_
  refine V_callV (nA := 0) (pc' := 4) (k' := 0) (n' := 0) hX dX7_countFamilies_1 (c_PS_freshNet hNI hP) hx rfl wM_X7_161 wI_X7_freshNet wL_X7_freshNet wN_X7 wC_X7_freshNet rfl hy_X7_freshNet rfl (Nat.le_of_ble_eq_true rfl) (by decide) (by omega) rfl rfl (by omega) rfl (by omega) rfl ?_
  rintro _ z h1 ⟨rfl, rfl, g1, ff1, fg1, g2, g3, hP1⟩
  obtain ⟨⟨hx, hsa⟩, ⟨hF, hFO⟩, ⟨hT, hTO⟩, ⟨hm, hM⟩, ⟨⟨nf, hp⟩, hPO⟩, ⟨s0, s1, s2, ho⟩, ⟨bg, hbg⟩, hta, ⟨⟨ab, bw, hk⟩, hks⟩, ⟨hn, hnO⟩, hS, hmk, hnone, hxz, hco⟩ := id hP1
  refine V.stk (st' := [_]) rfl ?_
  refine V_pop (pc' := 5) hX dX7_countFamilies_4 rfl rfl ?_
  refine V_iconst (pc' := 6) (v := nI 0) hX dX7_countFamilies_5 (by decide) rfl ?_
  refine V_istore_n (pc' := 7) (lv' := [_, _, _, _, _]) hX dX7_countFamilies_6 (Nat.le_of_ble_eq_true rfl) rfl rfl ?_
  refine V_lconst (pc' := 8) (v := lN 0) hX dX7_countFamilies_7 rfl rfl ?_
  refine V_lstore_n (pc' := 9) (lv' := [_, _, _, _, _]) hX dX7_countFamilies_8 (Nat.le_of_ble_eq_true rfl) rfl rfl ?_
  refine V_iconst (pc' := 10) (v := nI 0) hX dX7_countFamilies_9 (by decide) rfl ?_
  refine V_istore (pc' := 12) (lv' := [_, _, _, _, _]) hX dX7_countFamilies_10 (Nat.le_of_ble_eq_true rfl) rfl rfl ?_
  have lp : ∀ (μ i : Nat), i ≤ mk → mk - i < μ → V X 0 0 z h1 12 [some (.ref x), some (.int (nI (cfN ff1 sa i).1)), some (.long (lN (cfN ff1 sa i).2)), none, some (.int (nI i))] [] := by
    intro μ
    induction μ with
    | zero => intros; omega
    | succ μ ih =>
      intro i b1 b2
      have b3 := cfN_bd (ff := ff1) (sa := sa) hnO.1 i (by omega)
      refine V_iload (pc' := 14) hX dX7_countFamilies_12 rfl rfl ?_
      refine V_aload_n (pc' := 15) hX dX7_countFamilies_14 rfl rfl ?_
      refine V_get (pc' := 18) hX dX7_countFamilies_15 hx rfl inX7 1 (by decide) wF_X7_69 rfl rfl ?_
      refine V_icmp_geN (pt := 63) (pc' := 21) hX dX7_countFamilies_18 (by omega) (by omega) rfl rfl (fun c18 => ?_) (fun c18 => ?_)
      · refine V_iload_n (pc' := 64) hX dX7_countFamilies_63 rfl rfl ?_
        refine V_iret hX hR dX7_countFamilies_64 ?_
        have ei : i = mk := by omega
        subst ei
        exact ⟨rfl, g1, ff1, fg1, g2, g3, rfl, hP1⟩
      · refine V_aload_n (pc' := 22) hX dX7_countFamilies_21 rfl rfl ?_
        refine V_get (pc' := 25) hX dX7_countFamilies_22 hx rfl inX7 0 (by decide) wF_X7_11 rfl rfl ?_
        refine V_iload (pc' := 27) hX dX7_countFamilies_25 rfl rfl ?_
        rcases hs : sa i with _ | q1
        · refine V_aaldN (pc' := 28) (v := .null) hX dX7_countFamilies_27 hsa (by omega) (by omega) (by rw [hs]; rfl) rfl ?_
          refine V_ifnullN (pc' := 57) hX dX7_countFamilies_28 rfl ?_
          refine V_iincN (pc' := 60) (j := 1) (lv' := [_, _, _, _, _]) hX dX7_countFamilies_57 rfl rfl rfl rfl ?_
          refine V_goto (pc' := 12) hX dX7_countFamilies_60 rfl ?_
          refine V.loc2 (lv' := [some _, some _, some _, none, some _]) ⟨rfl, rfl, rfl, rfl, trivial⟩ ?_
          have hh := ih (i + 1) (by omega) (by omega)
          first
            | (have e : cfN ff1 sa (i + 1) = ((cfN ff1 sa i).1 + 1, (cfN ff1 sa i).2 ||| famN ff1 60 (2 ^ i) (2 ^ i)) := by rw [cfN_s, if_pos ⟨by rw [hs]; rfl, hb⟩]
               rw [e] at hh
               exact hh)
            | (have e : cfN ff1 sa (i + 1) = cfN ff1 sa i := by rw [cfN_s, if_neg (fun q => by
                 first
                   | (have := q.1; rw [hs] at this; cases this; done)
                   | (have := q.2; rw [hb] at this; cases this; done))]
               rw [e] at hh
               exact hh)
        · refine V_aaldN (pc' := 28) (v := .ref q1) hX dX7_countFamilies_27 hsa (by omega) (by omega) (by rw [hs]; rfl) rfl ?_
          refine V_ifnull (pc' := 31) hX dX7_countFamilies_28 rfl ?_
          refine V_lload_n (pc' := 32) hX dX7_countFamilies_31 rfl rfl ?_
          refine V_lconst (pc' := 33) (v := lN 1) hX dX7_countFamilies_32 rfl rfl ?_
          refine V_iload (pc' := 35) hX dX7_countFamilies_33 rfl rfl ?_
          refine V_lshl (pc' := 36) hX dX7_countFamilies_35 rfl ?_
          refine V.eql (lN_bit (by omega)) ?_
          refine V_land (pc' := 37) hX dX7_countFamilies_36 rfl ?_
          refine V.eql (lN_and _ _) ?_
          refine V_lconst (pc' := 38) (v := lN 0) hX dX7_countFamilies_37 rfl rfl ?_
          refine V_lcmp_neN (pt := 57) (pc' := 42) hX dX7_countFamilies_38 rfl dX7_countFamilies_39 (by have := and_bit_le (cfN ff1 sa i).2 i; have := pow_lt60 (r := i) (by omega); omega) (by omega) rfl rfl (fun c38 => ?_) (fun c38 => ?_)
          · have hb : (cfN ff1 sa i).2.testBit i = true := by
              cases hx : (cfN ff1 sa i).2.testBit i with
              | true => rfl
              | false => exact absurd ((and_bit _ _).mpr hx) c38
            refine V_iincN (pc' := 60) (j := 1) (lv' := [_, _, _, _, _]) hX dX7_countFamilies_57 rfl rfl rfl rfl ?_
            refine V_goto (pc' := 12) hX dX7_countFamilies_60 rfl ?_
            refine V.loc2 (lv' := [some _, some _, some _, none, some _]) ⟨rfl, rfl, rfl, rfl, trivial⟩ ?_
            have hh := ih (i + 1) (by omega) (by omega)
            first
              | (have e : cfN ff1 sa (i + 1) = ((cfN ff1 sa i).1 + 1, (cfN ff1 sa i).2 ||| famN ff1 60 (2 ^ i) (2 ^ i)) := by rw [cfN_s, if_pos ⟨by rw [hs]; rfl, hb⟩]
                 rw [e] at hh
                 exact hh)
              | (have e : cfN ff1 sa (i + 1) = cfN ff1 sa i := by rw [cfN_s, if_neg (fun q => by
                   first
                     | (have := q.1; rw [hs] at this; cases this; done)
                     | (have := q.2; rw [hb] at this; cases this; done))]
                 rw [e] at hh
                 exact hh)
          · have hb : (cfN ff1 sa i).2.testBit i = false := (and_bit _ _).mp c38
            refine V_iincN (pc' := 45) (j := 1) (lv' := [_, _, _, _, _]) hX dX7_countFamilies_42 rfl rfl rfl rfl ?_
            refine V_lload_n (pc' := 46) hX dX7_countFamilies_45 rfl rfl ?_
            refine V_aload_n (pc' := 47) hX dX7_countFamilies_46 rfl rfl ?_
            refine V_get (pc' := 50) hX dX7_countFamilies_47 hx rfl inX7 11 (by decide) wF_X7_65 rfl rfl ?_
            refine V_iload (pc' := 52) hX dX7_countFamilies_50 rfl rfl ?_
            refine V_callV (nA := 1) (pc' := 55) (k' := 0) (n' := 0) hX dX7_countFamilies_52 (c_Nt_familyOf i (by omega) hn hnO) hn.1 rfl wM_X7_165 wI_X2_familyOf wL_X2_familyOf wN_X2 wC_X2_familyOf rfl hy_X2_familyOf rfl (Nat.le_of_ble_eq_true rfl) (by decide) (by omega) rfl rfl (by omega) rfl (by omega) rfl ?_
            rintro _ z h1 ⟨rfl, rfl, rfl⟩
            refine V.stk (st' := [_, _]) rfl ?_
            refine V_lor (pc' := 56) hX dX7_countFamilies_55 rfl ?_
            refine V.eql (lN_or _ _) ?_
            refine V_lstore_n (pc' := 57) (lv' := [_, _, _, _, _]) hX dX7_countFamilies_56 (Nat.le_of_ble_eq_true rfl) rfl rfl ?_
            refine V_iincN (pc' := 60) (j := 1) (lv' := [_, _, _, _, _]) hX dX7_countFamilies_57 rfl rfl rfl rfl ?_
            refine V_goto (pc' := 12) hX dX7_countFamilies_60 rfl ?_
            refine V.loc2 (lv' := [some _, some _, some _, none, some _]) ⟨rfl, rfl, rfl, rfl, trivial⟩ ?_
            have hh := ih (i + 1) (by omega) (by omega)
            first
              | (have e : cfN ff1 sa (i + 1) = ((cfN ff1 sa i).1 + 1, (cfN ff1 sa i).2 ||| famN ff1 60 (2 ^ i) (2 ^ i)) := by rw [cfN_s, if_pos ⟨by rw [hs]; rfl, hb⟩]
                 rw [e] at hh
                 exact hh)
              | (have e : cfN ff1 sa (i + 1) = cfN ff1 sa i := by rw [cfN_s, if_neg (fun q => by
                   first
                     | (have := q.1; rw [hs] at this; cases this; done)
                     | (have := q.2; rw [hb] at this; cases this; done))]
                 rw [e] at hh
                 exact hh)
  refine V.loc2 (lv' := [some _, some _, some _, none, some _]) ⟨rfl, rfl, rfl, rfl, trivial⟩ ?_
  exact lp (mk + 1) 0 (by omega) (by omega)
set_option maxRecDepth 100000 in
set_option maxHeartbeats 4000000 in
theorem c_PS_about {G : Gd} {h : AH} {z x : Nat} {mk : Nat} {sa : Nat → Option Nat} {L : Nat → List Nat} {F : Nat → Nat} {W : Nat → Nat} {fn : Nat → Nat} {fv : Nat → Nat} {fs : Nat} {tn : Nat → Nat} {tv : Nat → Nat} {ts : Nat} {kd : Nat} {p : Nat} {q : Nat} {bf : Nat → Nat} {len : Nat} {ta : Nat → Nat} {sp : Nat} {f1 : Nat → Nat} {f2 : Nat → Nat} {f3 : Nat → Nat} {ks : Nat} {ff : Nat → Nat} {fg : Nat} {co : Nat} (r what : Int32) (hNI : nInv kd p q W sa L mk ff fg) (hP : psAt G h z x mk sa L (fun _ => F) (fun _ => W) fn fv fs tn tv ts kd p q bf len ta sp f1 f2 f3 ks ff fg co) : Ct G yX7_about cX7_about 4 (some .int) 5 0 0 [.ref x, .int r, .int what] z h (fun r' z' h' => ∃ y, r' = some (.int y) ∧ z' = z ∧ fr (x + 12) (x + 23) h h' ∧ ∃ ff' fg', nInv kd p q W sa L mk ff' fg' ∧ psAt G h' z x mk sa L (fun _ => F) (fun _ => W) fn fv fs tn tv ts kd p q bf len ta sp f1 f2 f3 ks (ff') (fg') co ∧ ((sOf sa r = none ∧ y = -1) ∨ ∃ k, k < mk ∧ r = nI k ∧ (sa k).isSome = true ∧ ((what ≠ nI 4 ∧ what ≠ nI 5 ∧ y = abtV kd p q W (L k) what) ∨ (nFr kd p q W sa L ff' ∧ ((what = nI 4 ∧ leastP (famN ff' 60 (2 ^ k) (2 ^ k)) y) ∨ (what = nI 5 ∧ y = nI (bl (famN ff' 60 (2 ^ k) (2 ^ k))).length)))))) := by
  refine Ct.of (lv := [_, _, _, _]) (by decide) (Nat.le_of_ble_eq_true rfl) rfl ?_
  rintro X rfl hX hR hnm
  obtain ⟨⟨hx, hsa⟩, ⟨hF, hFO⟩, ⟨hT, hTO⟩, ⟨hm, hM⟩, ⟨⟨nf, hp⟩, hPO⟩, ⟨s0, s1, s2, ho⟩, ⟨bg, hbg⟩, hta, ⟨⟨ab, bw, hk⟩, hks⟩, ⟨hn, hnO⟩, hS, hmk, hnone, hxz, hco⟩ := id hP
  refine V_aload_n (pc' := 1) hX dX7_about_0 rfl rfl ?_
  refine V_iload_n (pc' := 2) hX dX7_about_1 rfl rfl ?_
  refine V_callV (nA := 1) (pc' := 5) (k' := 0) (n' := 0) hX dX7_about_2 (c_PS_setOf r hP) hx rfl wM_X7_74 wI_X7_setOf wL_X7_setOf wN_X7 wC_X7_setOf rfl hy_X7_setOf rfl (Nat.le_of_ble_eq_true rfl) (by decide) (by omega) rfl rfl (by omega) rfl (by omega) rfl ?_
  rintro _ z h ⟨rfl, rfl, rfl⟩
  rcases hs1 : sOf sa r with _ | q1
  · refine V.stk (st' := [_]) rfl ?_
    refine V_astore_nN (pc' := 6) (lv' := [_, _, _, _]) hX dX7_about_5 (Nat.le_of_ble_eq_true rfl) rfl rfl ?_
    refine V_aload_nN (pc' := 7) hX dX7_about_6 rfl rfl ?_
    refine V_ifnonnullN (pc' := 10) hX dX7_about_7 rfl ?_
    refine V_iconst (pc' := 11) (v := (-1)) hX dX7_about_10 (by decide) rfl ?_
    refine V_iret hX hR dX7_about_11 ?_
    exact ⟨_, rfl, rfl, fr.rf, ff, fg, hNI, hP, Or.inl ⟨hs1, rfl⟩⟩
  · obtain ⟨k1, hk311, rfl, hsk1⟩ := sOf_some hs1
    have hkm1 : k1 < mk := Nat.lt_of_not_le (fun e => by rw [hnone k1 e] at hsk1; cases hsk1)
    obtain ⟨hsN1, hqa1, hqb1⟩ := hS.1 k1 q1 hsk1
    obtain ⟨hv1, kf1, wf1, am1, hns1, hO1, hkw1, hw1⟩ := id hsN1
    have ea1 := ns_am hO1 hkw1
    have oa1 := hO1.am
    refine V.stk (st' := [_]) rfl ?_
    refine V_astore_n (pc' := 6) (lv' := [_, _, _, _]) hX dX7_about_5 (Nat.le_of_ble_eq_true rfl) rfl rfl ?_
    refine V_aload_n (pc' := 7) hX dX7_about_6 rfl rfl ?_
    refine V_ifnonnull (pc' := 12) hX dX7_about_7 rfl ?_
    refine V_iload_n (pc' := 13) hX dX7_about_12 rfl rfl ?_
    rcases pk_ix what (n := 6) (by omega) with hsw | hsw | ⟨j, hj, rfl⟩
    · have hsw : what.toInt < 0 ∨ 5 < what.toInt := Or.inl (by rw [i32_lt] at hsw; exact hsw)
      refine V_tableOut (pc' := 106) hX dX7_about_13 hsw rfl ?_
      refine V_iconst (pc' := 107) (v := (-1)) hX dX7_about_106 (by decide) rfl ?_
      refine V_iret hX hR dX7_about_107 ?_
      exact ⟨_, rfl, rfl, fr.rf, ff, fg, hNI, hP, Or.inr ⟨k1, hkm1, rfl, by rw [hsk1]; rfl, Or.inl ⟨(fun e => by rw [e] at hsw; revert hsw; decide), (fun e => by rw [e] at hsw; revert hsw; decide), (abtV_out (by omega)).symm⟩⟩⟩
    · have hsw : what.toInt < 0 ∨ 5 < what.toInt := Or.inr (by rw [i32_le, nI_toInt (by omega)] at hsw; omega)
      refine V_tableOut (pc' := 106) hX dX7_about_13 hsw rfl ?_
      refine V_iconst (pc' := 107) (v := (-1)) hX dX7_about_106 (by decide) rfl ?_
      refine V_iret hX hR dX7_about_107 ?_
      exact ⟨_, rfl, rfl, fr.rf, ff, fg, hNI, hP, Or.inr ⟨k1, hkm1, rfl, by rw [hsk1]; rfl, Or.inl ⟨(fun e => by rw [e] at hsw; revert hsw; decide), (fun e => by rw [e] at hsw; revert hsw; decide), (abtV_out (by omega)).symm⟩⟩⟩
    · rcases (show j = 0 ∨ j = 1 ∨ j = 2 ∨ j = 3 ∨ j = 4 ∨ j = 5 by omega) with rfl | rfl | rfl | rfl | rfl | rfl
      · refine V_tableIn (pc' := 52) hX dX7_about_13 (by decide) (by decide) rfl rfl ?_
        refine V_aload_n (pc' := 53) hX dX7_about_52 rfl rfl ?_
        refine V_getN (pc' := 56) hX dX7_about_53 hns1.1 rfl inX3 2 (by decide) wFn_X7_132 rfl rfl ?_
        refine V_iret hX hR dX7_about_56 ?_
        exact ⟨_, rfl, rfl, fr.rf, ff, fg, hNI, hP, Or.inr ⟨k1, hkm1, rfl, by rw [hsk1]; rfl, Or.inl ⟨by decide, by decide, rfl⟩⟩⟩
      · refine V_tableIn (pc' := 57) hX dX7_about_13 (by decide) (by decide) rfl rfl ?_
        refine V_aload_n (pc' := 58) hX dX7_about_57 rfl rfl ?_
        refine V_getN (pc' := 61) hX dX7_about_58 hns1.1 rfl inX3 3 (by decide) wFn_X7_150 rfl rfl ?_
        refine V_iret hX hR dX7_about_61 ?_
        exact ⟨_, rfl, rfl, fr.rf, ff, fg, hNI, hP, Or.inr ⟨k1, hkm1, rfl, by rw [hsk1]; rfl, Or.inl ⟨by decide, by decide, by rw [ea1]; rfl⟩⟩⟩
      · refine V_tableIn (pc' := 62) hX dX7_about_13 (by decide) (by decide) rfl rfl ?_
        refine V_aload_n (pc' := 63) hX dX7_about_62 rfl rfl ?_
        refine V_get (pc' := 66) hX dX7_about_63 hx rfl inX7 4 (by decide) wF_X7_30 rfl rfl ?_
        refine V_aload_n (pc' := 67) hX dX7_about_66 rfl rfl ?_
        refine V_getN (pc' := 70) hX dX7_about_67 hns1.1 rfl inX3 3 (by decide) wFn_X7_150 rfl rfl ?_
        refine V_i2lN (pc' := 71) hX dX7_about_70 (by omega) rfl ?_
        refine V_callV (nA := 1) (pc' := 74) (k' := 0) (n' := 0) hX dX7_about_71 (c_Ms_least am1 (by omega) hm hM) hm rfl wM_X7_153 wI_X1_least wL_X1_least wN_X1 wC_X1_least rfl hy_X1_least rfl (Nat.le_of_ble_eq_true rfl) (by decide) (by omega) rfl rfl (by omega) rfl (by omega) rfl ?_
        rintro _ z h ⟨rfl, rfl, rfl⟩
        refine V.stk (st' := [_]) rfl ?_
        refine V_l2i (pc' := 75) hX dX7_about_74 rfl ?_
        rw [lN_i]
        refine V_iret hX hR dX7_about_75 ?_
        exact ⟨_, rfl, rfl, fr.rf, ff, fg, hNI, hP, Or.inr ⟨k1, hkm1, rfl, by rw [hsk1]; rfl, Or.inl ⟨by decide, by decide, by rw [ea1]; rfl⟩⟩⟩
      · refine V_tableIn (pc' := 76) hX dX7_about_13 (by decide) (by decide) rfl rfl ?_
        refine V_aload_n (pc' := 77) hX dX7_about_76 rfl rfl ?_
        refine V_aload_n (pc' := 78) hX dX7_about_77 rfl rfl ?_
        refine V_callV (nA := 1) (pc' := 81) (k' := 0) (n' := 0) hX dX7_about_78 (c_PS_beginningOf k1 q1 hsk1 hP) hx rfl wM_X7_157 wI_X7_beginningOf wL_X7_beginningOf wN_X7 wC_X7_beginningOf rfl hy_X7_beginningOf rfl (Nat.le_of_ble_eq_true rfl) (by decide) (by omega) rfl rfl (by omega) rfl (by omega) rfl ?_
        rintro _ z h ⟨b, rfl, rfl, rfl, hb⟩
        have hb := begP_bgn hb
        subst hb
        refine V.stk (st' := [_]) rfl ?_
        refine V_iret hX hR dX7_about_81 ?_
        exact ⟨_, rfl, rfl, fr.rf, ff, fg, hNI, hP, Or.inr ⟨k1, hkm1, rfl, by rw [hsk1]; rfl, Or.inl ⟨by decide, by decide, rfl⟩⟩⟩
      · refine V_tableIn (pc' := 82) hX dX7_about_13 (by decide) (by decide) rfl rfl ?_
        refine V_aload_n (pc' := 83) hX dX7_about_82 rfl rfl ?_
        refine V_callV (nA := 0) (pc' := 86) (k' := 0) (n' := 0) hX dX7_about_83 (c_PS_freshNet hNI hP) hx rfl wM_X7_161 wI_X7_freshNet wL_X7_freshNet wN_X7 wC_X7_freshNet rfl hy_X7_freshNet rfl (Nat.le_of_ble_eq_true rfl) (by decide) (by omega) rfl rfl (by omega) rfl (by omega) rfl ?_
        rintro _ z h1 ⟨rfl, rfl, g1, ff1, fg1, g2, g3, hP1⟩
        obtain ⟨⟨hx, hsa⟩, ⟨hF, hFO⟩, ⟨hT, hTO⟩, ⟨hm, hM⟩, ⟨⟨nf, hp⟩, hPO⟩, ⟨s0, s1, s2, ho⟩, ⟨bg, hbg⟩, hta, ⟨⟨ab, bw, hk⟩, hks⟩, ⟨hn, hnO⟩, hS, hmk, hnone, hxz, hco⟩ := id hP1
        refine V.stk (st' := [_]) rfl ?_
        refine V_iload_n (pc' := 87) hX dX7_about_86 rfl rfl ?_
        refine V_callV (nA := 1) (pc' := 90) (k' := 0) (n' := 0) hX dX7_about_87 (c_Nt_familyOf k1 (by omega) hn hnO) hn.1 rfl wM_X7_165 wI_X2_familyOf wL_X2_familyOf wN_X2 wC_X2_familyOf rfl hy_X2_familyOf rfl (Nat.le_of_ble_eq_true rfl) (by decide) (by omega) rfl rfl (by omega) rfl (by omega) rfl ?_
        rintro _ z h1 ⟨rfl, rfl, rfl⟩
        have hfb := famN_bd (k := 60) (ed := 2 ^ k1) hnO.1 (pow_lt60 (r := k1) (by omega))
        refine V.stk (st' := [_]) rfl ?_
        refine V_callS (nA := 1) (pc' := 93) (k' := 0) (n' := 0) hX dX7_about_90 (c_Nt_leastOf _ hfb) wM_X7_169 wS_X2_leastOf wN_X2 wC_X2_leastOf rfl hy_X2_leastOf rfl (Nat.le_of_ble_eq_true rfl) (by decide) (by omega) rfl rfl (by omega) rfl (by omega) rfl ?_
        rintro _ z h1 ⟨y9, rfl, rfl, rfl, hy9⟩
        refine V.stk (st' := [_]) rfl ?_
        refine V_iret hX hR dX7_about_93 ?_
        exact ⟨_, rfl, rfl, g1, ff1, fg1, g3, hP1, Or.inr ⟨k1, hkm1, rfl, by rw [hsk1]; rfl, Or.inr ⟨g2, Or.inl ⟨rfl, hy9⟩⟩⟩⟩
      · refine V_tableIn (pc' := 94) hX dX7_about_13 (by decide) (by decide) rfl rfl ?_
        refine V_aload_n (pc' := 95) hX dX7_about_94 rfl rfl ?_
        refine V_callV (nA := 0) (pc' := 98) (k' := 0) (n' := 0) hX dX7_about_95 (c_PS_freshNet hNI hP) hx rfl wM_X7_161 wI_X7_freshNet wL_X7_freshNet wN_X7 wC_X7_freshNet rfl hy_X7_freshNet rfl (Nat.le_of_ble_eq_true rfl) (by decide) (by omega) rfl rfl (by omega) rfl (by omega) rfl ?_
        rintro _ z h1 ⟨rfl, rfl, g1, ff1, fg1, g2, g3, hP1⟩
        obtain ⟨⟨hx, hsa⟩, ⟨hF, hFO⟩, ⟨hT, hTO⟩, ⟨hm, hM⟩, ⟨⟨nf, hp⟩, hPO⟩, ⟨s0, s1, s2, ho⟩, ⟨bg, hbg⟩, hta, ⟨⟨ab, bw, hk⟩, hks⟩, ⟨hn, hnO⟩, hS, hmk, hnone, hxz, hco⟩ := id hP1
        refine V.stk (st' := [_]) rfl ?_
        refine V_iload_n (pc' := 99) hX dX7_about_98 rfl rfl ?_
        refine V_callV (nA := 1) (pc' := 102) (k' := 0) (n' := 0) hX dX7_about_99 (c_Nt_familyOf k1 (by omega) hn hnO) hn.1 rfl wM_X7_165 wI_X2_familyOf wL_X2_familyOf wN_X2 wC_X2_familyOf rfl hy_X2_familyOf rfl (Nat.le_of_ble_eq_true rfl) (by decide) (by omega) rfl rfl (by omega) rfl (by omega) rfl ?_
        rintro _ z h1 ⟨rfl, rfl, rfl⟩
        have hfb := famN_bd (k := 60) (ed := 2 ^ k1) hnO.1 (pow_lt60 (r := k1) (by omega))
        refine V.stk (st' := [_]) rfl ?_
        refine V_callS (nA := 1) (pc' := 105) (k' := 0) (n' := 0) hX dX7_about_102 (c_bitCount _ (Nat.lt_trans hfb (by decide))) wM_X7_173 wS_J13_bitCount_95d88 wN_J13 wC_J13_bitCount_95d88 rfl hy_J13_bitCount_95d88 rfl (Nat.le_of_ble_eq_true rfl) (by decide) (by omega) rfl rfl (by omega) rfl (by omega) rfl ?_
        rintro _ z h1 ⟨rfl, rfl, rfl⟩
        rw [popN_bl hfb]
        refine V.stk (st' := [_]) rfl ?_
        refine V_iret hX hR dX7_about_105 ?_
        exact ⟨_, rfl, rfl, g1, ff1, fg1, g3, hP1, Or.inr ⟨k1, hkm1, rfl, by rw [hsk1]; rfl, Or.inr ⟨g2, Or.inr ⟨rfl, rfl⟩⟩⟩⟩
set_option maxRecDepth 100000 in
set_option maxHeartbeats 4000000 in
theorem c_PS_core {G : Gd} {h : AH} {z x : Nat} {mk : Nat} {sa : Nat → Option Nat} {L : Nat → List Nat} {F : Nat → Nat} {W : Nat → Nat} {fn : Nat → Nat} {fv : Nat → Nat} {fs : Nat} {tn : Nat → Nat} {tv : Nat → Nat} {ts : Nat} {kd : Nat} {p : Nat} {q : Nat} {bf : Nat → Nat} {len : Nat} {ta : Nat → Nat} {sp : Nat} {f1 : Nat → Nat} {f2 : Nat → Nat} {f3 : Nat → Nat} {ks : Nat} {ff : Nat → Nat} {fg : Nat} {co : Nat} (r : Int32) (hNI : nInv kd p q W sa L mk ff fg) (hP : psAt G h z x mk sa L (fun _ => F) (fun _ => W) fn fv fs tn tv ts kd p q bf len ta sp f1 f2 f3 ks ff fg co) : Ct G yX7_core cX7_core 4 (some .int) 24 0 0 [.ref x, .int r] z h (fun r' z' h' => ∃ y, r' = some (.int y) ∧ z' = z ∧ frO x z sa h h' ∧ ∃ ff' fg' co', nInv kd p q W sa L mk ff' fg' ∧ psAt G h' z x mk sa L (fun _ => F) (fun _ => W) fn fv fs tn tv ts kd p q bf len ta sp f1 f2 f3 ks (ff') (fg') (co') ∧ ((sOf sa r = none ∧ y = -1 ∧ co' = co) ∨ ∃ k, k < mk ∧ r = nI k ∧ (sa k).isSome = true ∧ nFr kd p q W sa L ff' ∧ ((20 < (bl (famN ff' 60 (2 ^ k) (2 ^ k))).length ∧ y = -2 ∧ co' = co) ∨ ((bl (famN ff' 60 (2 ^ k) (2 ^ k))).length ≤ 20 ∧ bl co' = gcl (adjF ff') 20 [] (bl (famN ff' 60 (2 ^ k) (2 ^ k))) [] ∧ y = nI (bl co').length)))) := by
  refine Ct.of (lv := [_, _, _, _]) (by decide) (Nat.le_of_ble_eq_true rfl) rfl ?_
  rintro X rfl hX hR hnm
  obtain ⟨⟨hx, hsa⟩, ⟨hF, hFO⟩, ⟨hT, hTO⟩, ⟨hm, hM⟩, ⟨⟨nf, hp⟩, hPO⟩, ⟨s0, s1, s2, ho⟩, ⟨bg, hbg⟩, hta, ⟨⟨ab, bw, hk⟩, hks⟩, ⟨hn, hnO⟩, hS, hmk, hnone, hxz, hco⟩ := id hP
  refine V_aload_n (pc' := 1) hX dX7_core_0 rfl rfl ?_
  refine V_iload_n (pc' := 2) hX dX7_core_1 rfl rfl ?_
  refine V_callV (nA := 1) (pc' := 5) (k' := 0) (n' := 0) hX dX7_core_2 (c_PS_setOf r hP) hx rfl wM_X7_74 wI_X7_setOf wL_X7_setOf wN_X7 wC_X7_setOf rfl hy_X7_setOf rfl (Nat.le_of_ble_eq_true rfl) (by decide) (by omega) rfl rfl (by omega) rfl (by omega) rfl ?_
  rintro _ z h ⟨rfl, rfl, rfl⟩
  rcases hs1 : sOf sa r with _ | q1
  · refine V.stk (st' := [_]) rfl ?_
    refine V_ifnonnullN (pc' := 8) hX dX7_core_5 rfl ?_
    refine V_iconst (pc' := 9) (v := (-1)) hX dX7_core_8 (by decide) rfl ?_
    refine V_iret hX hR dX7_core_9 ?_
    exact ⟨_, rfl, rfl, frO.rf, ff, fg, co, hNI, hP, Or.inl ⟨hs1, rfl, rfl⟩⟩
  · obtain ⟨k1, hk311, rfl, hsk1⟩ := sOf_some hs1
    have hkm1 : k1 < mk := Nat.lt_of_not_le (fun e => by rw [hnone k1 e] at hsk1; cases hsk1)
    obtain ⟨hsN1, hqa1, hqb1⟩ := hS.1 k1 q1 hsk1
    obtain ⟨hv1, kf1, wf1, am1, hns1, hO1, hkw1, hw1⟩ := id hsN1
    have ea1 := ns_am hO1 hkw1
    have oa1 := hO1.am
    refine V.stk (st' := [_]) rfl ?_
    refine V_ifnonnull (pc' := 10) hX dX7_core_5 rfl ?_
    refine V_aload_n (pc' := 11) hX dX7_core_10 rfl rfl ?_
    refine V_callV (nA := 0) (pc' := 14) (k' := 0) (n' := 0) hX dX7_core_11 (c_PS_freshNet hNI hP) hx rfl wM_X7_161 wI_X7_freshNet wL_X7_freshNet wN_X7 wC_X7_freshNet rfl hy_X7_freshNet rfl (Nat.le_of_ble_eq_true rfl) (by decide) (by omega) rfl rfl (by omega) rfl (by omega) rfl ?_
    rintro _ z h1 ⟨rfl, rfl, g1, ff1, fg1, g2, g3, hP1⟩
    obtain ⟨⟨hx, hsa⟩, ⟨hF, hFO⟩, ⟨hT, hTO⟩, ⟨hm, hM⟩, ⟨⟨nf, hp⟩, hPO⟩, ⟨s0, s1, s2, ho⟩, ⟨bg, hbg⟩, hta, ⟨⟨ab, bw, hk⟩, hks⟩, ⟨hn, hnO⟩, hS, hmk, hnone, hxz, hco⟩ := id hP1
    refine V.stk (st' := [_]) rfl ?_
    refine V_iload_n (pc' := 15) hX dX7_core_14 rfl rfl ?_
    refine V_callV (nA := 1) (pc' := 18) (k' := 0) (n' := 0) hX dX7_core_15 (c_Nt_familyOf k1 (by omega) hn hnO) hn.1 rfl wM_X7_165 wI_X2_familyOf wL_X2_familyOf wN_X2 wC_X2_familyOf rfl hy_X2_familyOf rfl (Nat.le_of_ble_eq_true rfl) (by decide) (by omega) rfl rfl (by omega) rfl (by omega) rfl ?_
    rintro _ z h1 ⟨rfl, rfl, rfl⟩
    have hfb := famN_bd (k := 60) (ed := 2 ^ k1) hnO.1 (pow_lt60 (r := k1) (by omega))
    have hfl : (bl (famN ff1 60 (2 ^ k1) (2 ^ k1))).length ≤ 64 := by
      rw [← popN_bl hfb]; exact popN_le _ _
    refine V.stk (st' := [_]) rfl ?_
    refine V_lstore_n (pc' := 19) (lv' := [_, _, _, _]) hX dX7_core_18 (Nat.le_of_ble_eq_true rfl) rfl rfl ?_
    refine V_lload_n (pc' := 20) hX dX7_core_19 rfl rfl ?_
    refine V_callS (nA := 1) (pc' := 23) (k' := 0) (n' := 0) hX dX7_core_20 (c_bitCount _ (Nat.lt_trans hfb (by decide))) wM_X7_173 wS_J13_bitCount_95d88 wN_J13 wC_J13_bitCount_95d88 rfl hy_J13_bitCount_95d88 rfl (Nat.le_of_ble_eq_true rfl) (by decide) (by omega) rfl rfl (by omega) rfl (by omega) rfl ?_
    rintro _ z h1 ⟨rfl, rfl, rfl⟩
    rw [popN_bl hfb]
    refine V.stk (st' := [_]) rfl ?_
    refine V_bipush (pc' := 25) (v := nI 20) hX dX7_core_23 (by decide) rfl ?_
    refine V_icmp_leN (pt := 31) (pc' := 28) hX dX7_core_25 (by omega) (by omega) rfl rfl (fun c25 => ?_) (fun c25 => ?_)
    · refine V_aload_n (pc' := 32) hX dX7_core_31 rfl rfl ?_
      refine V_aload_n (pc' := 33) hX dX7_core_32 rfl rfl ?_
      refine V_get (pc' := 36) hX dX7_core_33 hx rfl inX7 11 (by decide) wF_X7_65 rfl rfl ?_
      refine V_lload_n (pc' := 37) hX dX7_core_36 rfl rfl ?_
      refine V_callV (nA := 1) (pc' := 40) (k' := 0) (n' := 0) hX dX7_core_37 (c_Nt_coreOf _ hfb hn hnO) hn.1 rfl wM_X7_237 wI_X2_coreOf wL_X2_coreOf wN_X2 wC_X2_coreOf rfl hy_X2_coreOf rfl (Nat.le_of_ble_eq_true rfl) (by decide) (by omega) rfl rfl (by omega) rfl (by omega) rfl ?_
      rintro _ z h1 ⟨res, rfl, rfl, rfl, c1, c2⟩
      refine V.stk (st' := [_, _]) rfl ?_
      refine V_put (pc' := 43) (fs' := [_, _, _, _, _, _, _, _, _, _, _, _, _]) (ty0 := tyX7) hX dX7_core_40 hx rfl inX7 tyX7_ok nmX7 12 (by decide) wF_X7_240 rfl (tyX7_ok 12 (by decide)) rfl rfl (Nat.le_of_ble_eq_true rfl) rfl rfl ?_
      refine V.gen (fun h2 eh2 => ?_)
      have hf2 := fr.of_up eh2
      have hP2 := hP1.uA (up_at eh2) ((hf2 _ (by omega)).trans hsa) hmk hnone c1 (fun r q9 e => e) (hf2.mono (by omega) (by omega))
      obtain ⟨⟨hx, hsa⟩, ⟨hF, hFO⟩, ⟨hT, hTO⟩, ⟨hm, hM⟩, ⟨⟨nf, hp⟩, hPO⟩, ⟨s0, s1, s2, ho⟩, ⟨bg, hbg⟩, hta, ⟨⟨ab, bw, hk⟩, hks⟩, ⟨hn, hnO⟩, hS, hmk, hnone, hxz, hco⟩ := id hP2
      refine V_aload_n (pc' := 44) hX dX7_core_43 rfl rfl ?_
      refine V_get (pc' := 47) hX dX7_core_44 hx rfl inX7 12 (by decide) wF_X7_240 rfl rfl ?_
      refine V_callS (nA := 1) (pc' := 50) (k' := 0) (n' := 0) hX dX7_core_47 (c_bitCount _ (Nat.lt_trans c1 (by decide))) wM_X7_173 wS_J13_bitCount_95d88 wN_J13 wC_J13_bitCount_95d88 rfl hy_J13_bitCount_95d88 rfl (Nat.le_of_ble_eq_true rfl) (by decide) (by omega) rfl rfl (by omega) rfl (by omega) rfl ?_
      rintro _ z h2 ⟨rfl, rfl, rfl⟩
      rw [popN_bl c1]
      refine V.stk (st' := [_]) rfl ?_
      refine V_iret hX hR dX7_core_50 ?_
      exact ⟨_, rfl, rfl, (frO.of g1 (by omega) (by omega)).tr (frO.of hf2 (by omega) (by omega)), ff1, fg1, res, g3, hP2, Or.inr ⟨k1, hkm1, rfl, by rw [hsk1]; rfl, g2, Or.inr ⟨by omega, c2, rfl⟩⟩⟩
    · refine V_bipush (pc' := 30) (v := (-2)) hX dX7_core_28 (by decide) rfl ?_
      refine V_iret hX hR dX7_core_30 ?_
      exact ⟨_, rfl, rfl, frO.of g1 (by omega) (by omega), ff1, fg1, co, g3, hP1, Or.inr ⟨k1, hkm1, rfl, by rw [hsk1]; rfl, g2, Or.inl ⟨by omega, rfl, rfl⟩⟩⟩
set_option maxRecDepth 100000 in
set_option maxHeartbeats 4000000 in
theorem c_PS_chain {G : Gd} {h : AH} {z x : Nat} {mk : Nat} {sa : Nat → Option Nat} {L : Nat → List Nat} {F : Nat → Nat} {W : Nat → Nat} {fn : Nat → Nat} {fv : Nat → Nat} {fs : Nat} {tn : Nat → Nat} {tv : Nat → Nat} {ts : Nat} {kd : Nat} {p : Nat} {q : Nat} {bf : Nat → Nat} {len : Nat} {ta : Nat → Nat} {sp : Nat} {f1 : Nat → Nat} {f2 : Nat → Nat} {f3 : Nat → Nat} {ks : Nat} {ff : Nat → Nat} {fg : Nat} {co : Nat} (r s : Int32) (hNI : nInv kd p q W sa L mk ff fg) (hP : psAt G h z x mk sa L (fun _ => F) (fun _ => W) fn fv fs tn tv ts kd p q bf len ta sp f1 f2 f3 ks ff fg co) : Ct G yX7_chain cX7_chain 3 (some .int) 5 0 0 [.ref x, .int r, .int s] z h (fun r' z' h' => ∃ y, r' = some (.int y) ∧ z' = z ∧ fr (x + 12) (x + 23) h h' ∧ ∃ ff' fg', nInv kd p q W sa L mk ff' fg' ∧ psAt G h' z x mk sa L (fun _ => F) (fun _ => W) fn fv fs tn tv ts kd p q bf len ta sp f1 f2 f3 ks (ff') (fg') co ∧ (((sOf sa r = none ∨ sOf sa s = none) ∧ y = -1) ∨ ∃ i j, i < mk ∧ j < mk ∧ r = nI i ∧ s = nI j ∧ (sa i).isSome = true ∧ (sa j).isSome = true ∧ nFr kd p q W sa L ff' ∧ y = optI (stpN ff' i 60 0 (2 ^ j) (2 ^ j)))) := by
  refine Ct.of (lv := [_, _, _]) (by decide) (Nat.le_of_ble_eq_true rfl) rfl ?_
  rintro X rfl hX hR hnm
  obtain ⟨⟨hx, hsa⟩, ⟨hF, hFO⟩, ⟨hT, hTO⟩, ⟨hm, hM⟩, ⟨⟨nf, hp⟩, hPO⟩, ⟨s0, s1, s2, ho⟩, ⟨bg, hbg⟩, hta, ⟨⟨ab, bw, hk⟩, hks⟩, ⟨hn, hnO⟩, hS, hmk, hnone, hxz, hco⟩ := id hP
  refine V_aload_n (pc' := 1) hX dX7_chain_0 rfl rfl ?_
  refine V_iload_n (pc' := 2) hX dX7_chain_1 rfl rfl ?_
  refine V_callV (nA := 1) (pc' := 5) (k' := 0) (n' := 0) hX dX7_chain_2 (c_PS_setOf r hP) hx rfl wM_X7_74 wI_X7_setOf wL_X7_setOf wN_X7 wC_X7_setOf rfl hy_X7_setOf rfl (Nat.le_of_ble_eq_true rfl) (by decide) (by omega) rfl rfl (by omega) rfl (by omega) rfl ?_
  rintro _ z h ⟨rfl, rfl, rfl⟩
  rcases hs1 : sOf sa r with _ | q1
  · refine V.stk (st' := [_]) rfl ?_
    refine V_ifnullN (pc' := 16) hX dX7_chain_5 rfl ?_
    refine V_iconst (pc' := 17) (v := (-1)) hX dX7_chain_16 (by decide) rfl ?_
    refine V_iret hX hR dX7_chain_17 ?_
    first
      | exact ⟨_, rfl, rfl, fr.rf, ff, fg, hNI, hP, Or.inl ⟨Or.inl hs1, rfl⟩⟩
      | exact ⟨_, rfl, rfl, fr.rf, ff, fg, hNI, hP, Or.inl ⟨Or.inr hs2, rfl⟩⟩
  · obtain ⟨k1, hk311, rfl, hsk1⟩ := sOf_some hs1
    have hkm1 : k1 < mk := Nat.lt_of_not_le (fun e => by rw [hnone k1 e] at hsk1; cases hsk1)
    obtain ⟨hsN1, hqa1, hqb1⟩ := hS.1 k1 q1 hsk1
    obtain ⟨hv1, kf1, wf1, am1, hns1, hO1, hkw1, hw1⟩ := id hsN1
    have ea1 := ns_am hO1 hkw1
    have oa1 := hO1.am
    refine V.stk (st' := [_]) rfl ?_
    refine V_ifnull (pc' := 8) hX dX7_chain_5 rfl ?_
    refine V_aload_n (pc' := 9) hX dX7_chain_8 rfl rfl ?_
    refine V_iload_n (pc' := 10) hX dX7_chain_9 rfl rfl ?_
    refine V_callV (nA := 1) (pc' := 13) (k' := 0) (n' := 0) hX dX7_chain_10 (c_PS_setOf s hP) hx rfl wM_X7_74 wI_X7_setOf wL_X7_setOf wN_X7 wC_X7_setOf rfl hy_X7_setOf rfl (Nat.le_of_ble_eq_true rfl) (by decide) (by omega) rfl rfl (by omega) rfl (by omega) rfl ?_
    rintro _ z h ⟨rfl, rfl, rfl⟩
    rcases hs2 : sOf sa s with _ | q2
    · refine V.stk (st' := [_]) rfl ?_
      refine V_ifnonnullN (pc' := 16) hX dX7_chain_13 rfl ?_
      refine V_iconst (pc' := 17) (v := (-1)) hX dX7_chain_16 (by decide) rfl ?_
      refine V_iret hX hR dX7_chain_17 ?_
      first
        | exact ⟨_, rfl, rfl, fr.rf, ff, fg, hNI, hP, Or.inl ⟨Or.inl hs1, rfl⟩⟩
        | exact ⟨_, rfl, rfl, fr.rf, ff, fg, hNI, hP, Or.inl ⟨Or.inr hs2, rfl⟩⟩
    · obtain ⟨k2, hk312, rfl, hsk2⟩ := sOf_some hs2
      have hkm2 : k2 < mk := Nat.lt_of_not_le (fun e => by rw [hnone k2 e] at hsk2; cases hsk2)
      obtain ⟨hsN2, hqa2, hqb2⟩ := hS.1 k2 q2 hsk2
      obtain ⟨hv2, kf2, wf2, am2, hns2, hO2, hkw2, hw2⟩ := id hsN2
      have ea2 := ns_am hO2 hkw2
      have oa2 := hO2.am
      refine V.stk (st' := [_]) rfl ?_
      refine V_ifnonnull (pc' := 18) hX dX7_chain_13 rfl ?_
      refine V_aload_n (pc' := 19) hX dX7_chain_18 rfl rfl ?_
      refine V_callV (nA := 0) (pc' := 22) (k' := 0) (n' := 0) hX dX7_chain_19 (c_PS_freshNet hNI hP) hx rfl wM_X7_161 wI_X7_freshNet wL_X7_freshNet wN_X7 wC_X7_freshNet rfl hy_X7_freshNet rfl (Nat.le_of_ble_eq_true rfl) (by decide) (by omega) rfl rfl (by omega) rfl (by omega) rfl ?_
      rintro _ z h1 ⟨rfl, rfl, g1, ff1, fg1, g2, g3, hP1⟩
      obtain ⟨⟨hx, hsa⟩, ⟨hF, hFO⟩, ⟨hT, hTO⟩, ⟨hm, hM⟩, ⟨⟨nf, hp⟩, hPO⟩, ⟨s0, s1, s2, ho⟩, ⟨bg, hbg⟩, hta, ⟨⟨ab, bw, hk⟩, hks⟩, ⟨hn, hnO⟩, hS, hmk, hnone, hxz, hco⟩ := id hP1
      refine V.stk (st' := [_]) rfl ?_
      refine V_iload_n (pc' := 23) hX dX7_chain_22 rfl rfl ?_
      refine V_iload_n (pc' := 24) hX dX7_chain_23 rfl rfl ?_
      refine V_callV (nA := 2) (pc' := 27) (k' := 0) (n' := 0) hX dX7_chain_24 (c_Nt_steps k1 k2 (by omega) (by omega) hn hnO) hn.1 rfl wM_X7_244 wI_X2_stepsBetween wL_X2_stepsBetween wN_X2 wC_X2_stepsBetween rfl hy_X2_stepsBetween rfl (Nat.le_of_ble_eq_true rfl) (by decide) (by omega) rfl rfl (by omega) rfl (by omega) rfl ?_
      rintro _ z h1 ⟨rfl, rfl, rfl⟩
      refine V.stk (st' := [_]) rfl ?_
      refine V_iret hX hR dX7_chain_27 ?_
      exact ⟨_, rfl, rfl, g1, ff1, fg1, g3, hP1, Or.inr ⟨k1, k2, hkm1, hkm2, rfl, rfl, by rw [hsk1]; rfl, by rw [hsk2]; rfl, g2, rfl⟩⟩
set_option maxRecDepth 100000 in
set_option maxHeartbeats 4000000 in
theorem c_PS_next {G : Gd} {h : AH} {z x : Nat} {mk : Nat} {sa : Nat → Option Nat} {L : Nat → List Nat} {F : Nat → Nat} {W : Nat → Nat} {fn : Nat → Nat} {fv : Nat → Nat} {fs : Nat} {tn : Nat → Nat} {tv : Nat → Nat} {ts : Nat} {kd : Nat} {p : Nat} {q : Nat} {bf : Nat → Nat} {len : Nat} {ta : Nat → Nat} {sp : Nat} {f1 : Nat → Nat} {f2 : Nat → Nat} {f3 : Nat → Nat} {ks : Nat} {ff : Nat → Nat} {fg : Nat} {co : Nat} (r s : Int32) (hNI : nInv kd p q W sa L mk ff fg) (hP : psAt G h z x mk sa L (fun _ => F) (fun _ => W) fn fv fs tn tv ts kd p q bf len ta sp f1 f2 f3 ks ff fg co) : Ct G yX7_next cX7_next 4 (some .int) 6 0 0 [.ref x, .int r, .int s] z h (fun r' z' h' => ∃ y, r' = some (.int y) ∧ z' = z ∧ fr (x + 12) (x + 23) h h' ∧ ∃ ff' fg', nInv kd p q W sa L mk ff' fg' ∧ psAt G h' z x mk sa L (fun _ => F) (fun _ => W) fn fv fs tn tv ts kd p q bf len ta sp f1 f2 f3 ks (ff') (fg') co ∧ (((sOf sa r = none ∨ sOf sa s = none) ∧ y = -1) ∨ ∃ i j, i < mk ∧ j < mk ∧ r = nI i ∧ s = nI j ∧ (sa i).isSome = true ∧ (sa j).isSome = true ∧ nFr kd p q W sa L ff' ∧ (((stpN ff' i 60 0 (2 ^ j) (2 ^ j) = none ∨ stpN ff' i 60 0 (2 ^ j) (2 ^ j) = some 0) ∧ y = -1) ∨ ∃ t, 1 ≤ t ∧ stpN ff' i 60 0 (2 ^ j) (2 ^ j) = some t ∧ leastP (itN ff' (t - 1) (2 ^ j) &&& ff' i) y))) := by
  refine Ct.of (lv := [_, _, _, _]) (by decide) (Nat.le_of_ble_eq_true rfl) rfl ?_
  rintro X rfl hX hR hnm
  obtain ⟨⟨hx, hsa⟩, ⟨hF, hFO⟩, ⟨hT, hTO⟩, ⟨hm, hM⟩, ⟨⟨nf, hp⟩, hPO⟩, ⟨s0, s1, s2, ho⟩, ⟨bg, hbg⟩, hta, ⟨⟨ab, bw, hk⟩, hks⟩, ⟨hn, hnO⟩, hS, hmk, hnone, hxz, hco⟩ := id hP
  refine V_aload_n (pc' := 1) hX dX7_next_0 rfl rfl ?_
  refine V_iload_n (pc' := 2) hX dX7_next_1 rfl rfl ?_
  refine V_iload_n (pc' := 3) hX dX7_next_2 rfl rfl ?_
  refine V_callV (nA := 2) (pc' := 6) (k' := 0) (n' := 0) hX dX7_next_3 (c_PS_chain r s hNI hP) hx rfl wM_X7_247 wI_X7_chain wL_X7_chain wN_X7 wC_X7_chain rfl hy_X7_chain rfl (Nat.le_of_ble_eq_true rfl) (by decide) (by omega) rfl rfl (by omega) rfl (by omega) rfl ?_
  rintro _ z h1 ⟨y1, rfl, rfl, g1, ff1, fg1, g3, hP1, gg⟩
  obtain ⟨⟨hx, hsa⟩, ⟨hF, hFO⟩, ⟨hT, hTO⟩, ⟨hm, hM⟩, ⟨⟨nf, hp⟩, hPO⟩, ⟨s0, s1, s2, ho⟩, ⟨bg, hbg⟩, hta, ⟨⟨ab, bw, hk⟩, hks⟩, ⟨hn, hnO⟩, hS, hmk, hnone, hxz, hco⟩ := id hP1
  refine V.stk (st' := [_]) rfl ?_
  refine V_istore_n (pc' := 7) (lv' := [_, _, _, _]) hX dX7_next_6 (Nat.le_of_ble_eq_true rfl) rfl rfl ?_
  refine V_iload_n (pc' := 8) hX dX7_next_7 rfl rfl ?_
  refine V_iconst (pc' := 9) (v := nI 1) hX dX7_next_8 (by decide) rfl ?_
  refine V_icmp_ge (pt := 16) (pc' := 12) hX dX7_next_9 rfl rfl (fun c9 => ?_) (fun c9 => ?_)
  · rcases gg with ⟨-, e⟩ | ⟨i, j, i1, j1, rfl, rfl, i2, j2, g2, e⟩
    · exact absurd c9 (by rw [e]; decide)
    obtain ⟨t, et, ht⟩ : ∃ t, stpN ff1 i 60 0 (2 ^ j) (2 ^ j) = some t ∧ y1 = nI t := by
      cases hx : stpN ff1 i 60 0 (2 ^ j) (2 ^ j) with
      | none => rw [hx] at e; exact absurd c9 (by rw [e]; decide)
      | some t => rw [hx] at e; exact ⟨t, rfl, e⟩
    subst ht
    have htb := stpN_bd et
    have ht1 : 1 ≤ t := by
      rw [nI_leI (by omega) (by omega)] at c9; exact c9
    refine V_aload_n (pc' := 17) hX dX7_next_16 rfl rfl ?_
    refine V_get (pc' := 20) hX dX7_next_17 hx rfl inX7 11 (by decide) wF_X7_65 rfl rfl ?_
    refine V_iload_n (pc' := 21) hX dX7_next_20 rfl rfl ?_
    refine V_iload_n (pc' := 22) hX dX7_next_21 rfl rfl ?_
    refine V_iload_n (pc' := 23) hX dX7_next_22 rfl rfl ?_
    refine V_callV (nA := 3) (pc' := 26) (k' := 0) (n' := 0) hX dX7_next_23 (c_Nt_firstStep i j t (by omega) (by omega) ht1 (by omega) hn hnO) hn.1 rfl wM_X7_250 wI_X2_firstStep wL_X2_firstStep wN_X2 wC_X2_firstStep rfl hy_X2_firstStep rfl (Nat.le_of_ble_eq_true rfl) (by decide) (by omega) rfl rfl (by omega) rfl (by omega) rfl ?_
    rintro _ z h1 ⟨y9, rfl, rfl, rfl, hy9⟩
    refine V.stk (st' := [_]) rfl ?_
    refine V_iret hX hR dX7_next_26 ?_
    exact ⟨_, rfl, rfl, g1, ff1, fg1, g3, hP1, Or.inr ⟨i, j, i1, j1, rfl, rfl, i2, j2, g2, Or.inr ⟨t, ht1, et, hy9⟩⟩⟩
  · have hy : y1 ≠ nI 1 ∧ ¬ nI 1 ≤ y1 := ⟨fun e => c9 (by rw [e]; decide), c9⟩
    refine V_iconst (pc' := 13) (v := (-1)) hX dX7_next_12 (by decide) rfl ?_
    refine V_goto (pc' := 26) hX dX7_next_13 rfl ?_
    refine V_iret hX hR dX7_next_26 ?_
    refine ⟨_, rfl, rfl, g1, ff1, fg1, g3, hP1, ?_⟩
    rcases gg with ⟨e0, -⟩ | ⟨i, j, i1, j1, rfl, rfl, i2, j2, g2, e⟩
    · exact Or.inl ⟨e0, rfl⟩
    refine Or.inr ⟨i, j, i1, j1, rfl, rfl, i2, j2, g2, Or.inl ⟨?_, rfl⟩⟩
    cases hx : stpN ff1 i 60 0 (2 ^ j) (2 ^ j) with
    | none => exact Or.inl rfl
    | some t =>
      right
      rw [hx] at e
      have htb := stpN_bd hx
      have : ¬ nI 1 ≤ nI t := by rw [show nI t = y1 from e.symm]; exact hy.2
      rw [nI_leI (by omega) (by omega)] at this
      rw [show t = 0 by omega]
set_option maxRecDepth 100000 in
set_option maxHeartbeats 4000000 in
theorem c_PS_count {G : Gd} {h : AH} {z x : Nat} {mk : Nat} {sa : Nat → Option Nat} {L : Nat → List Nat} {F : Nat → Nat} {W : Nat → Nat} {fn : Nat → Nat} {fv : Nat → Nat} {fs : Nat} {tn : Nat → Nat} {tv : Nat → Nat} {ts : Nat} {kd : Nat} {p : Nat} {q : Nat} {bf : Nat → Nat} {len : Nat} {ta : Nat → Nat} {sp : Nat} {f1 : Nat → Nat} {f2 : Nat → Nat} {f3 : Nat → Nat} {ks : Nat} {ff : Nat → Nat} {fg : Nat} {co : Nat} (what : Int32) (hNI : nInv kd p q W sa L mk ff fg) (hP : psAt G h z x mk sa L (fun _ => F) (fun _ => W) fn fv fs tn tv ts kd p q bf len ta sp f1 f2 f3 ks ff fg co) : Ct G yX7_count cX7_count 2 (some .int) 6 0 0 [.ref x, .int what] z h (fun r' z' h' => ∃ y, r' = some (.int y) ∧ z' = z ∧ fr (x + 12) (x + 23) h h' ∧ ∃ ff' fg', nInv kd p q W sa L mk ff' fg' ∧ psAt G h' z x mk sa L (fun _ => F) (fun _ => W) fn fv fs tn tv ts kd p q bf len ta sp f1 f2 f3 ks (ff') (fg') co ∧ ((what ≠ nI 8 ∧ y = cntV (cntR sa mk) (cntN sa L mk) ta sp kd p q len ks what) ∨ (what = nI 8 ∧ nFr kd p q W sa L ff' ∧ y = nI (cfN ff' sa mk).1))) := by
  refine Ct.of (lv := [_, _]) (by decide) (Nat.le_of_ble_eq_true rfl) rfl ?_
  rintro X rfl hX hR hnm
  obtain ⟨⟨hx, hsa⟩, ⟨hF, hFO⟩, ⟨hT, hTO⟩, ⟨hm, hM⟩, ⟨⟨nf, hp⟩, hPO⟩, ⟨s0, s1, s2, ho⟩, ⟨bg, hbg⟩, hta, ⟨⟨ab, bw, hk⟩, hks⟩, ⟨hn, hnO⟩, hS, hmk, hnone, hxz, hco⟩ := id hP
  refine V_iload_n (pc' := 1) hX dX7_count_0 rfl rfl ?_
  rcases pk_ix what (n := 14) (by omega) with hsw | hsw | ⟨j, hj, rfl⟩
  · have hsw : what.toInt < 0 ∨ 13 < what.toInt := Or.inl (by rw [i32_lt] at hsw; exact hsw)
    refine V_tableOut (pc' := 167) hX dX7_count_1 hsw rfl ?_
    refine V_iconst (pc' := 168) (v := (-1)) hX dX7_count_167 (by decide) rfl ?_
    refine V_iret hX hR dX7_count_168 ?_
    exact ⟨_, rfl, rfl, fr.rf, ff, fg, hNI, hP, Or.inl ⟨fun e => by rw [e] at hsw; revert hsw; decide, (cntV_out hsw).symm⟩⟩
  · have hsw : what.toInt < 0 ∨ 13 < what.toInt := Or.inr (by rw [i32_le, nI_toInt (by omega)] at hsw; omega)
    refine V_tableOut (pc' := 167) hX dX7_count_1 hsw rfl ?_
    refine V_iconst (pc' := 168) (v := (-1)) hX dX7_count_167 (by decide) rfl ?_
    refine V_iret hX hR dX7_count_168 ?_
    exact ⟨_, rfl, rfl, fr.rf, ff, fg, hNI, hP, Or.inl ⟨fun e => by rw [e] at hsw; revert hsw; decide, (cntV_out hsw).symm⟩⟩
  · rcases (show j = 0 ∨ j = 1 ∨ j = 2 ∨ j = 3 ∨ j = 4 ∨ j = 5 ∨ j = 6 ∨ j = 7 ∨ j = 8 ∨ j = 9 ∨ j = 10 ∨ j = 11 ∨ j = 12 ∨ j = 13 by omega) with rfl | rfl | rfl | rfl | rfl | rfl | rfl | rfl | rfl | rfl | rfl | rfl | rfl | rfl
    · refine V_tableIn (pc' := 72) hX dX7_count_1 (by decide) (by decide) rfl rfl ?_
      refine V_aload_n (pc' := 73) hX dX7_count_72 rfl rfl ?_
      refine V_callV (nA := 0) (pc' := 76) (k' := 0) (n' := 0) hX dX7_count_73 (c_PS_countRecords hP) hx rfl wM_X7_254 wI_X7_countRecords wL_X7_countRecords wN_X7 wC_X7_countRecords rfl hy_X7_countRecords rfl (Nat.le_of_ble_eq_true rfl) (by decide) (by omega) rfl rfl (by omega) rfl (by omega) rfl ?_
      rintro _ z h ⟨rfl, rfl, rfl⟩
      refine V.stk (st' := [_]) rfl ?_
      refine V_iret hX hR dX7_count_76 ?_
      exact ⟨_, rfl, rfl, fr.rf, ff, fg, hNI, hP, Or.inl ⟨by decide, rfl⟩⟩
    · refine V_tableIn (pc' := 77) hX dX7_count_1 (by decide) (by decide) rfl rfl ?_
      refine V_aload_n (pc' := 78) hX dX7_count_77 rfl rfl ?_
      refine V_callV (nA := 0) (pc' := 81) (k' := 0) (n' := 0) hX dX7_count_78 (c_PS_countNumbers hP) hx rfl wM_X7_258 wI_X7_countNumbers wL_X7_countNumbers wN_X7 wC_X7_countNumbers rfl hy_X7_countNumbers rfl (Nat.le_of_ble_eq_true rfl) (by decide) (by omega) rfl rfl (by omega) rfl (by omega) rfl ?_
      rintro _ z h ⟨rfl, rfl, rfl⟩
      refine V.stk (st' := [_]) rfl ?_
      refine V_iret hX hR dX7_count_81 ?_
      exact ⟨_, rfl, rfl, fr.rf, ff, fg, hNI, hP, Or.inl ⟨by decide, rfl⟩⟩
    · refine V_tableIn (pc' := 82) hX dX7_count_1 (by decide) (by decide) rfl rfl ?_
      refine V_aload_n (pc' := 83) hX dX7_count_82 rfl rfl ?_
      refine V_get (pc' := 86) hX dX7_count_83 hx rfl inX7 8 (by decide) wF_X7_52 rfl rfl ?_
      refine V_iconst (pc' := 87) (v := nI 0) hX dX7_count_86 (by decide) rfl ?_
      refine V_ialdN (pc' := 88) hX dX7_count_87 hta (by omega) (by omega) rfl rfl ?_
      refine V_iret hX hR dX7_count_88 ?_
      exact ⟨_, rfl, rfl, fr.rf, ff, fg, hNI, hP, Or.inl ⟨by decide, rfl⟩⟩
    · refine V_tableIn (pc' := 89) hX dX7_count_1 (by decide) (by decide) rfl rfl ?_
      refine V_aload_n (pc' := 90) hX dX7_count_89 rfl rfl ?_
      refine V_get (pc' := 93) hX dX7_count_90 hx rfl inX7 8 (by decide) wF_X7_52 rfl rfl ?_
      refine V_iconst (pc' := 94) (v := nI 4) hX dX7_count_93 (by decide) rfl ?_
      refine V_ialdN (pc' := 95) hX dX7_count_94 hta (by omega) (by omega) rfl rfl ?_
      refine V_iret hX hR dX7_count_95 ?_
      exact ⟨_, rfl, rfl, fr.rf, ff, fg, hNI, hP, Or.inl ⟨by decide, rfl⟩⟩
    · refine V_tableIn (pc' := 96) hX dX7_count_1 (by decide) (by decide) rfl rfl ?_
      refine V_aload_n (pc' := 97) hX dX7_count_96 rfl rfl ?_
      refine V_get (pc' := 100) hX dX7_count_97 hx rfl inX7 8 (by decide) wF_X7_52 rfl rfl ?_
      refine V_iconst (pc' := 101) (v := nI 2) hX dX7_count_100 (by decide) rfl ?_
      refine V_ialdN (pc' := 102) hX dX7_count_101 hta (by omega) (by omega) rfl rfl ?_
      refine V_iret hX hR dX7_count_102 ?_
      exact ⟨_, rfl, rfl, fr.rf, ff, fg, hNI, hP, Or.inl ⟨by decide, rfl⟩⟩
    · refine V_tableIn (pc' := 103) hX dX7_count_1 (by decide) (by decide) rfl rfl ?_
      refine V_aload_n (pc' := 104) hX dX7_count_103 rfl rfl ?_
      refine V_get (pc' := 107) hX dX7_count_104 hx rfl inX7 8 (by decide) wF_X7_52 rfl rfl ?_
      refine V_iconst (pc' := 108) (v := nI 3) hX dX7_count_107 (by decide) rfl ?_
      refine V_ialdN (pc' := 109) hX dX7_count_108 hta (by omega) (by omega) rfl rfl ?_
      refine V_iret hX hR dX7_count_109 ?_
      exact ⟨_, rfl, rfl, fr.rf, ff, fg, hNI, hP, Or.inl ⟨by decide, rfl⟩⟩
    · refine V_tableIn (pc' := 110) hX dX7_count_1 (by decide) (by decide) rfl rfl ?_
      refine V_aload_n (pc' := 111) hX dX7_count_110 rfl rfl ?_
      refine V_get (pc' := 114) hX dX7_count_111 hx rfl inX7 8 (by decide) wF_X7_52 rfl rfl ?_
      refine V_iconst (pc' := 115) (v := nI 1) hX dX7_count_114 (by decide) rfl ?_
      refine V_ialdN (pc' := 116) hX dX7_count_115 hta (by omega) (by omega) rfl rfl ?_
      refine V_iret hX hR dX7_count_116 ?_
      exact ⟨_, rfl, rfl, fr.rf, ff, fg, hNI, hP, Or.inl ⟨by decide, rfl⟩⟩
    · refine V_tableIn (pc' := 117) hX dX7_count_1 (by decide) (by decide) rfl rfl ?_
      refine V_aload_n (pc' := 118) hX dX7_count_117 rfl rfl ?_
      refine V_get (pc' := 121) hX dX7_count_118 hx rfl inX7 9 (by decide) wF_X7_261 rfl rfl ?_
      refine V_iret hX hR dX7_count_121 ?_
      exact ⟨_, rfl, rfl, fr.rf, ff, fg, hNI, hP, Or.inl ⟨by decide, rfl⟩⟩
    · refine V_tableIn (pc' := 122) hX dX7_count_1 (by decide) (by decide) rfl rfl ?_
      refine V_aload_n (pc' := 123) hX dX7_count_122 rfl rfl ?_
      refine V_callV (nA := 0) (pc' := 126) (k' := 0) (n' := 0) hX dX7_count_123 (c_PS_countFamilies hNI hP) hx rfl wM_X7_264 wI_X7_countFamilies wL_X7_countFamilies wN_X7 wC_X7_countFamilies rfl hy_X7_countFamilies rfl (Nat.le_of_ble_eq_true rfl) (by decide) (by omega) rfl rfl (by omega) rfl (by omega) rfl ?_
      rintro r9 z h1 ⟨rfl, g1, ff1, fg1, g2, g3, rfl, hP1⟩
      refine V.stk (st' := [_]) rfl ?_
      refine V_iret hX hR dX7_count_126 ?_
      exact ⟨_, rfl, rfl, g1, ff1, fg1, g3, hP1, Or.inr ⟨rfl, g2, rfl⟩⟩
    · refine V_tableIn (pc' := 127) hX dX7_count_1 (by decide) (by decide) rfl rfl ?_
      refine V_aload_n (pc' := 128) hX dX7_count_127 rfl rfl ?_
      refine V_get (pc' := 131) hX dX7_count_128 hx rfl inX7 4 (by decide) wF_X7_30 rfl rfl ?_
      refine V_getN (pc' := 134) hX dX7_count_131 hm rfl inX1 0 (by decide) wFn_X7_267 rfl rfl ?_
      refine V_iret hX hR dX7_count_134 ?_
      exact ⟨_, rfl, rfl, fr.rf, ff, fg, hNI, hP, Or.inl ⟨by decide, rfl⟩⟩
    · refine V_tableIn (pc' := 135) hX dX7_count_1 (by decide) (by decide) rfl rfl ?_
      refine V_aload_n (pc' := 136) hX dX7_count_135 rfl rfl ?_
      refine V_get (pc' := 139) hX dX7_count_136 hx rfl inX7 4 (by decide) wF_X7_30 rfl rfl ?_
      refine V_getN (pc' := 142) hX dX7_count_139 hm rfl inX1 1 (by decide) wFn_X7_270 rfl rfl ?_
      refine V_iret hX hR dX7_count_142 ?_
      exact ⟨_, rfl, rfl, fr.rf, ff, fg, hNI, hP, Or.inl ⟨by decide, rfl⟩⟩
    · refine V_tableIn (pc' := 143) hX dX7_count_1 (by decide) (by decide) rfl rfl ?_
      refine V_aload_n (pc' := 144) hX dX7_count_143 rfl rfl ?_
      refine V_get (pc' := 147) hX dX7_count_144 hx rfl inX7 4 (by decide) wF_X7_30 rfl rfl ?_
      refine V_getN (pc' := 150) hX dX7_count_147 hm rfl inX1 2 (by decide) wFn_X7_273 rfl rfl ?_
      refine V_iret hX hR dX7_count_150 ?_
      exact ⟨_, rfl, rfl, fr.rf, ff, fg, hNI, hP, Or.inl ⟨by decide, rfl⟩⟩
    · refine V_tableIn (pc' := 151) hX dX7_count_1 (by decide) (by decide) rfl rfl ?_
      refine V_aload_n (pc' := 152) hX dX7_count_151 rfl rfl ?_
      refine V_get (pc' := 155) hX dX7_count_152 hx rfl inX7 5 (by decide) wF_X7_37 rfl rfl ?_
      refine V_getN (pc' := 158) hX dX7_count_155 hp.1 rfl inX6 1 (by decide) wFn_X7_112 rfl rfl ?_
      refine V_iret hX hR dX7_count_158 ?_
      exact ⟨_, rfl, rfl, fr.rf, ff, fg, hNI, hP, Or.inl ⟨by decide, rfl⟩⟩
    · refine V_tableIn (pc' := 159) hX dX7_count_1 (by decide) (by decide) rfl rfl ?_
      refine V_aload_n (pc' := 160) hX dX7_count_159 rfl rfl ?_
      refine V_get (pc' := 163) hX dX7_count_160 hx rfl inX7 10 (by decide) wF_X7_58 rfl rfl ?_
      refine V_getN (pc' := 166) hX dX7_count_163 hk.1 rfl inX0 5 (by decide) wFn_X7_216 rfl rfl ?_
      refine V_iret hX hR dX7_count_166 ?_
      exact ⟨_, rfl, rfl, fr.rf, ff, fg, hNI, hP, Or.inl ⟨by decide, rfl⟩⟩
