theorem bal_av {adj : Nat → Nat → Bool} {av : Nat → Bool} {f : Nat} (hf : av f = true) (ha : ∀ r s, adj r s = true → av s = true) : ∀ {d s : Nat}, bal adj f d s → av s = true
  | 0, s, h => by rw [show s = f from h]; exact hf
  | d + 1, s, h => by
    rcases h with h | ⟨r, -, h⟩
    · exact bal_av hf ha h
    · exact ha r s h
set_option maxRecDepth 100000 in
set_option maxHeartbeats 4000000 in
theorem c_Md_steps {G : Gd} {z : Nat} {h : AH} {y : Nat} {th : Int32} {mk : Nat} {ts : Nat} {fs : Nat} {kd : Nat} {p : Nat} {q : Nat} {len : Nat} {ks : Nat} {fm : Nat} {cm : Nat} {be : Nat} {dz : Nat → Bool} {mn : Nat → Nat} {st : Nat → Nat} {tn : Nat → Nat} {tv : Nat → Nat} {fn : Nat → Nat} {fv : Nat → Nat} {on : Nat → Nat} {tw : Nat → Nat} {bf : Nat → Nat} {g1 : Nat → Nat} {g2 : Nat → Nat} {g3 : Nat → Nat} {sv : Nat → Nat} {fa : Nat → Int32} {fy : Nat → Nat} {bs : Nat → Nat} {cf : Nat → Nat} {av : Nat → Bool} {M L : Nat → List Nat} {W F : Nat → Nat} (f : Nat) (hf : av f = true) (hI : mdI mk ts fs kd p q av M L W F dz mn st tn tv fn fv) (hM : mdC G h y th mk ts fs kd p q len ks fm cm be dz mn st tn tv fn fv on tw bf g1 g2 g3 sv fa fy bs cf)  : Ct G yX8_steps cX8_steps 6 none 3 0 0 [.ref y, .int (nI f)] z h (fun r' z' h' => r' = none ∧ z' = z ∧ fr (y + 15) (y + 16) h h' ∧ ∃ fa', dOk (pE kd p q W L av) f fa' ∧ mdC G h' y th mk ts fs kd p q len ks fm cm be dz mn st tn tv fn fv on tw bf g1 g2 g3 sv (fa') fy bs cf) := by
  refine Ct.of (lv := [_, _, _, _, _, _]) (by decide) (Nat.le_of_ble_eq_true rfl) rfl ?_
  rintro X rfl hX hR hnm
  obtain ⟨⟨hmk, hav, hdz⟩, hS, hT, hK, hL, hmo, hemp⟩ := id hI
  have hfm := hav f hf
  have hadj : ∀ r s, (pE kd p q W L av) r s = true → r < mk := fun r s e => hav r (pE_av e).1
  refine V_iconst (pc' := 1) (v := nI 0) hX dX8_steps_0 (by decide) rfl ?_
  refine V_istore_n (pc' := 2) (lv' := [_, _, _, _, _, _]) hX dX8_steps_1 (Nat.le_of_ble_eq_true rfl) rfl rfl ?_
  have lz : ∀ (μ k : Nat) (h2 : AH) (fa2 : Nat → Int32), k ≤ 60 → (∀ j, j < k → fa2 j = -1) → fr (y + 15) (y + 16) h h2 → mdC X.G h2 y th mk ts fs kd p q len ks fm cm be dz mn st tn tv fn fv on tw bf g1 g2 g3 sv (fa2) fy bs cf → 60 - k < μ → V X 0 0 z h2 2 [some (.ref y), some (.int (nI f)), some (.int (nI k)), none, none, none] [] := by
    intro μ
    induction μ with
    | zero => intros; omega
    | succ μ ih =>
      intro k h2 fa2 a1 a2 a3 hM a4
      refine V_iload_n (pc' := 3) hX dX8_steps_2 rfl rfl ?_
      refine V_bipush (pc' := 5) (v := nI 60) hX dX8_steps_3 (by decide) rfl ?_
      refine V_icmp_geN (pt := 21) (pc' := 8) hX dX8_steps_5 (by omega) (by omega) rfl rfl (fun c5 => ?_) (fun c5 => ?_)
      · refine V_aload_n (pc' := 22) hX dX8_steps_21 rfl rfl ?_
        refine V_get (pc' := 25) hX dX8_steps_22 hM.1 rfl inX8 23 (by decide) wF_X8_63 rfl rfl ?_
        refine V_iload_n (pc' := 26) hX dX8_steps_25 rfl rfl ?_
        refine V_iconst (pc' := 27) (v := nI 0) hX dX8_steps_26 (by decide) rfl ?_
        refine V_iast2 (pc' := 28) hX dX8_steps_27 hM.2.2.2.2.2.2.2.2.2.2.2.2.2.2.2.1 (by omega) (by omega) rfl ?_
        refine V.gen (fun h4 eh4 => ?_)
        have f9 := fr.of_up eh4
        have hM := hM.u15 (up_at eh4) f9
        refine V_iconst (pc' := 29) (v := nI 1) hX dX8_steps_28 (by decide) rfl ?_
        refine V.eqi (show nI 1 = bI true from rfl) ?_
        refine V_istore_n (pc' := 30) (lv' := [_, _, _, _, _, _]) hX dX8_steps_29 (Nat.le_of_ble_eq_true rfl) rfl rfl ?_
        refine V_iconst (pc' := 31) (v := nI 0) hX dX8_steps_30 (by decide) rfl ?_
        refine V_istore_n (pc' := 32) (lv' := [_, _, _, _, _, _]) hX dX8_steps_31 (Nat.le_of_ble_eq_true rfl) rfl rfl ?_
        have ld : ∀ (μ d : Nat) (mt : Bool) (h3 : AH) (fa3 : Nat → Int32), stOk (pE kd p q W L av) f fa3 d → d + un fa3 ≤ 59 + (if mt = true then 0 else 1) → (mt = false → ∀ k s, s < 60 → bal (pE kd p q W L av) f k s → bal (pE kd p q W L av) f d s) → fr (y + 15) (y + 16) h h3 → mdC X.G h3 y th mk ts fs kd p q len ks fm cm be dz mn st tn tv fn fv on tw bf g1 g2 g3 sv (fa3) fy bs cf → un fa3 + (if mt = true then 1 else 0) < μ → V X 0 0 z h3 32 [some (.ref y), some (.int (nI f)), some (.int (bI mt)), some (.int (nI d)), none, none] [] := by
          intro μ
          induction μ with
          | zero => intros; omega
          | succ μ ih =>
            intro d mt h3 fa3 b1 b2 b3 b4 hM b5
            have hd60 : d ≤ 60 := by split at b2 <;> omega
            refine V_iload_n (pc' := 33) hX dX8_steps_32 rfl rfl ?_
            refine V_if_eqB (pt := 142) (pc' := 36) hX dX8_steps_33 rfl rfl (fun c33 => ?_) (fun c33 => ?_)
            · refine V_vret hX hR dX8_steps_142 ?_
              exact ⟨rfl, rfl, b4, fa3, b1.done (by omega) (b3 c33), hM⟩
            · have ihD := ih
              refine V_iconst (pc' := 37) (v := nI 0) hX dX8_steps_36 (by decide) rfl ?_
              refine V.eqi (show nI 0 = bI false from rfl) ?_
              refine V_istore_n (pc' := 38) (lv' := [_, _, _, _, _, _]) hX dX8_steps_37 (Nat.le_of_ble_eq_true rfl) rfl rfl ?_
              refine V_iconst (pc' := 39) (v := nI 0) hX dX8_steps_38 (by decide) rfl ?_
              refine V_istore (pc' := 41) (lv' := [_, _, _, _, _, _]) hX dX8_steps_39 (Nat.le_of_ble_eq_true rfl) rfl rfl ?_
              have lp : ∀ (ν i : Nat) (mt2 : Bool) (h4 : AH) (fa4 : Nat → Int32), i ≤ mk → (∀ s, s < 60 → fa4 s = stp (pE kd p q W L av) fa3 d i s) → (mt2 = true ↔ ∃ s, s < 60 ∧ fa4 s ≠ fa3 s) → fr (y + 15) (y + 16) h h4 → mdC X.G h4 y th mk ts fs kd p q len ks fm cm be dz mn st tn tv fn fv on tw bf g1 g2 g3 sv (fa4) fy bs cf → mk - i < ν → V X 0 0 z h4 41 [some (.ref y), some (.int (nI f)), some (.int (bI mt2)), some (.int (nI d)), some (.int (nI i)), none] [] := by
                intro μ
                induction μ with
                | zero => intros; omega
                | succ μ ih =>
                  intro i mt2 h4 fa4 e1 e2 e3 e4 hM e5
                  refine V_iload (pc' := 43) hX dX8_steps_41 rfl rfl ?_
                  refine V_aload_n (pc' := 44) hX dX8_steps_43 rfl rfl ?_
                  refine V_get (pc' := 47) hX dX8_steps_44 hM.1 rfl inX8 1 (by decide) wF_X8_78 rfl rfl ?_
                  refine V_icmp_geN (pt := 136) (pc' := 50) hX dX8_steps_47 (by omega) (by omega) rfl rfl (fun c47 => ?_) (fun c47 => ?_)
                  · refine V_iincN (pc' := 139) (j := 1) (lv' := [_, _, _, _, _, _]) hX dX8_steps_136 rfl rfl rfl rfl ?_
                    refine V_goto (pc' := 32) hX dX8_steps_139 rfl ?_
                    refine V.loc2 (lv' := [some _, some _, some _, some _, none, none]) ⟨rfl, rfl, rfl, rfl, trivial⟩ ?_
                    have hnx : stOk (pE kd p q W L av) f fa4 (d + 1) := by
                      have h1 := b1.next (mk := mk) (by omega) hmk hadj
                      intro s hs
                      have h2 := h1 s hs
                      have e9 := e2 s hs
                      rw [show i = mk by omega] at e9
                      rw [← e9] at h2
                      exact h2
                    have hun := un_stp (by omega) e2
                    exact ihD (d + 1) mt2 _ _ hnx (by
                      rw [if_pos c33] at b2
                      by_cases e : mt2 = true
                      · rw [if_pos e]; have := hun.2 (e3.mp e); omega
                      · rw [if_neg e]; have := hun.1; omega) (fun e => by
                      have he : ∀ s, s < 60 → fa4 s = fa3 s := fun s hs => Classical.byContradiction fun w => by
                        have := e3.mpr ⟨s, hs, w⟩
                        rw [e] at this; cases this
                      exact fun k s hs hb => bal_up (b1.end (mk := mk) (by omega) hmk hadj hnx he k s hs hb)) e4 hM (by
                      rw [if_pos c33] at b5
                      by_cases e : mt2 = true
                      · rw [if_pos e]; have := hun.2 (e3.mp e); omega
                      · rw [if_neg e]; have := hun.1; omega)
                  · refine V_aload_n (pc' := 51) hX dX8_steps_50 rfl rfl ?_
                    refine V_get (pc' := 54) hX dX8_steps_51 hM.1 rfl inX8 23 (by decide) wF_X8_63 rfl rfl ?_
                    refine V_iload (pc' := 56) hX dX8_steps_54 rfl rfl ?_
                    refine V_ialdN (pc' := 57) (v := fa4 i) hX dX8_steps_56 hM.2.2.2.2.2.2.2.2.2.2.2.2.2.2.2.1 (by omega) (by omega) rfl rfl ?_
                    refine V_iload_n (pc' := 58) hX dX8_steps_57 rfl rfl ?_
                    refine V_icmp_eq (pt := 64) (pc' := 61) hX dX8_steps_58 rfl rfl (fun c58 => ?_) (fun c58 => ?_)
                    · have hfi : fa3 i = nI d := by
                        rw [e2 i (by omega)] at c58; exact (stp_eq (by omega)).mp c58
                      have hai : av i = true := by
                        rcases b1 i (by omega) with ⟨e, q1, q2, q3, -⟩ | ⟨q1, -⟩
                        · exact bal_av hf (fun r s hx => (pE_av hx).2.1) q3
                        · rw [q1] at hfi; exact absurd hfi.symm (nI_m1 (by omega))
                      have ihO := ih
                      refine V_iconst (pc' := 65) (v := nI 0) hX dX8_steps_64 (by decide) rfl ?_
                      refine V_istore (pc' := 67) (lv' := [_, _, _, _, _, _]) hX dX8_steps_65 (Nat.le_of_ble_eq_true rfl) rfl rfl ?_
                      have lq : ∀ (κ j : Nat) (mt3 : Bool) (h5 : AH) (fa5 : Nat → Int32), j ≤ mk → (∀ s, s < 60 → fa5 s = if s < j then stp (pE kd p q W L av) fa3 d (i + 1) s else stp (pE kd p q W L av) fa3 d i s) → (mt3 = true ↔ ∃ s, s < 60 ∧ fa5 s ≠ fa3 s) → fr (y + 15) (y + 16) h h5 → mdC X.G h5 y th mk ts fs kd p q len ks fm cm be dz mn st tn tv fn fv on tw bf g1 g2 g3 sv (fa5) fy bs cf → mk - j < κ → V X 0 0 z h5 67 [some (.ref y), some (.int (nI f)), some (.int (bI mt3)), some (.int (nI d)), some (.int (nI i)), some (.int (nI j))] [] := by
                        intro μ
                        induction μ with
                        | zero => intros; omega
                        | succ μ ih =>
                          intro j mt3 h5 fa5 g1 g2 g3 g4 hM g5
                          refine V_iload (pc' := 69) hX dX8_steps_67 rfl rfl ?_
                          refine V_aload_n (pc' := 70) hX dX8_steps_69 rfl rfl ?_
                          refine V_get (pc' := 73) hX dX8_steps_70 hM.1 rfl inX8 1 (by decide) wF_X8_78 rfl rfl ?_
                          refine V_icmp_geN (pt := 130) (pc' := 76) hX dX8_steps_73 (by omega) (by omega) rfl rfl (fun c73 => ?_) (fun c73 => ?_)
                          · refine V_iincN (pc' := 133) (j := 1) (lv' := [_, _, _, _, _, _]) hX dX8_steps_130 rfl rfl rfl rfl ?_
                            refine V_goto (pc' := 41) hX dX8_steps_133 rfl ?_
                            refine V.loc2 (lv' := [some _, some _, some _, some _, some _, none]) ⟨rfl, rfl, rfl, rfl, rfl, trivial⟩ ?_
                            first
                              | exact ihO (i + 1) _ _ _ (by omega) (fun s hs => by
                                  rw [g2 s hs]
                                  by_cases w9 : s < j
                                  · rw [if_pos w9]
                                  · rw [if_neg w9]
                                    exact (stp_no (Or.inr (by
                                      cases hx : (pE kd p q W L av) i s with
                                      | false => rfl
                                      | true => have := hav s (pE_av hx).2.1; omega))).symm) g3 g4 hM (by omega)
                              | exact ih (i + 1) _ _ _ (by omega) (fun s hs => by rw [e2 s hs]; exact (stp_no (Or.inl (fun w => c58 (by rw [e2 i (by omega)]; exact (stp_eq (by omega)).mpr w)))).symm) e3 e4 hM (by omega)
                          · have hgj : fa5 j = stp (pE kd p q W L av) fa3 d i j := by rw [g2 j (by omega), if_neg (by omega)]
                            refine V_aload_n (pc' := 77) hX dX8_steps_76 rfl rfl ?_
                            refine V_get (pc' := 80) hX dX8_steps_77 hM.1 rfl inX8 23 (by decide) wF_X8_63 rfl rfl ?_
                            refine V_iload (pc' := 82) hX dX8_steps_80 rfl rfl ?_
                            refine V_ialdN (pc' := 83) (v := fa5 j) hX dX8_steps_82 hM.2.2.2.2.2.2.2.2.2.2.2.2.2.2.2.1 (by omega) (by omega) rfl rfl ?_
                            refine V_iconst (pc' := 84) (v := (-1)) hX dX8_steps_83 (by decide) rfl ?_
                            refine V_icmp_ne (pt := 124) (pc' := 87) hX dX8_steps_84 rfl rfl (fun c84 => ?_) (fun c84 => ?_)
                            · have hsame : stp (pE kd p q W L av) fa3 d (i + 1) j = stp (pE kd p q W L av) fa3 d i j := stp_keep (by rw [← hgj]; exact c84)
                              refine V_iincN (pc' := 127) (j := 1) (lv' := [_, _, _, _, _, _]) hX dX8_steps_124 rfl rfl rfl rfl ?_
                              refine V_goto (pc' := 67) hX dX8_steps_127 rfl ?_
                              first
                                | exact ih (j + 1) true _ _ (by omega) (fun s hs => by
                                    by_cases q : s = j
                                    · rw [q, pk_us, if_pos (by omega)]; exact hset.2.symm
                                    · rw [pk_un q, g2 s hs]
                                      by_cases w : s < j
                                      · rw [if_pos w, if_pos (by omega)]
                                      · rw [if_neg w, if_neg (by omega)]) ⟨fun _ => ⟨j, by omega, by rw [pk_us, hset.1]; exact nI_m1 (by omega)⟩, fun _ => rfl⟩ (g4.tr f9) hM (by omega)
                                | exact ih (j + 1) mt3 _ _ (by omega) (fun s hs => by
                                    by_cases q : s = j
                                    · rw [q, hgj, if_pos (by omega)]; exact hsame.symm
                                    · rw [g2 s hs]
                                      by_cases w : s < j
                                      · rw [if_pos w, if_pos (by omega)]
                                      · rw [if_neg w, if_neg (by omega)]) g3 g4 hM (by omega)
                            · refine V_aload_n (pc' := 88) hX dX8_steps_87 rfl rfl ?_
                              refine V_iload (pc' := 90) hX dX8_steps_88 rfl rfl ?_
                              refine V_iload (pc' := 92) hX dX8_steps_90 rfl rfl ?_
                              refine V_callV (nA := 2) (pc' := 95) (k' := 0) (n' := 0) hX dX8_steps_92 (c_Md_isTwo (nI i) (nI j) hI hM) hM.1 rfl wM_X8_171 wI_X8_isTwo wL_X8_isTwo wN_X8 wC_X8_isTwo rfl hy_X8_isTwo rfl (Nat.le_of_ble_eq_true rfl) (by decide) (by omega) rfl rfl (by omega) rfl (by omega) rfl ?_
                              rintro _ z h5 ⟨rfl, rfl, rfl⟩
                              rw [avI_nI (show i < 2 ^ 31 by omega), avI_nI (show j < 2 ^ 31 by omega)]
                              refine V.stk (st' := [_]) rfl ?_
                              refine V_if_eqB (pt := 124) (pc' := 98) hX dX8_steps_95 rfl rfl (fun c95 => ?_) (fun c95 => ?_)
                              · have hsame : stp (pE kd p q W L av) fa3 d (i + 1) j = stp (pE kd p q W L av) fa3 d i j := stp_no (Or.inr (by
                                  cases hx : (pE kd p q W L av) i j with
                                  | false => rfl
                                  | true =>
                                    obtain ⟨x1, x2, x3⟩ := pE_av hx
                                    rw [x1, x2, decide_eq_true (show nI i ≠ nI j from fun e => x3 ((nI_eq (by omega) (by omega)).mp e))] at c95
                                    cases c95))
                                refine V_iincN (pc' := 127) (j := 1) (lv' := [_, _, _, _, _, _]) hX dX8_steps_124 rfl rfl rfl rfl ?_
                                refine V_goto (pc' := 67) hX dX8_steps_127 rfl ?_
                                first
                                  | exact ih (j + 1) true _ _ (by omega) (fun s hs => by
                                      by_cases q : s = j
                                      · rw [q, pk_us, if_pos (by omega)]; exact hset.2.symm
                                      · rw [pk_un q, g2 s hs]
                                        by_cases w : s < j
                                        · rw [if_pos w, if_pos (by omega)]
                                        · rw [if_neg w, if_neg (by omega)]) ⟨fun _ => ⟨j, by omega, by rw [pk_us, hset.1]; exact nI_m1 (by omega)⟩, fun _ => rfl⟩ (g4.tr f9) hM (by omega)
                                  | exact ih (j + 1) mt3 _ _ (by omega) (fun s hs => by
                                      by_cases q : s = j
                                      · rw [q, hgj, if_pos (by omega)]; exact hsame.symm
                                      · rw [g2 s hs]
                                        by_cases w : s < j
                                        · rw [if_pos w, if_pos (by omega)]
                                        · rw [if_neg w, if_neg (by omega)]) g3 g4 hM (by omega)
                              · rw [Bool.and_eq_true, Bool.and_eq_true] at c95
                                have hne : i ≠ j := fun e => of_decide_eq_true c95.2.2 (by rw [e])
                                have haj := c95.2.1
                                refine V_aload_n (pc' := 99) hX dX8_steps_98 rfl rfl ?_
                                refine V_iload (pc' := 101) hX dX8_steps_99 rfl rfl ?_
                                refine V_iload (pc' := 103) hX dX8_steps_101 rfl rfl ?_
                                refine V_callV (nA := 2) (pc' := 106) (k' := 0) (n' := 0) hX dX8_steps_103 (c_Md_isPair i j hai haj hI hM) hM.1 rfl wM_X8_168 wI_X8_isPair wL_X8_isPair wN_X8 wC_X8_isPair rfl hy_X8_isPair rfl (Nat.le_of_ble_eq_true rfl) (by decide) (by omega) rfl rfl (by omega) rfl (by omega) rfl ?_
                                rintro _ z h5 ⟨rfl, rfl, rfl⟩
                                rw [← pE_on hai haj hne]
                                refine V.stk (st' := [_]) rfl ?_
                                refine V_if_neB (pt := 112) (pc' := 109) hX dX8_steps_106 rfl rfl (fun c106 => ?_) (fun c106 => ?_)
                                · have hset := stp_set (adj := (pE kd p q W L av)) (by rw [← hgj]; exact c84) hfi c106 (by omega)
                                  refine V_aload_n (pc' := 113) hX dX8_steps_112 rfl rfl ?_
                                  refine V_get (pc' := 116) hX dX8_steps_113 hM.1 rfl inX8 23 (by decide) wF_X8_63 rfl rfl ?_
                                  refine V_iload (pc' := 118) hX dX8_steps_116 rfl rfl ?_
                                  refine V_iload_n (pc' := 119) hX dX8_steps_118 rfl rfl ?_
                                  refine V_iconst (pc' := 120) (v := nI 1) hX dX8_steps_119 (by decide) rfl ?_
                                  refine V_iaddN (pc' := 121) hX dX8_steps_120 rfl ?_
                                  refine V_iast2 (pc' := 122) hX dX8_steps_121 hM.2.2.2.2.2.2.2.2.2.2.2.2.2.2.2.1 (by omega) (by omega) rfl ?_
                                  refine V.gen (fun h6 eh6 => ?_)
                                  have f9 := fr.of_up eh6
                                  have hM := hM.u15 (up_at eh6) f9
                                  refine V_iconst (pc' := 123) (v := nI 1) hX dX8_steps_122 (by decide) rfl ?_
                                  refine V.eqi (show nI 1 = bI true from rfl) ?_
                                  refine V_istore_n (pc' := 124) (lv' := [_, _, _, _, _, _]) hX dX8_steps_123 (Nat.le_of_ble_eq_true rfl) rfl rfl ?_
                                  refine V_iincN (pc' := 127) (j := 1) (lv' := [_, _, _, _, _, _]) hX dX8_steps_124 rfl rfl rfl rfl ?_
                                  refine V_goto (pc' := 67) hX dX8_steps_127 rfl ?_
                                  first
                                    | exact ih (j + 1) true _ _ (by omega) (fun s hs => by
                                        by_cases q : s = j
                                        · rw [q, pk_us, if_pos (by omega)]; exact hset.2.symm
                                        · rw [pk_un q, g2 s hs]
                                          by_cases w : s < j
                                          · rw [if_pos w, if_pos (by omega)]
                                          · rw [if_neg w, if_neg (by omega)]) ⟨fun _ => ⟨j, by omega, by rw [pk_us, hset.1]; exact nI_m1 (by omega)⟩, fun _ => rfl⟩ (g4.tr f9) hM (by omega)
                                    | exact ih (j + 1) mt3 _ _ (by omega) (fun s hs => by
                                        by_cases q : s = j
                                        · rw [q, hgj, if_pos (by omega)]; exact hsame.symm
                                        · rw [g2 s hs]
                                          by_cases w : s < j
                                          · rw [if_pos w, if_pos (by omega)]
                                          · rw [if_neg w, if_neg (by omega)]) g3 g4 hM (by omega)
                                · have hsame : stp (pE kd p q W L av) fa3 d (i + 1) j = stp (pE kd p q W L av) fa3 d i j := stp_no (Or.inr c106)
                                  refine V_goto (pc' := 124) hX dX8_steps_109 rfl ?_
                                  refine V_iincN (pc' := 127) (j := 1) (lv' := [_, _, _, _, _, _]) hX dX8_steps_124 rfl rfl rfl rfl ?_
                                  refine V_goto (pc' := 67) hX dX8_steps_127 rfl ?_
                                  first
                                    | exact ih (j + 1) true _ _ (by omega) (fun s hs => by
                                        by_cases q : s = j
                                        · rw [q, pk_us, if_pos (by omega)]; exact hset.2.symm
                                        · rw [pk_un q, g2 s hs]
                                          by_cases w : s < j
                                          · rw [if_pos w, if_pos (by omega)]
                                          · rw [if_neg w, if_neg (by omega)]) ⟨fun _ => ⟨j, by omega, by rw [pk_us, hset.1]; exact nI_m1 (by omega)⟩, fun _ => rfl⟩ (g4.tr f9) hM (by omega)
                                    | exact ih (j + 1) mt3 _ _ (by omega) (fun s hs => by
                                        by_cases q : s = j
                                        · rw [q, hgj, if_pos (by omega)]; exact hsame.symm
                                        · rw [g2 s hs]
                                          by_cases w : s < j
                                          · rw [if_pos w, if_pos (by omega)]
                                          · rw [if_neg w, if_neg (by omega)]) g3 g4 hM (by omega)
                      exact lq (mk + 1) 0 mt2 h4 fa4 (by omega) (fun s hs => by rw [if_neg (by omega)]; exact e2 s hs) e3 e4 hM (by omega)
                    · refine V_goto (pc' := 130) hX dX8_steps_61 rfl ?_
                      refine V_iincN (pc' := 133) (j := 1) (lv' := [_, _, _, _, _, _]) hX dX8_steps_130 rfl rfl rfl rfl ?_
                      refine V_goto (pc' := 41) hX dX8_steps_133 rfl ?_
                      refine V.loc2 (lv' := [some _, some _, some _, some _, some _, none]) ⟨rfl, rfl, rfl, rfl, rfl, trivial⟩ ?_
                      first
                        | exact ihO (i + 1) _ _ _ (by omega) (fun s hs => by
                            rw [g2 s hs]
                            by_cases w9 : s < j
                            · rw [if_pos w9]
                            · rw [if_neg w9]
                              exact (stp_no (Or.inr (by
                                cases hx : (pE kd p q W L av) i s with
                                | false => rfl
                                | true => have := hav s (pE_av hx).2.1; omega))).symm) g3 g4 hM (by omega)
                        | exact ih (i + 1) _ _ _ (by omega) (fun s hs => by rw [e2 s hs]; exact (stp_no (Or.inl (fun w => c58 (by rw [e2 i (by omega)]; exact (stp_eq (by omega)).mpr w)))).symm) e3 e4 hM (by omega)
              refine V.loc2 (lv' := [some _, some _, some _, some _, some _, none]) ⟨rfl, rfl, rfl, rfl, rfl, trivial⟩ ?_
              exact lp (mk + 1) 0 false h3 fa3 (by omega) (fun s hs => stp_0.symm) ⟨fun e => (by cases e), fun ⟨s, _, w⟩ => absurd rfl w⟩ b4 hM (by omega)
        refine V.loc2 (lv' := [some _, some _, some _, some _, none, none]) ⟨rfl, rfl, rfl, rfl, trivial⟩ ?_
        have hun := un_0 (fa := upd fa2 f (nI 0)) (f := f) (by omega) (by rw [pk_us]; decide)
        exact ld 1000 0 true _ _ (fun s hs => by
          by_cases e : s = f
          · exact Or.inl ⟨0, Nat.le_refl _, by rw [e]; exact pk_us, e, fun e' he' => by omega⟩
          · exact Or.inr ⟨by rw [pk_un e]; exact a2 s (by omega), e⟩) (by rw [if_pos rfl]; omega) (fun e => by cases e) (a3.tr f9) hM (by rw [if_pos rfl]; omega)
      · refine V_aload_n (pc' := 9) hX dX8_steps_8 rfl rfl ?_
        refine V_get (pc' := 12) hX dX8_steps_9 hM.1 rfl inX8 23 (by decide) wF_X8_63 rfl rfl ?_
        refine V_iload_n (pc' := 13) hX dX8_steps_12 rfl rfl ?_
        refine V_iconst (pc' := 14) (v := (-1)) hX dX8_steps_13 (by decide) rfl ?_
        refine V_iast2 (pc' := 15) hX dX8_steps_14 hM.2.2.2.2.2.2.2.2.2.2.2.2.2.2.2.1 (by omega) (by omega) rfl ?_
        refine V.gen (fun h3 eh3 => ?_)
        have f9 := fr.of_up eh3
        have hM := hM.u15 (up_at eh3) f9
        refine V_iincN (pc' := 18) (j := 1) (lv' := [_, _, _, _, _, _]) hX dX8_steps_15 rfl rfl rfl rfl ?_
        refine V_goto (pc' := 2) hX dX8_steps_18 rfl ?_
        refine V.loc2 (lv' := [some _, some _, some _, none, none, none]) ⟨rfl, rfl, rfl, trivial⟩ ?_
        exact ih (k + 1) _ _ (by omega) (fun j hj => by
          by_cases e : j = k
          · rw [e]; exact pk_us
          · rw [pk_un e]; exact a2 j (by omega)) (a3.tr f9) hM (by omega)
  refine V.loc2 (lv' := [some _, some _, some _, none, none, none]) ⟨rfl, rfl, rfl, trivial⟩ ?_
  exact lz 61 0 h fa (by omega) (fun j hj => by omega) fr.rf hM (by omega)
