set_option maxRecDepth 100000 in
set_option maxHeartbeats 4000000 in
theorem c_Md_about {G : Gd} {z : Nat} {h : AH} {y : Nat} {th : Int32} {mk : Nat} {ts : Nat} {fs : Nat} {kd : Nat} {p : Nat} {q : Nat} {len : Nat} {ks : Nat} {fm : Nat} {cm : Nat} {be : Nat} {dz : Nat → Bool} {mn : Nat → Nat} {st : Nat → Nat} {tn : Nat → Nat} {tv : Nat → Nat} {fn : Nat → Nat} {fv : Nat → Nat} {on : Nat → Nat} {tw : Nat → Nat} {bf : Nat → Nat} {g1 : Nat → Nat} {g2 : Nat → Nat} {g3 : Nat → Nat} {sv : Nat → Nat} {fa : Nat → Int32} {fy : Nat → Nat} {bs : Nat → Nat} {cf : Nat → Nat} {av : Nat → Bool} {M L : Nat → List Nat} {W F : Nat → Nat} (r what : Int32) (hI : mdI mk ts fs kd p q av M L W F dz mn st tn tv fn fv) (hM : mdC G h y th mk ts fs kd p q len ks fm cm be dz mn st tn tv fn fv on tw bf g1 g2 g3 sv fa fy bs cf)  : Ct G yX8_about cX8_about 5 (some .int) 4 0 0 [.ref y, .int r, .int what] z h (fun r' z' h' => z' = z ∧ fr y (y + 19) h h' ∧ ∃ w on' fa', r' = some (.int w) ∧ ((avI av r = false ∧ w = -1) ∨ ∃ k, r = nI k ∧ av k = true ∧ ((what ≠ nI 4 ∧ what ≠ nI 5 ∧ w = abtV kd p q W (L k) what) ∨ (dOk (pE kd p q W L av) k fa' ∧ ((what = nI 4 ∧ ∃ n, w = nI n ∧ n < 60 ∧ fa' n ≠ -1 ∧ ∀ j, j < n → fa' j = -1) ∨ (what = nI 5 ∧ w = nI (sm (fun s => if fa' s = -1 then 0 else 1) mk)))))) ∧ mdC G h' y (nI 0) mk ts fs kd p q len ks fm cm be dz mn st tn tv fn fv (on') tw bf g1 g2 g3 sv (fa') fy bs cf) := by
  refine Ct.of (lv := [_, _, _, _, _]) (by decide) (Nat.le_of_ble_eq_true rfl) rfl ?_
  rintro X rfl hX hR hnm
  obtain ⟨⟨hmk, hav, hdz⟩, hS, hT, hK, hL, hmo, hemp⟩ := id hI
  refine V_aload_n (pc' := 1) hX dX8_about_0 rfl rfl ?_
  refine V_iconst (pc' := 2) (v := nI 0) hX dX8_about_1 (by decide) rfl ?_
  refine V_put (pc' := 5) (fs' := [_, _, _, _, _, _, _, _, _, _, _, _, _, _, _, _, _, _, _, _, _, _, _, _, _, _, _, _, _, _]) (ty0 := tyX8) hX dX8_about_2 hM.1 rfl inX8 tyX8_ok nmX8 0 (by decide) wF_X8_75 rfl (tyX8_ok 0 (by decide)) rfl rfl (Nat.le_of_ble_eq_true rfl) rfl rfl ?_
  refine V.gen (fun h0 eh0 => ?_)
  have f0 := fr.of_up eh0
  have hM := hM.u0 (up_at eh0) f0
  have f0 := f0.mono (lo' := y) (hi' := y + 19) (by omega) (by omega)
  refine V_aload_n (pc' := 6) hX dX8_about_5 rfl rfl ?_
  refine V_iload_n (pc' := 7) hX dX8_about_6 rfl rfl ?_
  refine V_callV (nA := 1) (pc' := 10) (k' := 0) (n' := 0) hX dX8_about_7 (c_Md_is r hI hM) hM.1 rfl wM_X8_85 wI_X8_is wL_X8_is wN_X8 wC_X8_is rfl hy_X8_is rfl (Nat.le_of_ble_eq_true rfl) (by decide) (by omega) rfl rfl (by omega) rfl (by omega) rfl ?_
  rintro _ z h0 ⟨rfl, rfl, rfl⟩
  refine V.stk (st' := [_]) rfl ?_
  refine V_if_neB (pt := 15) (pc' := 13) hX dX8_about_10 rfl rfl (fun c10 => ?_) (fun c10 => ?_)
  · obtain ⟨k, hk31, rfl, hk⟩ := avI_yes c10
    have hkm := hav k hk
    have ak := hI.am hk
    have hkl := hI.ll hk
    refine V_iconst (pc' := 16) (v := nI 0) hX dX8_about_15 (by decide) rfl ?_
    refine V_istore_n (pc' := 17) (lv' := [_, _, _, _, _]) hX dX8_about_16 (Nat.le_of_ble_eq_true rfl) rfl rfl ?_
    refine V_iload_n (pc' := 18) hX dX8_about_17 rfl rfl ?_
    rcases pk_ix what (n := 6) (by omega) with hsw | hsw | ⟨j, hj, rfl⟩
    · have hsw : what.toInt < 0 ∨ 5 < what.toInt := Or.inl (by rw [i32_lt] at hsw; exact hsw)
      refine V_tableOut (pc' := 172) hX dX8_about_18 hsw rfl ?_
      refine V_iconst (pc' := 173) (v := (-1)) hX dX8_about_172 (by decide) rfl ?_
      refine V_iret hX hR dX8_about_173 ?_
      exact ⟨rfl, f0, _, on, fa, rfl, Or.inr ⟨k, rfl, hk, Or.inl ⟨(fun e => by rw [e] at hsw; revert hsw; decide), (fun e => by rw [e] at hsw; revert hsw; decide), (abtV_out (by omega)).symm⟩⟩, hM⟩
    · have hsw : what.toInt < 0 ∨ 5 < what.toInt := Or.inr (by rw [i32_le, nI_toInt (by omega)] at hsw; omega)
      refine V_tableOut (pc' := 172) hX dX8_about_18 hsw rfl ?_
      refine V_iconst (pc' := 173) (v := (-1)) hX dX8_about_172 (by decide) rfl ?_
      refine V_iret hX hR dX8_about_173 ?_
      exact ⟨rfl, f0, _, on, fa, rfl, Or.inr ⟨k, rfl, hk, Or.inl ⟨(fun e => by rw [e] at hsw; revert hsw; decide), (fun e => by rw [e] at hsw; revert hsw; decide), (abtV_out (by omega)).symm⟩⟩, hM⟩
    · rcases (show j = 0 ∨ j = 1 ∨ j = 2 ∨ j = 3 ∨ j = 4 ∨ j = 5 by omega) with rfl | rfl | rfl | rfl | rfl | rfl
      · refine V_tableIn (pc' := 56) hX dX8_about_18 (by decide) (by decide) rfl rfl ?_
        refine V_aload_n (pc' := 57) hX dX8_about_56 rfl rfl ?_
        refine V_get (pc' := 60) hX dX8_about_57 hM.1 rfl inX8 3 (by decide) wF_X8_13 rfl rfl ?_
        refine V_iload_n (pc' := 61) hX dX8_about_60 rfl rfl ?_
        refine V_ialdN (pc' := 62) (v := nI (L k).length) hX dX8_about_61 hM.2.2.1 (by omega) (by omega) (by rw [hI.mn hk]) rfl ?_
        refine V_iret hX hR dX8_about_62 ?_
        exact ⟨rfl, f0, _, on, fa, rfl, Or.inr ⟨k, rfl, hk, Or.inl ⟨by decide, by decide, rfl⟩⟩, hM⟩
      · refine V_tableIn (pc' := 63) hX dX8_about_18 (by decide) (by decide) rfl rfl ?_
        refine V_aload_n (pc' := 64) hX dX8_about_63 rfl rfl ?_
        refine V_iload_n (pc' := 65) hX dX8_about_64 rfl rfl ?_
        refine V_callV (nA := 1) (pc' := 68) (k' := 0) (n' := 0) hX dX8_about_65 (c_Md_amountOf k hk hI hM) hM.1 rfl wM_X8_136 wI_X8_amountOf wL_X8_amountOf wN_X8 wC_X8_amountOf rfl hy_X8_amountOf rfl (Nat.le_of_ble_eq_true rfl) (by decide) (by omega) rfl rfl (by omega) rfl (by omega) rfl ?_
        rintro _ z h0 ⟨rfl, rfl, rfl⟩
        refine V.stk (st' := [_]) rfl ?_
        refine V_iret hX hR dX8_about_68 ?_
        exact ⟨rfl, f0, _, on, fa, rfl, Or.inr ⟨k, rfl, hk, Or.inl ⟨by decide, by decide, rfl⟩⟩, hM⟩
      · refine V_tableIn (pc' := 69) hX dX8_about_18 (by decide) (by decide) rfl rfl ?_
        refine V_aload_n (pc' := 70) hX dX8_about_69 rfl rfl ?_
        refine V_aload_n (pc' := 71) hX dX8_about_70 rfl rfl ?_
        refine V_iload_n (pc' := 72) hX dX8_about_71 rfl rfl ?_
        refine V_callV (nA := 1) (pc' := 75) (k' := 0) (n' := 0) hX dX8_about_72 (c_Md_amountOf k hk hI hM) hM.1 rfl wM_X8_136 wI_X8_amountOf wL_X8_amountOf wN_X8 wC_X8_amountOf rfl hy_X8_amountOf rfl (Nat.le_of_ble_eq_true rfl) (by decide) (by omega) rfl rfl (by omega) rfl (by omega) rfl ?_
        rintro _ z h0 ⟨rfl, rfl, rfl⟩
        refine V.stk (st' := [_, _]) rfl ?_
        refine V_i2lN (pc' := 76) hX dX8_about_75 (by omega) rfl ?_
        refine V_callV (nA := 1) (pc' := 79) (k' := 0) (n' := 0) hX dX8_about_76 (c_Md_least (amL W (L k)) ak hmo hM) hM.1 rfl wM_X8_153 wI_X8_least wL_X8_least wN_X8 wC_X8_least rfl hy_X8_least rfl (Nat.le_of_ble_eq_true rfl) (by decide) (by omega) rfl rfl (by omega) rfl (by omega) rfl ?_
        rintro _ z h0 ⟨rfl, rfl, rfl⟩
        refine V.stk (st' := [_]) rfl ?_
        refine V_l2i (pc' := 80) hX dX8_about_79 rfl ?_
        rw [lN_i]
        refine V_iret hX hR dX8_about_80 ?_
        exact ⟨rfl, f0, _, on, fa, rfl, Or.inr ⟨k, rfl, hk, Or.inl ⟨by decide, by decide, rfl⟩⟩, hM⟩
      · refine V_tableIn (pc' := 81) hX dX8_about_18 (by decide) (by decide) rfl rfl ?_
        refine V_aload_n (pc' := 82) hX dX8_about_81 rfl rfl ?_
        refine V_iload_n (pc' := 83) hX dX8_about_82 rfl rfl ?_
        refine V_aload_n (pc' := 84) hX dX8_about_83 rfl rfl ?_
        refine V_get (pc' := 87) hX dX8_about_84 hM.1 rfl inX8 14 (by decide) wF_X8_42 rfl rfl ?_
        refine V_callV (nA := 2) (pc' := 90) (k' := 0) (n' := 0) hX dX8_about_87 (c_Md_sort1 k hk hI hM) hM.1 rfl wM_X8_157 wI_X8_sort wL_X8_sort wN_X8 wC_X8_sort rfl hy_X8_sort rfl (Nat.le_of_ble_eq_true rfl) (by decide) (by omega) rfl rfl (by omega) rfl (by omega) rfl ?_
        rintro _ z h1 ⟨rfl, rfl, f1, o1, ho1, hM⟩
        have f0 := f0.tr (f1.mono (lo' := y) (hi' := y + 19) (by omega) (by omega))
        refine V.stk (st' := []) rfl ?_
        refine V_aload_n (pc' := 91) hX dX8_about_90 rfl rfl ?_
        refine V_aload_n (pc' := 92) hX dX8_about_91 rfl rfl ?_
        refine V_get (pc' := 95) hX dX8_about_92 hM.1 rfl inX8 14 (by decide) wF_X8_42 rfl rfl ?_
        refine V_aload_n (pc' := 96) hX dX8_about_95 rfl rfl ?_
        refine V_get (pc' := 99) hX dX8_about_96 hM.1 rfl inX8 3 (by decide) wF_X8_13 rfl rfl ?_
        refine V_iload_n (pc' := 100) hX dX8_about_99 rfl rfl ?_
        refine V_ialdN (pc' := 101) (v := nI (L k).length) hX dX8_about_100 hM.2.2.1 (by omega) (by omega) (by rw [hI.mn hk]) rfl ?_
        refine V_callV (nA := 2) (pc' := 104) (k' := 0) (n' := 0) hX dX8_about_101 (c_Md_beginning (y + 8) (L k) hM.2.2.2.2.2.2.2.2.1 ho1 hkl (hI.lv hk) hT hmo hM) hM.1 rfl wM_X8_161 wI_X8_beginning wL_X8_beginning wN_X8 wC_X8_beginning rfl hy_X8_beginning rfl (Nat.le_of_ble_eq_true rfl) (by decide) (by omega) rfl rfl (by omega) rfl (by omega) rfl ?_
        rintro _ z h1 ⟨rfl, rfl, rfl⟩
        refine V.stk (st' := [_]) rfl ?_
        refine V_iret hX hR dX8_about_104 ?_
        exact ⟨rfl, f0, _, o1, fa, rfl, Or.inr ⟨k, rfl, hk, Or.inl ⟨by decide, by decide, rfl⟩⟩, hM⟩
      · refine V_tableIn (pc' := 105) hX dX8_about_18 (by decide) (by decide) rfl rfl ?_
        refine V_aload_n (pc' := 106) hX dX8_about_105 rfl rfl ?_
        refine V_iload_n (pc' := 107) hX dX8_about_106 rfl rfl ?_
        refine V_callV (nA := 1) (pc' := 110) (k' := 0) (n' := 0) hX dX8_about_107 (c_Md_steps k hk hI hM) hM.1 rfl wM_X8_194 wI_X8_steps wL_X8_steps wN_X8 wC_X8_steps rfl hy_X8_steps rfl (Nat.le_of_ble_eq_true rfl) (by decide) (by omega) rfl rfl (by omega) rfl (by omega) rfl ?_
        rintro _ z h1 ⟨rfl, rfl, f1, fa1, hdk, hM⟩
        have f0 := f0.tr (f1.mono (lo' := y) (hi' := y + 19) (by omega) (by omega))
        have hfk : fa1 k ≠ -1 := by
          rcases hdk k (by omega) with ⟨e, q1, q2, -, -⟩ | ⟨-, q2⟩
          · rw [q2]; exact nI_m1 (by omega)
          · exact absurd rfl (q2 0)
        refine V.stk (st' := []) rfl ?_
        have ln : ∀ (μ n : Nat), n ≤ k → (∀ j, j < n → fa1 j = -1) → k - n < μ → V X 0 0 z h1 110 [some (.ref y), some (.int (nI k)), some (.int (nI 4)), some (.int (nI n)), none] [] := by
          intro μ
          induction μ with
          | zero => intros; omega
          | succ μ ih =>
            intro n b1 b2 b3
            refine V_aload_n (pc' := 111) hX dX8_about_110 rfl rfl ?_
            refine V_get (pc' := 114) hX dX8_about_111 hM.1 rfl inX8 23 (by decide) wF_X8_63 rfl rfl ?_
            refine V_iload_n (pc' := 115) hX dX8_about_114 rfl rfl ?_
            refine V_ialdN (pc' := 116) (v := fa1 n) hX dX8_about_115 hM.2.2.2.2.2.2.2.2.2.2.2.2.2.2.2.1 (by omega) (by omega) rfl rfl ?_
            refine V_iconst (pc' := 117) (v := (-1)) hX dX8_about_116 (by decide) rfl ?_
            refine V_icmp_ne (pt := 126) (pc' := 120) hX dX8_about_117 rfl rfl (fun c117 => ?_) (fun c117 => ?_)
            · refine V_iload_n (pc' := 127) hX dX8_about_126 rfl rfl ?_
              refine V_iret hX hR dX8_about_127 ?_
              exact ⟨rfl, f0, _, on, fa1, rfl, Or.inr ⟨k, rfl, hk, Or.inr ⟨hdk, Or.inl ⟨rfl, n, rfl, by omega, c117, b2⟩⟩⟩, hM⟩
            · refine V_iincN (pc' := 123) (j := 1) (lv' := [_, _, _, _, _]) hX dX8_about_120 rfl rfl rfl rfl ?_
              refine V_goto (pc' := 110) hX dX8_about_123 rfl ?_
              refine V.loc2 (lv' := [some _, some _, some _, some _, none]) ⟨rfl, rfl, rfl, rfl, trivial⟩ ?_
              have hne : n ≠ k := fun e => hfk (by rw [← e]; exact c117)
              exact ih (n + 1) (by omega) (fun j hj => by
                by_cases e : j = n
                · rw [e]; exact c117
                · exact b2 j (by omega)) (by omega)
        refine V.loc2 (lv' := [some _, some _, some _, some _, none]) ⟨rfl, rfl, rfl, rfl, trivial⟩ ?_
        exact ln (k + 1) 0 (by omega) (fun j hj => by omega) (by omega)
      · refine V_tableIn (pc' := 128) hX dX8_about_18 (by decide) (by decide) rfl rfl ?_
        refine V_aload_n (pc' := 129) hX dX8_about_128 rfl rfl ?_
        refine V_iload_n (pc' := 130) hX dX8_about_129 rfl rfl ?_
        refine V_callV (nA := 1) (pc' := 133) (k' := 0) (n' := 0) hX dX8_about_130 (c_Md_steps k hk hI hM) hM.1 rfl wM_X8_194 wI_X8_steps wL_X8_steps wN_X8 wC_X8_steps rfl hy_X8_steps rfl (Nat.le_of_ble_eq_true rfl) (by decide) (by omega) rfl rfl (by omega) rfl (by omega) rfl ?_
        rintro _ z h1 ⟨rfl, rfl, f1, fa1, hdk, hM⟩
        have f0 := f0.tr (f1.mono (lo' := y) (hi' := y + 19) (by omega) (by omega))
        refine V.stk (st' := []) rfl ?_
        refine V_iconst (pc' := 134) (v := nI 0) hX dX8_about_133 (by decide) rfl ?_
        refine V_istore (pc' := 136) (lv' := [_, _, _, _, _]) hX dX8_about_134 (Nat.le_of_ble_eq_true rfl) rfl rfl ?_
        have lc : ∀ (μ s : Nat), s ≤ mk → mk - s < μ → V X 0 0 z h1 136 [some (.ref y), some (.int (nI k)), some (.int (nI 5)), some (.int (nI (sm (fun s => if fa1 s = -1 then 0 else 1) s))), some (.int (nI s))] [] := by
          intro μ
          induction μ with
          | zero => intros; omega
          | succ μ ih =>
            intro s b1 b3
            refine V_iload (pc' := 138) hX dX8_about_136 rfl rfl ?_
            refine V_aload_n (pc' := 139) hX dX8_about_138 rfl rfl ?_
            refine V_get (pc' := 142) hX dX8_about_139 hM.1 rfl inX8 1 (by decide) wF_X8_78 rfl rfl ?_
            refine V_icmp_geN (pt := 170) (pc' := 145) hX dX8_about_142 (by omega) (by omega) rfl rfl (fun c142 => ?_) (fun c142 => ?_)
            · refine V_iload_n (pc' := 171) hX dX8_about_170 rfl rfl ?_
              refine V_iret hX hR dX8_about_171 ?_
              have es : s = mk := by omega
              subst es
              exact ⟨rfl, f0, _, on, fa1, rfl, Or.inr ⟨k, rfl, hk, Or.inr ⟨hdk, Or.inr ⟨rfl, rfl⟩⟩⟩, hM⟩
            · refine V_iload_n (pc' := 146) hX dX8_about_145 rfl rfl ?_
              refine V_aload_n (pc' := 147) hX dX8_about_146 rfl rfl ?_
              refine V_get (pc' := 150) hX dX8_about_147 hM.1 rfl inX8 23 (by decide) wF_X8_63 rfl rfl ?_
              refine V_iload (pc' := 152) hX dX8_about_150 rfl rfl ?_
              refine V_ialdN (pc' := 153) (v := fa1 s) hX dX8_about_152 hM.2.2.2.2.2.2.2.2.2.2.2.2.2.2.2.1 (by omega) (by omega) rfl rfl ?_
              refine V_iconst (pc' := 154) (v := (-1)) hX dX8_about_153 (by decide) rfl ?_
              refine V_icmp_eq (pt := 161) (pc' := 157) hX dX8_about_154 rfl rfl (fun c154 => ?_) (fun c154 => ?_)
              · refine V_iconst (pc' := 162) (v := nI 0) hX dX8_about_161 (by decide) rfl ?_
                refine V_iaddN (pc' := 163) hX dX8_about_162 rfl ?_
                refine V_istore_n (pc' := 164) (lv' := [_, _, _, _, _]) hX dX8_about_163 (Nat.le_of_ble_eq_true rfl) rfl rfl ?_
                refine V_iincN (pc' := 167) (j := 1) (lv' := [_, _, _, _, _]) hX dX8_about_164 rfl rfl rfl rfl ?_
                refine V_goto (pc' := 136) hX dX8_about_167 rfl ?_
                first
                  | (rw [show sm (fun s => if fa1 s = -1 then 0 else 1) s + 1 = sm (fun s => if fa1 s = -1 then 0 else 1) (s + 1) by rw [sm_s, if_neg c154]]; exact ih (s + 1) (by omega) (by omega))
                  | (rw [show sm (fun s => if fa1 s = -1 then 0 else 1) s + 0 = sm (fun s => if fa1 s = -1 then 0 else 1) (s + 1) by rw [sm_s, if_pos c154]]; exact ih (s + 1) (by omega) (by omega))
              · refine V_iconst (pc' := 158) (v := nI 1) hX dX8_about_157 (by decide) rfl ?_
                refine V_goto (pc' := 162) hX dX8_about_158 rfl ?_
                refine V_iaddN (pc' := 163) hX dX8_about_162 rfl ?_
                refine V_istore_n (pc' := 164) (lv' := [_, _, _, _, _]) hX dX8_about_163 (Nat.le_of_ble_eq_true rfl) rfl rfl ?_
                refine V_iincN (pc' := 167) (j := 1) (lv' := [_, _, _, _, _]) hX dX8_about_164 rfl rfl rfl rfl ?_
                refine V_goto (pc' := 136) hX dX8_about_167 rfl ?_
                first
                  | (rw [show sm (fun s => if fa1 s = -1 then 0 else 1) s + 1 = sm (fun s => if fa1 s = -1 then 0 else 1) (s + 1) by rw [sm_s, if_neg c154]]; exact ih (s + 1) (by omega) (by omega))
                  | (rw [show sm (fun s => if fa1 s = -1 then 0 else 1) s + 0 = sm (fun s => if fa1 s = -1 then 0 else 1) (s + 1) by rw [sm_s, if_pos c154]]; exact ih (s + 1) (by omega) (by omega))
        exact lc (mk + 1) 0 (by omega) (by omega)
  · refine V_iconst (pc' := 14) (v := (-1)) hX dX8_about_13 (by decide) rfl ?_
    refine V_iret hX hR dX8_about_14 ?_
    exact ⟨rfl, f0, _, on, fa, rfl, Or.inl ⟨c10, rfl⟩, hM⟩
set_option maxRecDepth 100000 in
set_option maxHeartbeats 4000000 in
theorem c_Md_chain {G : Gd} {z : Nat} {h : AH} {y : Nat} {th : Int32} {mk : Nat} {ts : Nat} {fs : Nat} {kd : Nat} {p : Nat} {q : Nat} {len : Nat} {ks : Nat} {fm : Nat} {cm : Nat} {be : Nat} {dz : Nat → Bool} {mn : Nat → Nat} {st : Nat → Nat} {tn : Nat → Nat} {tv : Nat → Nat} {fn : Nat → Nat} {fv : Nat → Nat} {on : Nat → Nat} {tw : Nat → Nat} {bf : Nat → Nat} {g1 : Nat → Nat} {g2 : Nat → Nat} {g3 : Nat → Nat} {sv : Nat → Nat} {fa : Nat → Int32} {fy : Nat → Nat} {bs : Nat → Nat} {cf : Nat → Nat} {av : Nat → Bool} {M L : Nat → List Nat} {W F : Nat → Nat} (r s : Int32) (hI : mdI mk ts fs kd p q av M L W F dz mn st tn tv fn fv) (hM : mdC G h y th mk ts fs kd p q len ks fm cm be dz mn st tn tv fn fv on tw bf g1 g2 g3 sv fa fy bs cf)  : Ct G yX8_chain cX8_chain 3 (some .int) 4 0 0 [.ref y, .int r, .int s] z h (fun r' z' h' => z' = z ∧ fr y (y + 19) h h' ∧ ∃ w fa', r' = some (.int w) ∧ (((avI av r = false ∨ avI av s = false) ∧ w = -1) ∨ ∃ i j, r = nI i ∧ s = nI j ∧ av i = true ∧ av j = true ∧ dOk (pE kd p q W L av) i fa' ∧ w = fa' j) ∧ mdC G h' y (nI 0) mk ts fs kd p q len ks fm cm be dz mn st tn tv fn fv on tw bf g1 g2 g3 sv (fa') fy bs cf) := by
  refine Ct.of (lv := [_, _, _]) (by decide) (Nat.le_of_ble_eq_true rfl) rfl ?_
  rintro X rfl hX hR hnm
  obtain ⟨⟨hmk, hav, hdz⟩, hS, hT, hK, hL, hmo, hemp⟩ := id hI
  refine V_aload_n (pc' := 1) hX dX8_chain_0 rfl rfl ?_
  refine V_iconst (pc' := 2) (v := nI 0) hX dX8_chain_1 (by decide) rfl ?_
  refine V_put (pc' := 5) (fs' := [_, _, _, _, _, _, _, _, _, _, _, _, _, _, _, _, _, _, _, _, _, _, _, _, _, _, _, _, _, _]) (ty0 := tyX8) hX dX8_chain_2 hM.1 rfl inX8 tyX8_ok nmX8 0 (by decide) wF_X8_75 rfl (tyX8_ok 0 (by decide)) rfl rfl (Nat.le_of_ble_eq_true rfl) rfl rfl ?_
  refine V.gen (fun h0 eh0 => ?_)
  have f0 := fr.of_up eh0
  have hM := hM.u0 (up_at eh0) f0
  have f0 := f0.mono (lo' := y) (hi' := y + 19) (by omega) (by omega)
  refine V_aload_n (pc' := 6) hX dX8_chain_5 rfl rfl ?_
  refine V_iload_n (pc' := 7) hX dX8_chain_6 rfl rfl ?_
  refine V_callV (nA := 1) (pc' := 10) (k' := 0) (n' := 0) hX dX8_chain_7 (c_Md_is r hI hM) hM.1 rfl wM_X8_85 wI_X8_is wL_X8_is wN_X8 wC_X8_is rfl hy_X8_is rfl (Nat.le_of_ble_eq_true rfl) (by decide) (by omega) rfl rfl (by omega) rfl (by omega) rfl ?_
  rintro _ z h0 ⟨rfl, rfl, rfl⟩
  refine V.stk (st' := [_]) rfl ?_
  refine V_if_eqB (pt := 21) (pc' := 13) hX dX8_chain_10 rfl rfl (fun c10 => ?_) (fun c10 => ?_)
  · refine V_iconst (pc' := 22) (v := (-1)) hX dX8_chain_21 (by decide) rfl ?_
    refine V_iret hX hR dX8_chain_22 ?_
    first
      | exact ⟨rfl, f0, _, fa, rfl, Or.inl ⟨Or.inl c10, rfl⟩, hM⟩
      | exact ⟨rfl, f0, _, fa, rfl, Or.inl ⟨Or.inr c18, rfl⟩, hM⟩
  · obtain ⟨i, hi31, rfl, hi⟩ := avI_yes c10
    have him := hav i hi
    refine V_aload_n (pc' := 14) hX dX8_chain_13 rfl rfl ?_
    refine V_iload_n (pc' := 15) hX dX8_chain_14 rfl rfl ?_
    refine V_callV (nA := 1) (pc' := 18) (k' := 0) (n' := 0) hX dX8_chain_15 (c_Md_is s hI hM) hM.1 rfl wM_X8_85 wI_X8_is wL_X8_is wN_X8 wC_X8_is rfl hy_X8_is rfl (Nat.le_of_ble_eq_true rfl) (by decide) (by omega) rfl rfl (by omega) rfl (by omega) rfl ?_
    rintro _ z h0 ⟨rfl, rfl, rfl⟩
    refine V.stk (st' := [_]) rfl ?_
    refine V_if_neB (pt := 23) (pc' := 21) hX dX8_chain_18 rfl rfl (fun c18 => ?_) (fun c18 => ?_)
    · obtain ⟨j, hj31, rfl, hj⟩ := avI_yes c18
      have hjm := hav j hj
      refine V_aload_n (pc' := 24) hX dX8_chain_23 rfl rfl ?_
      refine V_iload_n (pc' := 25) hX dX8_chain_24 rfl rfl ?_
      refine V_callV (nA := 1) (pc' := 28) (k' := 0) (n' := 0) hX dX8_chain_25 (c_Md_steps i hi hI hM) hM.1 rfl wM_X8_194 wI_X8_steps wL_X8_steps wN_X8 wC_X8_steps rfl hy_X8_steps rfl (Nat.le_of_ble_eq_true rfl) (by decide) (by omega) rfl rfl (by omega) rfl (by omega) rfl ?_
      rintro _ z h1 ⟨rfl, rfl, f1, fa1, hdk, hM⟩
      have f0 := f0.tr (f1.mono (lo' := y) (hi' := y + 19) (by omega) (by omega))
      refine V.stk (st' := []) rfl ?_
      refine V_aload_n (pc' := 29) hX dX8_chain_28 rfl rfl ?_
      refine V_get (pc' := 32) hX dX8_chain_29 hM.1 rfl inX8 23 (by decide) wF_X8_63 rfl rfl ?_
      refine V_iload_n (pc' := 33) hX dX8_chain_32 rfl rfl ?_
      refine V_ialdN (pc' := 34) (v := fa1 j) hX dX8_chain_33 hM.2.2.2.2.2.2.2.2.2.2.2.2.2.2.2.1 (by omega) (by omega) rfl rfl ?_
      refine V_iret hX hR dX8_chain_34 ?_
      exact ⟨rfl, f0, _, fa1, rfl, Or.inr ⟨i, j, rfl, rfl, hi, hj, hdk, rfl⟩, hM⟩
    · refine V_iconst (pc' := 22) (v := (-1)) hX dX8_chain_21 (by decide) rfl ?_
      refine V_iret hX hR dX8_chain_22 ?_
      first
        | exact ⟨rfl, f0, _, fa, rfl, Or.inl ⟨Or.inl c10, rfl⟩, hM⟩
        | exact ⟨rfl, f0, _, fa, rfl, Or.inl ⟨Or.inr c18, rfl⟩, hM⟩
set_option maxRecDepth 100000 in
set_option maxHeartbeats 4000000 in
theorem c_Md_next {G : Gd} {z : Nat} {h : AH} {y : Nat} {th : Int32} {mk : Nat} {ts : Nat} {fs : Nat} {kd : Nat} {p : Nat} {q : Nat} {len : Nat} {ks : Nat} {fm : Nat} {cm : Nat} {be : Nat} {dz : Nat → Bool} {mn : Nat → Nat} {st : Nat → Nat} {tn : Nat → Nat} {tv : Nat → Nat} {fn : Nat → Nat} {fv : Nat → Nat} {on : Nat → Nat} {tw : Nat → Nat} {bf : Nat → Nat} {g1 : Nat → Nat} {g2 : Nat → Nat} {g3 : Nat → Nat} {sv : Nat → Nat} {fa : Nat → Int32} {fy : Nat → Nat} {bs : Nat → Nat} {cf : Nat → Nat} {av : Nat → Bool} {M L : Nat → List Nat} {W F : Nat → Nat} (r s : Int32) (hI : mdI mk ts fs kd p q av M L W F dz mn st tn tv fn fv) (hM : mdC G h y th mk ts fs kd p q len ks fm cm be dz mn st tn tv fn fv on tw bf g1 g2 g3 sv fa fy bs cf)  : Ct G yX8_next cX8_next 4 (some .int) 4 0 0 [.ref y, .int r, .int s] z h (fun r' z' h' => z' = z ∧ fr y (y + 19) h h' ∧ ∃ w fa', r' = some (.int w) ∧ (((avI av r && (avI av s && decide (r ≠ s))) = false ∧ w = -1) ∨ ∃ i j, r = nI i ∧ s = nI j ∧ av i = true ∧ av j = true ∧ i ≠ j ∧ dOk (pE kd p q W L av) j fa' ∧ ((fa' i = -1 ∧ w = -1) ∨ ∃ d, 1 ≤ d ∧ d < 1000 ∧ fa' i = nI d ∧ ((∃ n, n < mk ∧ (fa' n = nI (d - 1) ∧ (pE kd p q W L av) i n = true) ∧ (∀ m, m < n → ¬ (fa' m = nI (d - 1) ∧ (pE kd p q W L av) i m = true)) ∧ w = nI n) ∨ ((∀ m, m < mk → ¬ (fa' m = nI (d - 1) ∧ (pE kd p q W L av) i m = true)) ∧ w = -1)))) ∧ mdC G h' y (nI 0) mk ts fs kd p q len ks fm cm be dz mn st tn tv fn fv on tw bf g1 g2 g3 sv (fa') fy bs cf) := by
  refine Ct.of (lv := [_, _, _, _]) (by decide) (Nat.le_of_ble_eq_true rfl) rfl ?_
  rintro X rfl hX hR hnm
  obtain ⟨⟨hmk, hav, hdz⟩, hS, hT, hK, hL, hmo, hemp⟩ := id hI
  refine V_aload_n (pc' := 1) hX dX8_next_0 rfl rfl ?_
  refine V_iconst (pc' := 2) (v := nI 0) hX dX8_next_1 (by decide) rfl ?_
  refine V_put (pc' := 5) (fs' := [_, _, _, _, _, _, _, _, _, _, _, _, _, _, _, _, _, _, _, _, _, _, _, _, _, _, _, _, _, _]) (ty0 := tyX8) hX dX8_next_2 hM.1 rfl inX8 tyX8_ok nmX8 0 (by decide) wF_X8_75 rfl (tyX8_ok 0 (by decide)) rfl rfl (Nat.le_of_ble_eq_true rfl) rfl rfl ?_
  refine V.gen (fun h0 eh0 => ?_)
  have f0 := fr.of_up eh0
  have hM := hM.u0 (up_at eh0) f0
  have f0 := f0.mono (lo' := y) (hi' := y + 19) (by omega) (by omega)
  refine V_aload_n (pc' := 6) hX dX8_next_5 rfl rfl ?_
  refine V_iload_n (pc' := 7) hX dX8_next_6 rfl rfl ?_
  refine V_iload_n (pc' := 8) hX dX8_next_7 rfl rfl ?_
  refine V_callV (nA := 2) (pc' := 11) (k' := 0) (n' := 0) hX dX8_next_8 (c_Md_isTwo r s hI hM) hM.1 rfl wM_X8_171 wI_X8_isTwo wL_X8_isTwo wN_X8 wC_X8_isTwo rfl hy_X8_isTwo rfl (Nat.le_of_ble_eq_true rfl) (by decide) (by omega) rfl rfl (by omega) rfl (by omega) rfl ?_
  rintro _ z h0 ⟨rfl, rfl, rfl⟩
  refine V.stk (st' := [_]) rfl ?_
  refine V_if_neB (pt := 16) (pc' := 14) hX dX8_next_11 rfl rfl (fun c11 => ?_) (fun c11 => ?_)
  · rw [Bool.and_eq_true, Bool.and_eq_true] at c11
    obtain ⟨i, hi31, rfl, hi⟩ := avI_yes c11.1
    obtain ⟨j, hj31, rfl, hj⟩ := avI_yes c11.2.1
    have hij : i ≠ j := fun e => of_decide_eq_true c11.2.2 (by rw [e])
    have him := hav i hi
    have hjm := hav j hj
    refine V_aload_n (pc' := 17) hX dX8_next_16 rfl rfl ?_
    refine V_iload_n (pc' := 18) hX dX8_next_17 rfl rfl ?_
    refine V_callV (nA := 1) (pc' := 21) (k' := 0) (n' := 0) hX dX8_next_18 (c_Md_steps j hj hI hM) hM.1 rfl wM_X8_194 wI_X8_steps wL_X8_steps wN_X8 wC_X8_steps rfl hy_X8_steps rfl (Nat.le_of_ble_eq_true rfl) (by decide) (by omega) rfl rfl (by omega) rfl (by omega) rfl ?_
    rintro _ z h1 ⟨rfl, rfl, f1, fa1, hdk, hM⟩
    have f0 := f0.tr (f1.mono (lo' := y) (hi' := y + 19) (by omega) (by omega))
    refine V.stk (st' := []) rfl ?_
    refine V_aload_n (pc' := 22) hX dX8_next_21 rfl rfl ?_
    refine V_get (pc' := 25) hX dX8_next_22 hM.1 rfl inX8 23 (by decide) wF_X8_63 rfl rfl ?_
    refine V_iload_n (pc' := 26) hX dX8_next_25 rfl rfl ?_
    refine V_ialdN (pc' := 27) (v := fa1 i) hX dX8_next_26 hM.2.2.2.2.2.2.2.2.2.2.2.2.2.2.2.1 (by omega) (by omega) rfl rfl ?_
    refine V_iconst (pc' := 28) (v := (-1)) hX dX8_next_27 (by decide) rfl ?_
    refine V_icmp_ne (pt := 33) (pc' := 31) hX dX8_next_28 rfl rfl (fun c28 => ?_) (fun c28 => ?_)
    · obtain ⟨d, hd0, hdi, hd1⟩ : ∃ d, d < 1000 ∧ fa1 i = nI d ∧ 1 ≤ d := by
        rcases hdk i (by omega) with ⟨e, q1, q2, q3, -⟩ | ⟨q1, -⟩
        · refine ⟨e, q1, q2, ?_⟩
          cases e with
          | zero => exact absurd q3 hij
          | succ e => omega
        · exact absurd q1 c28
      refine V_iconst (pc' := 34) (v := nI 0) hX dX8_next_33 (by decide) rfl ?_
      refine V_istore_n (pc' := 35) (lv' := [_, _, _, _]) hX dX8_next_34 (Nat.le_of_ble_eq_true rfl) rfl rfl ?_
      have ln : ∀ (μ n : Nat), n ≤ mk → (∀ m, m < n → ¬ (fa1 m = nI (d - 1) ∧ (pE kd p q W L av) i m = true)) → mk - n < μ → V X 0 0 z h1 35 [some (.ref y), some (.int (nI i)), some (.int (nI j)), some (.int (nI n))] [] := by
        intro μ
        induction μ with
        | zero => intros; omega
        | succ μ ih =>
          intro n b1 b2 b3
          refine V_iload_n (pc' := 36) hX dX8_next_35 rfl rfl ?_
          refine V_aload_n (pc' := 37) hX dX8_next_36 rfl rfl ?_
          refine V_get (pc' := 40) hX dX8_next_37 hM.1 rfl inX8 1 (by decide) wF_X8_78 rfl rfl ?_
          refine V_icmp_geN (pt := 86) (pc' := 43) hX dX8_next_40 (by omega) (by omega) rfl rfl (fun c40 => ?_) (fun c40 => ?_)
          · refine V_iconst (pc' := 87) (v := (-1)) hX dX8_next_86 (by decide) rfl ?_
            refine V_iret hX hR dX8_next_87 ?_
            exact ⟨rfl, f0, _, fa1, rfl, Or.inr ⟨i, j, rfl, rfl, hi, hj, hij, hdk, Or.inr ⟨d, hd1, hd0, hdi, Or.inr ⟨fun m hm => b2 m (by omega), rfl⟩⟩⟩, hM⟩
          · refine V_aload_n (pc' := 44) hX dX8_next_43 rfl rfl ?_
            refine V_get (pc' := 47) hX dX8_next_44 hM.1 rfl inX8 23 (by decide) wF_X8_63 rfl rfl ?_
            refine V_iload_n (pc' := 48) hX dX8_next_47 rfl rfl ?_
            refine V_ialdN (pc' := 49) (v := fa1 n) hX dX8_next_48 hM.2.2.2.2.2.2.2.2.2.2.2.2.2.2.2.1 (by omega) (by omega) rfl rfl ?_
            refine V_aload_n (pc' := 50) hX dX8_next_49 rfl rfl ?_
            refine V_get (pc' := 53) hX dX8_next_50 hM.1 rfl inX8 23 (by decide) wF_X8_63 rfl rfl ?_
            refine V_iload_n (pc' := 54) hX dX8_next_53 rfl rfl ?_
            refine V_ialdN (pc' := 55) (v := nI d) hX dX8_next_54 hM.2.2.2.2.2.2.2.2.2.2.2.2.2.2.2.1 (by omega) (by omega) hdi rfl ?_
            refine V_iconst (pc' := 56) (v := nI 1) hX dX8_next_55 (by decide) rfl ?_
            refine V_isubN (pc' := 57) hX dX8_next_56 (by omega) rfl ?_
            refine V_icmp_ne (pt := 80) (pc' := 60) hX dX8_next_57 rfl rfl (fun c57 => ?_) (fun c57 => ?_)
            · refine V_iincN (pc' := 83) (j := 1) (lv' := [_, _, _, _]) hX dX8_next_80 rfl rfl rfl rfl ?_
              refine V_goto (pc' := 35) hX dX8_next_83 rfl ?_
              exact ih (n + 1) (by omega) (fun m hm w9 => by
                by_cases e : m = n
                · rw [e] at w9
                  first
                    | exact c57 w9.1
                    | (obtain ⟨x1, x2, x3⟩ := pE_av w9.2
                       rw [x1, x2, decide_eq_true (show nI i ≠ nI n from fun e => x3 ((nI_eq (by omega) (by omega)).mp e))] at c66
                       cases c66; done)
                    | (rw [w9.2] at c75; cases c75; done)
                · exact b2 m (by omega) w9) (by omega)
            · refine V_aload_n (pc' := 61) hX dX8_next_60 rfl rfl ?_
              refine V_iload_n (pc' := 62) hX dX8_next_61 rfl rfl ?_
              refine V_iload_n (pc' := 63) hX dX8_next_62 rfl rfl ?_
              refine V_callV (nA := 2) (pc' := 66) (k' := 0) (n' := 0) hX dX8_next_63 (c_Md_isTwo (nI i) (nI n) hI hM) hM.1 rfl wM_X8_171 wI_X8_isTwo wL_X8_isTwo wN_X8 wC_X8_isTwo rfl hy_X8_isTwo rfl (Nat.le_of_ble_eq_true rfl) (by decide) (by omega) rfl rfl (by omega) rfl (by omega) rfl ?_
              rintro _ z h1 ⟨rfl, rfl, rfl⟩
              rw [avI_nI (show i < 2 ^ 31 by omega), avI_nI (show n < 2 ^ 31 by omega)]
              refine V.stk (st' := [_]) rfl ?_
              refine V_if_eqB (pt := 80) (pc' := 69) hX dX8_next_66 rfl rfl (fun c66 => ?_) (fun c66 => ?_)
              · refine V_iincN (pc' := 83) (j := 1) (lv' := [_, _, _, _]) hX dX8_next_80 rfl rfl rfl rfl ?_
                refine V_goto (pc' := 35) hX dX8_next_83 rfl ?_
                exact ih (n + 1) (by omega) (fun m hm w9 => by
                  by_cases e : m = n
                  · rw [e] at w9
                    first
                      | exact c57 w9.1
                      | (obtain ⟨x1, x2, x3⟩ := pE_av w9.2
                         rw [x1, x2, decide_eq_true (show nI i ≠ nI n from fun e => x3 ((nI_eq (by omega) (by omega)).mp e))] at c66
                         cases c66; done)
                      | (rw [w9.2] at c75; cases c75; done)
                  · exact b2 m (by omega) w9) (by omega)
              · rw [Bool.and_eq_true, Bool.and_eq_true] at c66
                have hne : i ≠ n := fun e => of_decide_eq_true c66.2.2 (by rw [e])
                have han := c66.2.1
                refine V_aload_n (pc' := 70) hX dX8_next_69 rfl rfl ?_
                refine V_iload_n (pc' := 71) hX dX8_next_70 rfl rfl ?_
                refine V_iload_n (pc' := 72) hX dX8_next_71 rfl rfl ?_
                refine V_callV (nA := 2) (pc' := 75) (k' := 0) (n' := 0) hX dX8_next_72 (c_Md_isPair i n hi han hI hM) hM.1 rfl wM_X8_168 wI_X8_isPair wL_X8_isPair wN_X8 wC_X8_isPair rfl hy_X8_isPair rfl (Nat.le_of_ble_eq_true rfl) (by decide) (by omega) rfl rfl (by omega) rfl (by omega) rfl ?_
                rintro _ z h1 ⟨rfl, rfl, rfl⟩
                rw [← pE_on hi han hne]
                refine V.stk (st' := [_]) rfl ?_
                refine V_if_eqB (pt := 80) (pc' := 78) hX dX8_next_75 rfl rfl (fun c75 => ?_) (fun c75 => ?_)
                · refine V_iincN (pc' := 83) (j := 1) (lv' := [_, _, _, _]) hX dX8_next_80 rfl rfl rfl rfl ?_
                  refine V_goto (pc' := 35) hX dX8_next_83 rfl ?_
                  exact ih (n + 1) (by omega) (fun m hm w9 => by
                    by_cases e : m = n
                    · rw [e] at w9
                      first
                        | exact c57 w9.1
                        | (obtain ⟨x1, x2, x3⟩ := pE_av w9.2
                           rw [x1, x2, decide_eq_true (show nI i ≠ nI n from fun e => x3 ((nI_eq (by omega) (by omega)).mp e))] at c66
                           cases c66; done)
                        | (rw [w9.2] at c75; cases c75; done)
                    · exact b2 m (by omega) w9) (by omega)
                · refine V_iload_n (pc' := 79) hX dX8_next_78 rfl rfl ?_
                  refine V_iret hX hR dX8_next_79 ?_
                  exact ⟨rfl, f0, _, fa1, rfl, Or.inr ⟨i, j, rfl, rfl, hi, hj, hij, hdk, Or.inr ⟨d, hd1, hd0, hdi, Or.inl ⟨n, by omega, ⟨c57, c75⟩, b2, rfl⟩⟩⟩, hM⟩
      exact ln (mk + 1) 0 (by omega) (fun j hj => by omega) (by omega)
    · refine V_iconst (pc' := 32) (v := (-1)) hX dX8_next_31 (by decide) rfl ?_
      refine V_iret hX hR dX8_next_32 ?_
      exact ⟨rfl, f0, _, fa1, rfl, Or.inr ⟨i, j, rfl, rfl, hi, hj, hij, hdk, Or.inl ⟨c28, rfl⟩⟩, hM⟩
  · refine V_iconst (pc' := 15) (v := (-1)) hX dX8_next_14 (by decide) rfl ?_
    refine V_iret hX hR dX8_next_15 ?_
    exact ⟨rfl, f0, _, fa, rfl, Or.inl ⟨c11, rfl⟩, hM⟩
set_option maxRecDepth 100000 in
set_option maxHeartbeats 4000000 in
theorem c_Md_count {G : Gd} {z : Nat} {h : AH} {y : Nat} {th : Int32} {mk : Nat} {ts : Nat} {fs : Nat} {kd : Nat} {p : Nat} {q : Nat} {len : Nat} {ks : Nat} {fm : Nat} {cm : Nat} {be : Nat} {dz : Nat → Bool} {mn : Nat → Nat} {st : Nat → Nat} {tn : Nat → Nat} {tv : Nat → Nat} {fn : Nat → Nat} {fv : Nat → Nat} {on : Nat → Nat} {tw : Nat → Nat} {bf : Nat → Nat} {g1 : Nat → Nat} {g2 : Nat → Nat} {g3 : Nat → Nat} {sv : Nat → Nat} {fa : Nat → Int32} {fy : Nat → Nat} {bs : Nat → Nat} {cf : Nat → Nat} {av : Nat → Bool} {M L : Nat → List Nat} {W F : Nat → Nat} (what : Int32) (hI : mdI mk ts fs kd p q av M L W F dz mn st tn tv fn fv) (hM : mdC G h y th mk ts fs kd p q len ks fm cm be dz mn st tn tv fn fv on tw bf g1 g2 g3 sv fa fy bs cf)  : Ct G yX8_count cX8_count 5 (some .int) 4 0 0 [.ref y, .int what] z h (fun r' z' h' => z' = z ∧ fr y (y + 19) h h' ∧ ∃ w fa', r' = some (.int w) ∧ ((what ≠ nI 8 ∧ w = cntV (sm (fun r => if av r = true then 1 else 0) mk) (sm (fun r => if av r = true then (L r).length else 0) mk) (fun f => sv (mpW f)) (sv 5) kd p q len ks what) ∨ (what = nI 8 ∧ ∃ c : Nat → Bool, (∀ r, r < mk → av r = true → (c r = true ↔ ∀ j, j < r → ∀ d, ¬ bal (pE kd p q W L av) r d j)) ∧ w = nI (sm (fun r => if (av r && c r) = true then 1 else 0) mk))) ∧ mdC G h' y (nI 0) mk ts fs kd p q len ks fm cm be dz mn st tn tv fn fv on tw bf g1 g2 g3 sv (fa') fy bs cf) := by
  refine Ct.of (lv := [_, _, _, _, _]) (by decide) (Nat.le_of_ble_eq_true rfl) rfl ?_
  rintro X rfl hX hR hnm
  obtain ⟨⟨hmk, hav, hdz⟩, hS, hT, hK, hL, hmo, hemp⟩ := id hI
  refine V_aload_n (pc' := 1) hX dX8_count_0 rfl rfl ?_
  refine V_iconst (pc' := 2) (v := nI 0) hX dX8_count_1 (by decide) rfl ?_
  refine V_put (pc' := 5) (fs' := [_, _, _, _, _, _, _, _, _, _, _, _, _, _, _, _, _, _, _, _, _, _, _, _, _, _, _, _, _, _]) (ty0 := tyX8) hX dX8_count_2 hM.1 rfl inX8 tyX8_ok nmX8 0 (by decide) wF_X8_75 rfl (tyX8_ok 0 (by decide)) rfl rfl (Nat.le_of_ble_eq_true rfl) rfl rfl ?_
  refine V.gen (fun h0 eh0 => ?_)
  have f0 := fr.of_up eh0
  have hM := hM.u0 (up_at eh0) f0
  have f0 := f0.mono (lo' := y) (hi' := y + 19) (by omega) (by omega)
  refine V_iconst (pc' := 6) (v := nI 0) hX dX8_count_5 (by decide) rfl ?_
  refine V_istore_n (pc' := 7) (lv' := [_, _, _, _, _]) hX dX8_count_6 (Nat.le_of_ble_eq_true rfl) rfl rfl ?_
  refine V_iload_n (pc' := 8) hX dX8_count_7 rfl rfl ?_
  rcases pk_ix what (n := 14) (by omega) with hsw | hsw | ⟨j, hj, rfl⟩
  · have hsw : what.toInt < 0 ∨ 13 < what.toInt := Or.inl (by rw [i32_lt] at hsw; exact hsw)
    refine V_tableOut (pc' := 276) hX dX8_count_8 hsw rfl ?_
    refine V_iconst (pc' := 277) (v := (-1)) hX dX8_count_276 (by decide) rfl ?_
    refine V_iret hX hR dX8_count_277 ?_
    exact ⟨rfl, f0, _, fa, rfl, Or.inl ⟨fun e => by rw [e] at hsw; revert hsw; decide, (cntV_out hsw).symm⟩, hM⟩
  · have hsw : what.toInt < 0 ∨ 13 < what.toInt := Or.inr (by rw [i32_le, nI_toInt (by omega)] at hsw; omega)
    refine V_tableOut (pc' := 276) hX dX8_count_8 hsw rfl ?_
    refine V_iconst (pc' := 277) (v := (-1)) hX dX8_count_276 (by decide) rfl ?_
    refine V_iret hX hR dX8_count_277 ?_
    exact ⟨rfl, f0, _, fa, rfl, Or.inl ⟨fun e => by rw [e] at hsw; revert hsw; decide, (cntV_out hsw).symm⟩, hM⟩
  · rcases (show j = 0 ∨ j = 1 ∨ j = 2 ∨ j = 3 ∨ j = 4 ∨ j = 5 ∨ j = 6 ∨ j = 7 ∨ j = 8 ∨ j = 9 ∨ j = 10 ∨ j = 11 ∨ j = 12 ∨ j = 13 by omega) with rfl | rfl | rfl | rfl | rfl | rfl | rfl | rfl | rfl | rfl | rfl | rfl | rfl | rfl
    · refine V_tableIn (pc' := 80) hX dX8_count_8 (by decide) (by decide) rfl rfl ?_
      refine V_iconst (pc' := 81) (v := nI 0) hX dX8_count_80 (by decide) rfl ?_
      refine V_istore_n (pc' := 82) (lv' := [_, _, _, _, _]) hX dX8_count_81 (Nat.le_of_ble_eq_true rfl) rfl rfl ?_
      have l0 : ∀ (μ i : Nat), i ≤ mk → mk - i < μ → V X 0 0 z h0 82 [some (.ref y), some (.int (nI 0)), some (.int (nI (sm (fun r => if av r = true then 1 else 0) i))), some (.int (nI i)), none] [] := by
        intro μ
        induction μ with
        | zero => intros; omega
        | succ μ ih =>
          intro i b1 b3
          refine V_iload_n (pc' := 83) hX dX8_count_82 rfl rfl ?_
          refine V_aload_n (pc' := 84) hX dX8_count_83 rfl rfl ?_
          refine V_get (pc' := 87) hX dX8_count_84 hM.1 rfl inX8 1 (by decide) wF_X8_78 rfl rfl ?_
          refine V_icmp_geN (pt := 113) (pc' := 90) hX dX8_count_87 (by omega) (by omega) rfl rfl (fun c87 => ?_) (fun c87 => ?_)
          · refine V_iload_n (pc' := 114) hX dX8_count_113 rfl rfl ?_
            refine V_iret hX hR dX8_count_114 ?_
            have ei : i = mk := by omega
            subst ei
            exact ⟨rfl, f0, _, fa, rfl, Or.inl ⟨by decide, rfl⟩, hM⟩
          · refine V_iload_n (pc' := 91) hX dX8_count_90 rfl rfl ?_
            refine V_aload_n (pc' := 92) hX dX8_count_91 rfl rfl ?_
            refine V_get (pc' := 95) hX dX8_count_92 hM.1 rfl inX8 2 (by decide) wF_X8_9 rfl rfl ?_
            refine V_iload_n (pc' := 96) hX dX8_count_95 rfl rfl ?_
            refine V_zaldN (pc' := 97) (v := bI (dz i)) hX dX8_count_96 hM.2.1 (by omega) (by omega) rfl rfl ?_
            refine V_if_eqB (pt := 104) (pc' := 100) hX dX8_count_97 rfl rfl (fun c97 => ?_) (fun c97 => ?_)
            · have hai : av i = true := by
                have := hdz i (by omega)
                rw [c97, decide_eq_true (show i < mk by omega)] at this
                cases hx : av i with
                | true => rfl
                | false => rw [hx] at this; cases this
              refine V_iconst (pc' := 105) (v := nI 1) hX dX8_count_104 (by decide) rfl ?_
              refine V_iaddN (pc' := 106) hX dX8_count_105 rfl ?_
              refine V_istore_n (pc' := 107) (lv' := [_, _, _, _, _]) hX dX8_count_106 (Nat.le_of_ble_eq_true rfl) rfl rfl ?_
              refine V_iincN (pc' := 110) (j := 1) (lv' := [_, _, _, _, _]) hX dX8_count_107 rfl rfl rfl rfl ?_
              refine V_goto (pc' := 82) hX dX8_count_110 rfl ?_
              refine V.loc2 (lv' := [some _, some _, some _, some _, none]) ⟨rfl, rfl, rfl, rfl, trivial⟩ ?_
              first
                | (rw [show sm (fun r => if av r = true then 1 else 0) i + 1 = sm (fun r => if av r = true then 1 else 0) (i + 1) by rw [sm_s, if_pos hai]]; exact ih (i + 1) (by omega) (by omega))
                | (rw [show sm (fun r => if av r = true then 1 else 0) i + 0 = sm (fun r => if av r = true then 1 else 0) (i + 1) by rw [sm_s, if_neg (by rw [hai]; decide)]]; exact ih (i + 1) (by omega) (by omega))
            · have hai : av i = false := by
                have := hdz i (by omega)
                rw [c97, decide_eq_true (show i < mk by omega)] at this
                cases hx : av i with
                | false => rfl
                | true => rw [hx] at this; cases this
              refine V_iconst (pc' := 101) (v := nI 0) hX dX8_count_100 (by decide) rfl ?_
              refine V_goto (pc' := 105) hX dX8_count_101 rfl ?_
              refine V_iaddN (pc' := 106) hX dX8_count_105 rfl ?_
              refine V_istore_n (pc' := 107) (lv' := [_, _, _, _, _]) hX dX8_count_106 (Nat.le_of_ble_eq_true rfl) rfl rfl ?_
              refine V_iincN (pc' := 110) (j := 1) (lv' := [_, _, _, _, _]) hX dX8_count_107 rfl rfl rfl rfl ?_
              refine V_goto (pc' := 82) hX dX8_count_110 rfl ?_
              refine V.loc2 (lv' := [some _, some _, some _, some _, none]) ⟨rfl, rfl, rfl, rfl, trivial⟩ ?_
              first
                | (rw [show sm (fun r => if av r = true then 1 else 0) i + 1 = sm (fun r => if av r = true then 1 else 0) (i + 1) by rw [sm_s, if_pos hai]]; exact ih (i + 1) (by omega) (by omega))
                | (rw [show sm (fun r => if av r = true then 1 else 0) i + 0 = sm (fun r => if av r = true then 1 else 0) (i + 1) by rw [sm_s, if_neg (by rw [hai]; decide)]]; exact ih (i + 1) (by omega) (by omega))
      refine V.loc2 (lv' := [some _, some _, some _, some _, none]) ⟨rfl, rfl, rfl, rfl, trivial⟩ ?_
      exact l0 (mk + 1) 0 (by omega) (by omega)
    · refine V_tableIn (pc' := 115) hX dX8_count_8 (by decide) (by decide) rfl rfl ?_
      refine V_iconst (pc' := 116) (v := nI 0) hX dX8_count_115 (by decide) rfl ?_
      refine V_istore_n (pc' := 117) (lv' := [_, _, _, _, _]) hX dX8_count_116 (Nat.le_of_ble_eq_true rfl) rfl rfl ?_
      have l1 : ∀ (μ i : Nat), i ≤ mk → mk - i < μ → V X 0 0 z h0 117 [some (.ref y), some (.int (nI 1)), some (.int (nI (sm (fun r => if av r = true then (L r).length else 0) i))), some (.int (nI i)), none] [] := by
        intro μ
        induction μ with
        | zero => intros; omega
        | succ μ ih =>
          intro i b1 b3
          refine V_iload_n (pc' := 118) hX dX8_count_117 rfl rfl ?_
          refine V_aload_n (pc' := 119) hX dX8_count_118 rfl rfl ?_
          refine V_get (pc' := 122) hX dX8_count_119 hM.1 rfl inX8 1 (by decide) wF_X8_78 rfl rfl ?_
          refine V_icmp_geN (pt := 153) (pc' := 125) hX dX8_count_122 (by omega) (by omega) rfl rfl (fun c122 => ?_) (fun c122 => ?_)
          · refine V_iload_n (pc' := 154) hX dX8_count_153 rfl rfl ?_
            refine V_iret hX hR dX8_count_154 ?_
            have ei : i = mk := by omega
            subst ei
            exact ⟨rfl, f0, _, fa, rfl, Or.inl ⟨by decide, rfl⟩, hM⟩
          · refine V_iload_n (pc' := 126) hX dX8_count_125 rfl rfl ?_
            refine V_aload_n (pc' := 127) hX dX8_count_126 rfl rfl ?_
            refine V_get (pc' := 130) hX dX8_count_127 hM.1 rfl inX8 2 (by decide) wF_X8_9 rfl rfl ?_
            refine V_iload_n (pc' := 131) hX dX8_count_130 rfl rfl ?_
            refine V_zaldN (pc' := 132) (v := bI (dz i)) hX dX8_count_131 hM.2.1 (by omega) (by omega) rfl rfl ?_
            refine V_if_eqB (pt := 139) (pc' := 135) hX dX8_count_132 rfl rfl (fun c132 => ?_) (fun c132 => ?_)
            · have hai : av i = true := by
                have := hdz i (by omega)
                rw [c132, decide_eq_true (show i < mk by omega)] at this
                cases hx : av i with
                | true => rfl
                | false => rw [hx] at this; cases this
              refine V_aload_n (pc' := 140) hX dX8_count_139 rfl rfl ?_
              refine V_get (pc' := 143) hX dX8_count_140 hM.1 rfl inX8 3 (by decide) wF_X8_13 rfl rfl ?_
              refine V_iload_n (pc' := 144) hX dX8_count_143 rfl rfl ?_
              refine V_ialdN (pc' := 145) (v := nI (L i).length) hX dX8_count_144 hM.2.2.1 (by omega) (by omega) (by rw [hI.mn hai]) rfl ?_
              refine V_iaddN (pc' := 146) hX dX8_count_145 rfl ?_
              refine V_istore_n (pc' := 147) (lv' := [_, _, _, _, _]) hX dX8_count_146 (Nat.le_of_ble_eq_true rfl) rfl rfl ?_
              refine V_iincN (pc' := 150) (j := 1) (lv' := [_, _, _, _, _]) hX dX8_count_147 rfl rfl rfl rfl ?_
              refine V_goto (pc' := 117) hX dX8_count_150 rfl ?_
              refine V.loc2 (lv' := [some _, some _, some _, some _, none]) ⟨rfl, rfl, rfl, rfl, trivial⟩ ?_
              first
                | (rw [show sm (fun r => if av r = true then (L r).length else 0) i + (L i).length = sm (fun r => if av r = true then (L r).length else 0) (i + 1) by rw [sm_s, if_pos hai]]; exact ih (i + 1) (by omega) (by omega))
                | (rw [show sm (fun r => if av r = true then (L r).length else 0) i + 0 = sm (fun r => if av r = true then (L r).length else 0) (i + 1) by rw [sm_s, if_neg (by rw [hai]; decide)]]; exact ih (i + 1) (by omega) (by omega))
            · have hai : av i = false := by
                have := hdz i (by omega)
                rw [c132, decide_eq_true (show i < mk by omega)] at this
                cases hx : av i with
                | false => rfl
                | true => rw [hx] at this; cases this
              refine V_iconst (pc' := 136) (v := nI 0) hX dX8_count_135 (by decide) rfl ?_
              refine V_goto (pc' := 145) hX dX8_count_136 rfl ?_
              refine V_iaddN (pc' := 146) hX dX8_count_145 rfl ?_
              refine V_istore_n (pc' := 147) (lv' := [_, _, _, _, _]) hX dX8_count_146 (Nat.le_of_ble_eq_true rfl) rfl rfl ?_
              refine V_iincN (pc' := 150) (j := 1) (lv' := [_, _, _, _, _]) hX dX8_count_147 rfl rfl rfl rfl ?_
              refine V_goto (pc' := 117) hX dX8_count_150 rfl ?_
              refine V.loc2 (lv' := [some _, some _, some _, some _, none]) ⟨rfl, rfl, rfl, rfl, trivial⟩ ?_
              first
                | (rw [show sm (fun r => if av r = true then (L r).length else 0) i + (L i).length = sm (fun r => if av r = true then (L r).length else 0) (i + 1) by rw [sm_s, if_pos hai]]; exact ih (i + 1) (by omega) (by omega))
                | (rw [show sm (fun r => if av r = true then (L r).length else 0) i + 0 = sm (fun r => if av r = true then (L r).length else 0) (i + 1) by rw [sm_s, if_neg (by rw [hai]; decide)]]; exact ih (i + 1) (by omega) (by omega))
      refine V.loc2 (lv' := [some _, some _, some _, some _, none]) ⟨rfl, rfl, rfl, rfl, trivial⟩ ?_
      exact l1 (mk + 1) 0 (by omega) (by omega)
    · refine V_tableIn (pc' := 155) hX dX8_count_8 (by decide) (by decide) rfl rfl ?_
      refine V_aload_n (pc' := 156) hX dX8_count_155 rfl rfl ?_
      refine V_get (pc' := 159) hX dX8_count_156 hM.1 rfl inX8 22 (by decide) wF_X8_60 rfl rfl ?_
      refine V_iload_n (pc' := 160) hX dX8_count_159 rfl rfl ?_
      refine V_iconst (pc' := 161) (v := nI 2) hX dX8_count_160 (by decide) rfl ?_
      refine V_icmp_neN (pt := 168) (pc' := 164) hX dX8_count_161 (by omega) (by omega) rfl rfl (fun c161 => ?_) (fun c161 => ?_)
      · refine V_iload_n (pc' := 169) hX dX8_count_168 rfl rfl ?_
        refine V_iconst (pc' := 170) (v := nI 3) hX dX8_count_169 (by decide) rfl ?_
        refine V_icmp_neN (pt := 177) (pc' := 173) hX dX8_count_170 (by omega) (by omega) rfl rfl (fun c170 => ?_) (fun c170 => ?_)
        · refine V_iload_n (pc' := 178) hX dX8_count_177 rfl rfl ?_
          refine V_iconst (pc' := 179) (v := nI 2) hX dX8_count_178 (by decide) rfl ?_
          refine V_isubN (pc' := 180) hX dX8_count_179 (by omega) rfl ?_
          refine V_ialdN (pc' := 181) hX dX8_count_180 hM.2.2.2.2.2.2.2.2.2.2.2.2.2.2.1 (by omega) (by omega) rfl rfl ?_
          refine V_iret hX hR dX8_count_181 ?_
          first
            | exact ⟨rfl, f0, _, fa, rfl, Or.inl ⟨by decide, rfl⟩, hM⟩
            | (exfalso; omega)
        · refine V_iconst (pc' := 174) (v := nI 1) hX dX8_count_173 (by decide) rfl ?_
          refine V_goto (pc' := 180) hX dX8_count_174 rfl ?_
          refine V_ialdN (pc' := 181) hX dX8_count_180 hM.2.2.2.2.2.2.2.2.2.2.2.2.2.2.1 (by omega) (by omega) rfl rfl ?_
          refine V_iret hX hR dX8_count_181 ?_
          first
            | exact ⟨rfl, f0, _, fa, rfl, Or.inl ⟨by decide, rfl⟩, hM⟩
            | (exfalso; omega)
      · refine V_iconst (pc' := 165) (v := nI 0) hX dX8_count_164 (by decide) rfl ?_
        refine V_goto (pc' := 180) hX dX8_count_165 rfl ?_
        refine V_ialdN (pc' := 181) hX dX8_count_180 hM.2.2.2.2.2.2.2.2.2.2.2.2.2.2.1 (by omega) (by omega) rfl rfl ?_
        refine V_iret hX hR dX8_count_181 ?_
        first
          | exact ⟨rfl, f0, _, fa, rfl, Or.inl ⟨by decide, rfl⟩, hM⟩
          | (exfalso; omega)
    · refine V_tableIn (pc' := 155) hX dX8_count_8 (by decide) (by decide) rfl rfl ?_
      refine V_aload_n (pc' := 156) hX dX8_count_155 rfl rfl ?_
      refine V_get (pc' := 159) hX dX8_count_156 hM.1 rfl inX8 22 (by decide) wF_X8_60 rfl rfl ?_
      refine V_iload_n (pc' := 160) hX dX8_count_159 rfl rfl ?_
      refine V_iconst (pc' := 161) (v := nI 2) hX dX8_count_160 (by decide) rfl ?_
      refine V_icmp_neN (pt := 168) (pc' := 164) hX dX8_count_161 (by omega) (by omega) rfl rfl (fun c161 => ?_) (fun c161 => ?_)
      · refine V_iload_n (pc' := 169) hX dX8_count_168 rfl rfl ?_
        refine V_iconst (pc' := 170) (v := nI 3) hX dX8_count_169 (by decide) rfl ?_
        refine V_icmp_neN (pt := 177) (pc' := 173) hX dX8_count_170 (by omega) (by omega) rfl rfl (fun c170 => ?_) (fun c170 => ?_)
        · refine V_iload_n (pc' := 178) hX dX8_count_177 rfl rfl ?_
          refine V_iconst (pc' := 179) (v := nI 2) hX dX8_count_178 (by decide) rfl ?_
          refine V_isubN (pc' := 180) hX dX8_count_179 (by omega) rfl ?_
          refine V_ialdN (pc' := 181) hX dX8_count_180 hM.2.2.2.2.2.2.2.2.2.2.2.2.2.2.1 (by omega) (by omega) rfl rfl ?_
          refine V_iret hX hR dX8_count_181 ?_
          first
            | exact ⟨rfl, f0, _, fa, rfl, Or.inl ⟨by decide, rfl⟩, hM⟩
            | (exfalso; omega)
        · refine V_iconst (pc' := 174) (v := nI 1) hX dX8_count_173 (by decide) rfl ?_
          refine V_goto (pc' := 180) hX dX8_count_174 rfl ?_
          refine V_ialdN (pc' := 181) hX dX8_count_180 hM.2.2.2.2.2.2.2.2.2.2.2.2.2.2.1 (by omega) (by omega) rfl rfl ?_
          refine V_iret hX hR dX8_count_181 ?_
          first
            | exact ⟨rfl, f0, _, fa, rfl, Or.inl ⟨by decide, rfl⟩, hM⟩
            | (exfalso; omega)
      · refine V_iconst (pc' := 165) (v := nI 0) hX dX8_count_164 (by decide) rfl ?_
        refine V_goto (pc' := 180) hX dX8_count_165 rfl ?_
        refine V_ialdN (pc' := 181) hX dX8_count_180 hM.2.2.2.2.2.2.2.2.2.2.2.2.2.2.1 (by omega) (by omega) rfl rfl ?_
        refine V_iret hX hR dX8_count_181 ?_
        first
          | exact ⟨rfl, f0, _, fa, rfl, Or.inl ⟨by decide, rfl⟩, hM⟩
          | (exfalso; omega)
    · refine V_tableIn (pc' := 155) hX dX8_count_8 (by decide) (by decide) rfl rfl ?_
      refine V_aload_n (pc' := 156) hX dX8_count_155 rfl rfl ?_
      refine V_get (pc' := 159) hX dX8_count_156 hM.1 rfl inX8 22 (by decide) wF_X8_60 rfl rfl ?_
      refine V_iload_n (pc' := 160) hX dX8_count_159 rfl rfl ?_
      refine V_iconst (pc' := 161) (v := nI 2) hX dX8_count_160 (by decide) rfl ?_
      refine V_icmp_neN (pt := 168) (pc' := 164) hX dX8_count_161 (by omega) (by omega) rfl rfl (fun c161 => ?_) (fun c161 => ?_)
      · refine V_iload_n (pc' := 169) hX dX8_count_168 rfl rfl ?_
        refine V_iconst (pc' := 170) (v := nI 3) hX dX8_count_169 (by decide) rfl ?_
        refine V_icmp_neN (pt := 177) (pc' := 173) hX dX8_count_170 (by omega) (by omega) rfl rfl (fun c170 => ?_) (fun c170 => ?_)
        · refine V_iload_n (pc' := 178) hX dX8_count_177 rfl rfl ?_
          refine V_iconst (pc' := 179) (v := nI 2) hX dX8_count_178 (by decide) rfl ?_
          refine V_isubN (pc' := 180) hX dX8_count_179 (by omega) rfl ?_
          refine V_ialdN (pc' := 181) hX dX8_count_180 hM.2.2.2.2.2.2.2.2.2.2.2.2.2.2.1 (by omega) (by omega) rfl rfl ?_
          refine V_iret hX hR dX8_count_181 ?_
          first
            | exact ⟨rfl, f0, _, fa, rfl, Or.inl ⟨by decide, rfl⟩, hM⟩
            | (exfalso; omega)
        · refine V_iconst (pc' := 174) (v := nI 1) hX dX8_count_173 (by decide) rfl ?_
          refine V_goto (pc' := 180) hX dX8_count_174 rfl ?_
          refine V_ialdN (pc' := 181) hX dX8_count_180 hM.2.2.2.2.2.2.2.2.2.2.2.2.2.2.1 (by omega) (by omega) rfl rfl ?_
          refine V_iret hX hR dX8_count_181 ?_
          first
            | exact ⟨rfl, f0, _, fa, rfl, Or.inl ⟨by decide, rfl⟩, hM⟩
            | (exfalso; omega)
      · refine V_iconst (pc' := 165) (v := nI 0) hX dX8_count_164 (by decide) rfl ?_
        refine V_goto (pc' := 180) hX dX8_count_165 rfl ?_
        refine V_ialdN (pc' := 181) hX dX8_count_180 hM.2.2.2.2.2.2.2.2.2.2.2.2.2.2.1 (by omega) (by omega) rfl rfl ?_
        refine V_iret hX hR dX8_count_181 ?_
        first
          | exact ⟨rfl, f0, _, fa, rfl, Or.inl ⟨by decide, rfl⟩, hM⟩
          | (exfalso; omega)
    · refine V_tableIn (pc' := 155) hX dX8_count_8 (by decide) (by decide) rfl rfl ?_
      refine V_aload_n (pc' := 156) hX dX8_count_155 rfl rfl ?_
      refine V_get (pc' := 159) hX dX8_count_156 hM.1 rfl inX8 22 (by decide) wF_X8_60 rfl rfl ?_
      refine V_iload_n (pc' := 160) hX dX8_count_159 rfl rfl ?_
      refine V_iconst (pc' := 161) (v := nI 2) hX dX8_count_160 (by decide) rfl ?_
      refine V_icmp_neN (pt := 168) (pc' := 164) hX dX8_count_161 (by omega) (by omega) rfl rfl (fun c161 => ?_) (fun c161 => ?_)
      · refine V_iload_n (pc' := 169) hX dX8_count_168 rfl rfl ?_
        refine V_iconst (pc' := 170) (v := nI 3) hX dX8_count_169 (by decide) rfl ?_
        refine V_icmp_neN (pt := 177) (pc' := 173) hX dX8_count_170 (by omega) (by omega) rfl rfl (fun c170 => ?_) (fun c170 => ?_)
        · refine V_iload_n (pc' := 178) hX dX8_count_177 rfl rfl ?_
          refine V_iconst (pc' := 179) (v := nI 2) hX dX8_count_178 (by decide) rfl ?_
          refine V_isubN (pc' := 180) hX dX8_count_179 (by omega) rfl ?_
          refine V_ialdN (pc' := 181) hX dX8_count_180 hM.2.2.2.2.2.2.2.2.2.2.2.2.2.2.1 (by omega) (by omega) rfl rfl ?_
          refine V_iret hX hR dX8_count_181 ?_
          first
            | exact ⟨rfl, f0, _, fa, rfl, Or.inl ⟨by decide, rfl⟩, hM⟩
            | (exfalso; omega)
        · refine V_iconst (pc' := 174) (v := nI 1) hX dX8_count_173 (by decide) rfl ?_
          refine V_goto (pc' := 180) hX dX8_count_174 rfl ?_
          refine V_ialdN (pc' := 181) hX dX8_count_180 hM.2.2.2.2.2.2.2.2.2.2.2.2.2.2.1 (by omega) (by omega) rfl rfl ?_
          refine V_iret hX hR dX8_count_181 ?_
          first
            | exact ⟨rfl, f0, _, fa, rfl, Or.inl ⟨by decide, rfl⟩, hM⟩
            | (exfalso; omega)
      · refine V_iconst (pc' := 165) (v := nI 0) hX dX8_count_164 (by decide) rfl ?_
        refine V_goto (pc' := 180) hX dX8_count_165 rfl ?_
        refine V_ialdN (pc' := 181) hX dX8_count_180 hM.2.2.2.2.2.2.2.2.2.2.2.2.2.2.1 (by omega) (by omega) rfl rfl ?_
        refine V_iret hX hR dX8_count_181 ?_
        first
          | exact ⟨rfl, f0, _, fa, rfl, Or.inl ⟨by decide, rfl⟩, hM⟩
          | (exfalso; omega)
    · refine V_tableIn (pc' := 155) hX dX8_count_8 (by decide) (by decide) rfl rfl ?_
      refine V_aload_n (pc' := 156) hX dX8_count_155 rfl rfl ?_
      refine V_get (pc' := 159) hX dX8_count_156 hM.1 rfl inX8 22 (by decide) wF_X8_60 rfl rfl ?_
      refine V_iload_n (pc' := 160) hX dX8_count_159 rfl rfl ?_
      refine V_iconst (pc' := 161) (v := nI 2) hX dX8_count_160 (by decide) rfl ?_
      refine V_icmp_neN (pt := 168) (pc' := 164) hX dX8_count_161 (by omega) (by omega) rfl rfl (fun c161 => ?_) (fun c161 => ?_)
      · refine V_iload_n (pc' := 169) hX dX8_count_168 rfl rfl ?_
        refine V_iconst (pc' := 170) (v := nI 3) hX dX8_count_169 (by decide) rfl ?_
        refine V_icmp_neN (pt := 177) (pc' := 173) hX dX8_count_170 (by omega) (by omega) rfl rfl (fun c170 => ?_) (fun c170 => ?_)
        · refine V_iload_n (pc' := 178) hX dX8_count_177 rfl rfl ?_
          refine V_iconst (pc' := 179) (v := nI 2) hX dX8_count_178 (by decide) rfl ?_
          refine V_isubN (pc' := 180) hX dX8_count_179 (by omega) rfl ?_
          refine V_ialdN (pc' := 181) hX dX8_count_180 hM.2.2.2.2.2.2.2.2.2.2.2.2.2.2.1 (by omega) (by omega) rfl rfl ?_
          refine V_iret hX hR dX8_count_181 ?_
          first
            | exact ⟨rfl, f0, _, fa, rfl, Or.inl ⟨by decide, rfl⟩, hM⟩
            | (exfalso; omega)
        · refine V_iconst (pc' := 174) (v := nI 1) hX dX8_count_173 (by decide) rfl ?_
          refine V_goto (pc' := 180) hX dX8_count_174 rfl ?_
          refine V_ialdN (pc' := 181) hX dX8_count_180 hM.2.2.2.2.2.2.2.2.2.2.2.2.2.2.1 (by omega) (by omega) rfl rfl ?_
          refine V_iret hX hR dX8_count_181 ?_
          first
            | exact ⟨rfl, f0, _, fa, rfl, Or.inl ⟨by decide, rfl⟩, hM⟩
            | (exfalso; omega)
      · refine V_iconst (pc' := 165) (v := nI 0) hX dX8_count_164 (by decide) rfl ?_
        refine V_goto (pc' := 180) hX dX8_count_165 rfl ?_
        refine V_ialdN (pc' := 181) hX dX8_count_180 hM.2.2.2.2.2.2.2.2.2.2.2.2.2.2.1 (by omega) (by omega) rfl rfl ?_
        refine V_iret hX hR dX8_count_181 ?_
        first
          | exact ⟨rfl, f0, _, fa, rfl, Or.inl ⟨by decide, rfl⟩, hM⟩
          | (exfalso; omega)
    · refine V_tableIn (pc' := 155) hX dX8_count_8 (by decide) (by decide) rfl rfl ?_
      refine V_aload_n (pc' := 156) hX dX8_count_155 rfl rfl ?_
      refine V_get (pc' := 159) hX dX8_count_156 hM.1 rfl inX8 22 (by decide) wF_X8_60 rfl rfl ?_
      refine V_iload_n (pc' := 160) hX dX8_count_159 rfl rfl ?_
      refine V_iconst (pc' := 161) (v := nI 2) hX dX8_count_160 (by decide) rfl ?_
      refine V_icmp_neN (pt := 168) (pc' := 164) hX dX8_count_161 (by omega) (by omega) rfl rfl (fun c161 => ?_) (fun c161 => ?_)
      · refine V_iload_n (pc' := 169) hX dX8_count_168 rfl rfl ?_
        refine V_iconst (pc' := 170) (v := nI 3) hX dX8_count_169 (by decide) rfl ?_
        refine V_icmp_neN (pt := 177) (pc' := 173) hX dX8_count_170 (by omega) (by omega) rfl rfl (fun c170 => ?_) (fun c170 => ?_)
        · refine V_iload_n (pc' := 178) hX dX8_count_177 rfl rfl ?_
          refine V_iconst (pc' := 179) (v := nI 2) hX dX8_count_178 (by decide) rfl ?_
          refine V_isubN (pc' := 180) hX dX8_count_179 (by omega) rfl ?_
          refine V_ialdN (pc' := 181) hX dX8_count_180 hM.2.2.2.2.2.2.2.2.2.2.2.2.2.2.1 (by omega) (by omega) rfl rfl ?_
          refine V_iret hX hR dX8_count_181 ?_
          first
            | exact ⟨rfl, f0, _, fa, rfl, Or.inl ⟨by decide, rfl⟩, hM⟩
            | (exfalso; omega)
        · refine V_iconst (pc' := 174) (v := nI 1) hX dX8_count_173 (by decide) rfl ?_
          refine V_goto (pc' := 180) hX dX8_count_174 rfl ?_
          refine V_ialdN (pc' := 181) hX dX8_count_180 hM.2.2.2.2.2.2.2.2.2.2.2.2.2.2.1 (by omega) (by omega) rfl rfl ?_
          refine V_iret hX hR dX8_count_181 ?_
          first
            | exact ⟨rfl, f0, _, fa, rfl, Or.inl ⟨by decide, rfl⟩, hM⟩
            | (exfalso; omega)
      · refine V_iconst (pc' := 165) (v := nI 0) hX dX8_count_164 (by decide) rfl ?_
        refine V_goto (pc' := 180) hX dX8_count_165 rfl ?_
        refine V_ialdN (pc' := 181) hX dX8_count_180 hM.2.2.2.2.2.2.2.2.2.2.2.2.2.2.1 (by omega) (by omega) rfl rfl ?_
        refine V_iret hX hR dX8_count_181 ?_
        first
          | exact ⟨rfl, f0, _, fa, rfl, Or.inl ⟨by decide, rfl⟩, hM⟩
          | (exfalso; omega)
    · refine V_tableIn (pc' := 182) hX dX8_count_8 (by decide) (by decide) rfl rfl ?_
      refine V_iconst (pc' := 183) (v := nI 0) hX dX8_count_182 (by decide) rfl ?_
      refine V_istore_n (pc' := 184) (lv' := [_, _, _, _, _]) hX dX8_count_183 (Nat.le_of_ble_eq_true rfl) rfl rfl ?_
      have l8 : ∀ (μ i : Nat) (c2 : Nat → Bool) (h2 : AH) (fa2 : Nat → Int32), i ≤ mk → (∀ r, r < i → av r = true → (c2 r = true ↔ ∀ j, j < r → ∀ d, ¬ bal (pE kd p q W L av) r d j)) → fr y (y + 19) h h2 → mdC X.G h2 y (nI 0) mk ts fs kd p q len ks fm cm be dz mn st tn tv fn fv on tw bf g1 g2 g3 sv (fa2) fy bs cf → mk - i < μ → V X 0 0 z h2 184 [some (.ref y), some (.int (nI 8)), some (.int (nI (sm (fun r => if (av r && c2 r) = true then 1 else 0) i))), some (.int (nI i)), none] [] := by
        intro μ
        induction μ with
        | zero => intros; omega
        | succ μ ih =>
          intro i c2 h2 fa2 b1 b2 f2 hM b3
          refine V_iload_n (pc' := 185) hX dX8_count_184 rfl rfl ?_
          refine V_aload_n (pc' := 186) hX dX8_count_185 rfl rfl ?_
          refine V_get (pc' := 189) hX dX8_count_186 hM.1 rfl inX8 1 (by decide) wF_X8_78 rfl rfl ?_
          refine V_icmp_geN (pt := 249) (pc' := 192) hX dX8_count_189 (by omega) (by omega) rfl rfl (fun c189 => ?_) (fun c189 => ?_)
          · refine V_iload_n (pc' := 250) hX dX8_count_249 rfl rfl ?_
            refine V_iret hX hR dX8_count_250 ?_
            have ei : i = mk := by omega
            subst ei
            exact ⟨rfl, f2, _, fa2, rfl, Or.inr ⟨rfl, c2, b2, rfl⟩, hM⟩
          · refine V_aload_n (pc' := 193) hX dX8_count_192 rfl rfl ?_
            refine V_get (pc' := 196) hX dX8_count_193 hM.1 rfl inX8 2 (by decide) wF_X8_9 rfl rfl ?_
            refine V_iload_n (pc' := 197) hX dX8_count_196 rfl rfl ?_
            refine V_zaldN (pc' := 198) (v := bI (dz i)) hX dX8_count_197 hM.2.1 (by omega) (by omega) rfl rfl ?_
            refine V_if_eqB (pt := 204) (pc' := 201) hX dX8_count_198 rfl rfl (fun c198 => ?_) (fun c198 => ?_)
            · have hai : av i = true := by
                have := hdz i (by omega)
                rw [c198, decide_eq_true (show i < mk by omega)] at this
                cases hx : av i with
                | true => rfl
                | false => rw [hx] at this; cases this
              have ihO := ih
              refine V_aload_n (pc' := 205) hX dX8_count_204 rfl rfl ?_
              refine V_iload_n (pc' := 206) hX dX8_count_205 rfl rfl ?_
              refine V_callV (nA := 1) (pc' := 209) (k' := 0) (n' := 0) hX dX8_count_206 (c_Md_steps i hai hI hM) hM.1 rfl wM_X8_194 wI_X8_steps wL_X8_steps wN_X8 wC_X8_steps rfl hy_X8_steps rfl (Nat.le_of_ble_eq_true rfl) (by decide) (by omega) rfl rfl (by omega) rfl (by omega) rfl ?_
              rintro _ z h3 ⟨rfl, rfl, f1, fa3, hdk, hM⟩
              have f3 := f2.tr (f1.mono (lo' := y) (hi' := y + 19) (by omega) (by omega))
              have hfk : fa3 i ≠ -1 := by
                rcases hdk i (by omega) with ⟨e, q1, q2, -, -⟩ | ⟨-, q2⟩
                · rw [q2]; exact nI_m1 (by omega)
                · exact absurd rfl (q2 0)
              refine V.stk (st' := []) rfl ?_
              refine V_iconst (pc' := 210) (v := nI 0) hX dX8_count_209 (by decide) rfl ?_
              refine V_istore (pc' := 212) (lv' := [_, _, _, _, _]) hX dX8_count_210 (Nat.le_of_ble_eq_true rfl) rfl rfl ?_
              have ln : ∀ (μ n : Nat), n ≤ i → (∀ j, j < n → fa3 j = -1) → i - n < μ → V X 0 0 z h3 212 [some (.ref y), some (.int (nI 8)), some (.int (nI (sm (fun r => if (av r && c2 r) = true then 1 else 0) i))), some (.int (nI i)), some (.int (nI n))] [] := by
                intro μ
                induction μ with
                | zero => intros; omega
                | succ μ ih =>
                  intro n d1 d2 d3
                  refine V_aload_n (pc' := 213) hX dX8_count_212 rfl rfl ?_
                  refine V_get (pc' := 216) hX dX8_count_213 hM.1 rfl inX8 23 (by decide) wF_X8_63 rfl rfl ?_
                  refine V_iload (pc' := 218) hX dX8_count_216 rfl rfl ?_
                  refine V_ialdN (pc' := 219) (v := fa3 n) hX dX8_count_218 hM.2.2.2.2.2.2.2.2.2.2.2.2.2.2.2.1 (by omega) (by omega) rfl rfl ?_
                  refine V_iconst (pc' := 220) (v := (-1)) hX dX8_count_219 (by decide) rfl ?_
                  refine V_icmp_ne (pt := 229) (pc' := 223) hX dX8_count_220 rfl rfl (fun c220 => ?_) (fun c220 => ?_)
                  · refine V_iload_n (pc' := 230) hX dX8_count_229 rfl rfl ?_
                    refine V_iload (pc' := 232) hX dX8_count_230 rfl rfl ?_
                    refine V_iload_n (pc' := 233) hX dX8_count_232 rfl rfl ?_
                    refine V_icmp_neN (pt := 240) (pc' := 236) hX dX8_count_233 (by omega) (by omega) rfl rfl (fun c233 => ?_) (fun c233 => ?_)
                    · refine V_iconst (pc' := 241) (v := nI 0) hX dX8_count_240 (by decide) rfl ?_
                      refine V_iaddN (pc' := 242) hX dX8_count_241 rfl ?_
                      refine V_istore_n (pc' := 243) (lv' := [_, _, _, _, _]) hX dX8_count_242 (Nat.le_of_ble_eq_true rfl) rfl rfl ?_
                      refine V_iincN (pc' := 246) (j := 1) (lv' := [_, _, _, _, _]) hX dX8_count_243 rfl rfl rfl rfl ?_
                      refine V_goto (pc' := 184) hX dX8_count_246 rfl ?_
                      refine V.loc2 (lv' := [some _, some _, some _, some _, none]) ⟨rfl, rfl, rfl, rfl, trivial⟩ ?_
                      first
                        | (have hh := ihO (i + 1) (va_up c2 i (decide (n = i))) _ _ (by omega) (fun r hr ha => by
                             by_cases e : r = i
                             · rw [e, vu_at, decide_eq_true_iff]
                               constructor
                               · intro en j hj d hb
                                 rcases hdk j (by omega) with ⟨e9, q1, q2, q3, -⟩ | ⟨-, q2⟩
                                 · have := d2 j (by omega); rw [this] at q2; exact absurd q2.symm (nI_m1 (by omega))
                                 · exact q2 d hb
                               · intro hall
                                 rcases Nat.lt_or_ge n i with g | g
                                 · rcases hdk n (by omega) with ⟨e9, q1, q2, q3, -⟩ | ⟨q1, -⟩
                                   · exact absurd q3 (hall n g e9)
                                   · exact absurd q1 c220
                                 · omega
                             · rw [vu_ne _ _ e]; exact b2 r (by omega) ha) f3 hM (by omega)
                           have e : sm (fun r => if (av r && (va_up c2 i (decide (n = i))) r) = true then 1 else 0) (i + 1) = sm (fun r => if (av r && c2 r) = true then 1 else 0) i + (if n = i then 1 else 0) := by
                             rw [sm_s, vu_at, sm_congr (g := (fun r => if (av r && c2 r) = true then 1 else 0)) (fun j hj => by rw [vu_ne _ _ (show j ≠ i by omega)])]
                             congr 1
                             by_cases w9 : n = i
                             · rw [if_pos w9, if_pos (by rw [hai, decide_eq_true w9]; rfl)]
                             · rw [if_neg w9, if_neg (by rw [hai, decide_eq_false w9]; decide)]
                           rw [e] at hh
                           first
                             | (rw [if_pos c233] at hh; exact hh)
                             | (rw [if_neg c233] at hh; exact hh))
                        | (have hh := ih (i + 1) (va_up c2 i false) _ _ (by omega) (fun r hr ha => by
                             by_cases e : r = i
                             · rw [e, hai] at ha; cases ha
                             · rw [vu_ne _ _ e]; exact b2 r (by omega) ha) f2 hM (by omega)
                           have e : sm (fun r => if (av r && (va_up c2 i false) r) = true then 1 else 0) (i + 1) = sm (fun r => if (av r && c2 r) = true then 1 else 0) i := by
                             rw [sm_s, vu_at, sm_congr (g := (fun r => if (av r && c2 r) = true then 1 else 0)) (fun j hj => by rw [vu_ne _ _ (show j ≠ i by omega)]), if_neg (by rw [Bool.and_false]; decide)]; rfl
                           rw [e] at hh
                           exact hh)
                    · refine V_iconst (pc' := 237) (v := nI 1) hX dX8_count_236 (by decide) rfl ?_
                      refine V_goto (pc' := 241) hX dX8_count_237 rfl ?_
                      refine V_iaddN (pc' := 242) hX dX8_count_241 rfl ?_
                      refine V_istore_n (pc' := 243) (lv' := [_, _, _, _, _]) hX dX8_count_242 (Nat.le_of_ble_eq_true rfl) rfl rfl ?_
                      refine V_iincN (pc' := 246) (j := 1) (lv' := [_, _, _, _, _]) hX dX8_count_243 rfl rfl rfl rfl ?_
                      refine V_goto (pc' := 184) hX dX8_count_246 rfl ?_
                      refine V.loc2 (lv' := [some _, some _, some _, some _, none]) ⟨rfl, rfl, rfl, rfl, trivial⟩ ?_
                      first
                        | (have hh := ihO (i + 1) (va_up c2 i (decide (n = i))) _ _ (by omega) (fun r hr ha => by
                             by_cases e : r = i
                             · rw [e, vu_at, decide_eq_true_iff]
                               constructor
                               · intro en j hj d hb
                                 rcases hdk j (by omega) with ⟨e9, q1, q2, q3, -⟩ | ⟨-, q2⟩
                                 · have := d2 j (by omega); rw [this] at q2; exact absurd q2.symm (nI_m1 (by omega))
                                 · exact q2 d hb
                               · intro hall
                                 rcases Nat.lt_or_ge n i with g | g
                                 · rcases hdk n (by omega) with ⟨e9, q1, q2, q3, -⟩ | ⟨q1, -⟩
                                   · exact absurd q3 (hall n g e9)
                                   · exact absurd q1 c220
                                 · omega
                             · rw [vu_ne _ _ e]; exact b2 r (by omega) ha) f3 hM (by omega)
                           have e : sm (fun r => if (av r && (va_up c2 i (decide (n = i))) r) = true then 1 else 0) (i + 1) = sm (fun r => if (av r && c2 r) = true then 1 else 0) i + (if n = i then 1 else 0) := by
                             rw [sm_s, vu_at, sm_congr (g := (fun r => if (av r && c2 r) = true then 1 else 0)) (fun j hj => by rw [vu_ne _ _ (show j ≠ i by omega)])]
                             congr 1
                             by_cases w9 : n = i
                             · rw [if_pos w9, if_pos (by rw [hai, decide_eq_true w9]; rfl)]
                             · rw [if_neg w9, if_neg (by rw [hai, decide_eq_false w9]; decide)]
                           rw [e] at hh
                           first
                             | (rw [if_pos c233] at hh; exact hh)
                             | (rw [if_neg c233] at hh; exact hh))
                        | (have hh := ih (i + 1) (va_up c2 i false) _ _ (by omega) (fun r hr ha => by
                             by_cases e : r = i
                             · rw [e, hai] at ha; cases ha
                             · rw [vu_ne _ _ e]; exact b2 r (by omega) ha) f2 hM (by omega)
                           have e : sm (fun r => if (av r && (va_up c2 i false) r) = true then 1 else 0) (i + 1) = sm (fun r => if (av r && c2 r) = true then 1 else 0) i := by
                             rw [sm_s, vu_at, sm_congr (g := (fun r => if (av r && c2 r) = true then 1 else 0)) (fun j hj => by rw [vu_ne _ _ (show j ≠ i by omega)]), if_neg (by rw [Bool.and_false]; decide)]; rfl
                           rw [e] at hh
                           exact hh)
                  · refine V_iincN (pc' := 226) (j := 1) (lv' := [_, _, _, _, _]) hX dX8_count_223 rfl rfl rfl rfl ?_
                    refine V_goto (pc' := 212) hX dX8_count_226 rfl ?_
                    have hne : n ≠ i := fun e => hfk (by rw [← e]; exact c220)
                    exact ih (n + 1) (by omega) (fun j hj => by
                      by_cases e : j = n
                      · rw [e]; exact c220
                      · exact d2 j (by omega)) (by omega)
              exact ln (i + 1) 0 (by omega) (fun j hj => by omega) (by omega)
            · have hai : av i = false := by
                have := hdz i (by omega)
                rw [c198, decide_eq_true (show i < mk by omega)] at this
                cases hx : av i with
                | false => rfl
                | true => rw [hx] at this; cases this
              refine V_goto (pc' := 243) hX dX8_count_201 rfl ?_
              refine V_iincN (pc' := 246) (j := 1) (lv' := [_, _, _, _, _]) hX dX8_count_243 rfl rfl rfl rfl ?_
              refine V_goto (pc' := 184) hX dX8_count_246 rfl ?_
              refine V.loc2 (lv' := [some _, some _, some _, some _, none]) ⟨rfl, rfl, rfl, rfl, trivial⟩ ?_
              first
                | (have hh := ihO (i + 1) (va_up c2 i (decide (n = i))) _ _ (by omega) (fun r hr ha => by
                     by_cases e : r = i
                     · rw [e, vu_at, decide_eq_true_iff]
                       constructor
                       · intro en j hj d hb
                         rcases hdk j (by omega) with ⟨e9, q1, q2, q3, -⟩ | ⟨-, q2⟩
                         · have := d2 j (by omega); rw [this] at q2; exact absurd q2.symm (nI_m1 (by omega))
                         · exact q2 d hb
                       · intro hall
                         rcases Nat.lt_or_ge n i with g | g
                         · rcases hdk n (by omega) with ⟨e9, q1, q2, q3, -⟩ | ⟨q1, -⟩
                           · exact absurd q3 (hall n g e9)
                           · exact absurd q1 c220
                         · omega
                     · rw [vu_ne _ _ e]; exact b2 r (by omega) ha) f3 hM (by omega)
                   have e : sm (fun r => if (av r && (va_up c2 i (decide (n = i))) r) = true then 1 else 0) (i + 1) = sm (fun r => if (av r && c2 r) = true then 1 else 0) i + (if n = i then 1 else 0) := by
                     rw [sm_s, vu_at, sm_congr (g := (fun r => if (av r && c2 r) = true then 1 else 0)) (fun j hj => by rw [vu_ne _ _ (show j ≠ i by omega)])]
                     congr 1
                     by_cases w9 : n = i
                     · rw [if_pos w9, if_pos (by rw [hai, decide_eq_true w9]; rfl)]
                     · rw [if_neg w9, if_neg (by rw [hai, decide_eq_false w9]; decide)]
                   rw [e] at hh
                   first
                     | (rw [if_pos c233] at hh; exact hh)
                     | (rw [if_neg c233] at hh; exact hh))
                | (have hh := ih (i + 1) (va_up c2 i false) _ _ (by omega) (fun r hr ha => by
                     by_cases e : r = i
                     · rw [e, hai] at ha; cases ha
                     · rw [vu_ne _ _ e]; exact b2 r (by omega) ha) f2 hM (by omega)
                   have e : sm (fun r => if (av r && (va_up c2 i false) r) = true then 1 else 0) (i + 1) = sm (fun r => if (av r && c2 r) = true then 1 else 0) i := by
                     rw [sm_s, vu_at, sm_congr (g := (fun r => if (av r && c2 r) = true then 1 else 0)) (fun j hj => by rw [vu_ne _ _ (show j ≠ i by omega)]), if_neg (by rw [Bool.and_false]; decide)]; rfl
                   rw [e] at hh
                   exact hh)
      refine V.loc2 (lv' := [some _, some _, some _, some _, none]) ⟨rfl, rfl, rfl, rfl, trivial⟩ ?_
      exact l8 (mk + 1) 0 (fun _ => false) h0 fa (by omega) (fun r hr => by omega) f0 hM (by omega)
    · refine V_tableIn (pc' := 251) hX dX8_count_8 (by decide) (by decide) rfl rfl ?_
      refine V_aload_n (pc' := 252) hX dX8_count_251 rfl rfl ?_
      refine V_get (pc' := 255) hX dX8_count_252 hM.1 rfl inX8 11 (by decide) wF_X8_32 rfl rfl ?_
      refine V_iret hX hR dX8_count_255 ?_
      exact ⟨rfl, f0, _, fa, rfl, Or.inl ⟨by decide, rfl⟩, hM⟩
    · refine V_tableIn (pc' := 256) hX dX8_count_8 (by decide) (by decide) rfl rfl ?_
      refine V_aload_n (pc' := 257) hX dX8_count_256 rfl rfl ?_
      refine V_get (pc' := 260) hX dX8_count_257 hM.1 rfl inX8 12 (by decide) wF_X8_36 rfl rfl ?_
      refine V_iret hX hR dX8_count_260 ?_
      exact ⟨rfl, f0, _, fa, rfl, Or.inl ⟨by decide, rfl⟩, hM⟩
    · refine V_tableIn (pc' := 261) hX dX8_count_8 (by decide) (by decide) rfl rfl ?_
      refine V_aload_n (pc' := 262) hX dX8_count_261 rfl rfl ?_
      refine V_get (pc' := 265) hX dX8_count_262 hM.1 rfl inX8 13 (by decide) wF_X8_39 rfl rfl ?_
      refine V_iret hX hR dX8_count_265 ?_
      exact ⟨rfl, f0, _, fa, rfl, Or.inl ⟨by decide, rfl⟩, hM⟩
    · refine V_tableIn (pc' := 266) hX dX8_count_8 (by decide) (by decide) rfl rfl ?_
      refine V_aload_n (pc' := 267) hX dX8_count_266 rfl rfl ?_
      refine V_get (pc' := 270) hX dX8_count_267 hM.1 rfl inX8 17 (by decide) wF_X8_117 rfl rfl ?_
      refine V_iret hX hR dX8_count_270 ?_
      exact ⟨rfl, f0, _, fa, rfl, Or.inl ⟨by decide, rfl⟩, hM⟩
    · refine V_tableIn (pc' := 271) hX dX8_count_8 (by decide) (by decide) rfl rfl ?_
      refine V_aload_n (pc' := 272) hX dX8_count_271 rfl rfl ?_
      refine V_get (pc' := 275) hX dX8_count_272 hM.1 rfl inX8 18 (by decide) wF_X8_179 rfl rfl ?_
      refine V_iret hX hR dX8_count_275 ?_
      exact ⟨rfl, f0, _, fa, rfl, Or.inl ⟨by decide, rfl⟩, hM⟩
