set_option maxRecDepth 100000 in
set_option maxHeartbeats 4000000 in
theorem c_Ov_init {G : Gd} {z : Nat} {h : AH} {o : Nat} : Ct G yX4_init cX4_init 1 none 1 0 0 [.ref o] z h (fun r z' h' => r = none ∧ z' = z ∧ h' = h) := by
  refine Ct.of (lv := [_]) (by decide) (Nat.le_of_ble_eq_true rfl) rfl ?_
  rintro X rfl hX hR hnm
  refine V_aload_n (pc' := 1) hX dX4_init_0 rfl rfl ?_
  refine V_objInit (pc' := 4) hX dX4_init_1 wM_X4_1 wI_objInit wC_objInit (by omega) rfl rfl rfl ?_
  refine V_vret hX hR dX4_init_4 ?_
  exact ⟨rfl, rfl, rfl⟩
set_option maxRecDepth 100000 in
set_option maxHeartbeats 4000000 in
theorem c_Ov_compare {G : Gd} {z : Nat} {h : AH} {o q1 q2 n1 am1 n2 am2 : Nat} {kf1 wf1 kf2 wf2 : Nat → Nat} {s0 s1 s2 : Int32} (bo bp : Nat) (hbo : bo ≤ n1) (hbp : bp ≤ n2) (ho : h o = some (oO 4 [.int s0, .int s1, .int s2])) (hq1 : o < q1) (hq2 : o < q2) (hN1 : nsAt G h q1 kf1 wf1 n1 am1) (hO1 : nsOk kf1 wf1 n1 am1) (hN2 : nsAt G h q2 kf2 wf2 n2 am2) (hO2 : nsOk kf2 wf2 n2 am2) (hw1 : ∀ j, j < n1 → 1 ≤ wf1 j) : Ct G yX4_compare cX4_compare 9 none 1 0 0 [.ref o, .ref q1, .int (nI bo), .ref q2, .int (nI bp)] z h (fun r z' h' => r = none ∧ z' = z ∧ fr o (o + 1) h h' ∧ ∃ mb, h' o = some (oO 4 [.int (nI (sm (shF kf1 wf1 kf2 n2) n1)), .int (nI (sm (sbF kf1 kf2 bo bp) n1)), .int (nI mb)]) ∧ mbP kf1 wf1 kf2 wf2 n1 am1 n2 am2 mb) := by
  refine Ct.of (lv := [_, _, _, _, _, _, _, _, _]) (by decide) (Nat.le_of_ble_eq_true rfl) rfl ?_
  rintro X rfl hX hR hnm
  obtain ⟨h10, h11, h12⟩ := id hN1
  obtain ⟨h20, h21, h22⟩ := id hN2
  obtain ⟨o11, o12, o13, o14, o15⟩ := id hO1
  obtain ⟨o21, o22, o23, o24, o25⟩ := id hO2
  have oa1 := hO1.am
  have oa2 := hO2.am
  have hshb : ∀ n, n ≤ n1 → sm (shF kf1 wf1 kf2 n2) n ≤ am1 := fun n hn => by
    rw [o15]
    refine Nat.le_trans (sm_mono (g := wf1) (fun j _ => ?_)) (sm_le hn)
    unfold shF; split <;> omega
  refine V_aload_n (pc' := 1) hX dX4_compare_0 rfl rfl ?_
  refine V_iconst (pc' := 2) (v := nI 0) hX dX4_compare_1 (by decide) rfl ?_
  refine V_put (pc' := 5) (fs' := [_, _, _]) (ty0 := tyX4) hX dX4_compare_2 ho rfl inX4 tyX4_ok nmX4 0 (by decide) wF_X4_7 rfl (tyX4_ok 0 (by decide)) rfl rfl (Nat.le_of_ble_eq_true rfl) rfl rfl ?_
  refine V_aload_n (pc' := 6) hX dX4_compare_5 rfl rfl ?_
  refine V_iconst (pc' := 7) (v := nI 0) hX dX4_compare_6 (by decide) rfl ?_
  refine V_put (pc' := 10) (fs' := [_, _, _]) (ty0 := tyX4) hX dX4_compare_7 hup_s rfl inX4 tyX4_ok nmX4 1 (by decide) wF_X4_13 rfl (tyX4_ok 1 (by decide)) rfl rfl (Nat.le_of_ble_eq_true rfl) rfl rfl ?_
  refine V_aload_n (pc' := 11) hX dX4_compare_10 rfl rfl ?_
  refine V_iconst (pc' := 12) (v := nI 0) hX dX4_compare_11 (by decide) rfl ?_
  refine V_put (pc' := 15) (fs' := [_, _, _]) (ty0 := tyX4) hX dX4_compare_12 hup_s rfl inX4 tyX4_ok nmX4 2 (by decide) wF_X4_16 rfl (tyX4_ok 2 (by decide)) rfl rfl (Nat.le_of_ble_eq_true rfl) rfl rfl ?_
  refine V_iconst (pc' := 16) (v := nI 0) hX dX4_compare_15 (by decide) rfl ?_
  refine V_istore (pc' := 18) (lv' := [_, _, _, _, _, _, _, _, _]) hX dX4_compare_16 (Nat.le_of_ble_eq_true rfl) rfl rfl ?_
  refine V_iconst (pc' := 19) (v := nI 0) hX dX4_compare_18 (by decide) rfl ?_
  refine V_istore (pc' := 21) (lv' := [_, _, _, _, _, _, _, _, _]) hX dX4_compare_19 (Nat.le_of_ble_eq_true rfl) rfl rfl ?_
  have lp : ∀ (μ i j : Nat) (hc : AH) (mb : Nat), i ≤ n1 → j ≤ n2 → (∀ a b, a < n1 → b < n2 → kf1 a = kf2 b → (a < i ∧ b < j) ∨ (i ≤ a ∧ j ≤ b)) → fr o (o + 1) h hc → hc o = some (oO 4 [.int (nI (sm (shF kf1 wf1 kf2 n2) i)), .int (nI (sm (sbF kf1 kf2 bo bp) i)), .int (nI mb)]) → (((∀ a, a < i → hasN kf2 n2 (kf1 a) = false) ∧ mb = 0) ∨ ∃ a0 b0, a0 < i ∧ b0 < n2 ∧ kf1 a0 = kf2 b0 ∧ (∀ a, a < a0 → hasN kf2 n2 (kf1 a) = false) ∧ mb = wf1 a0 + min (am1 - sm wf1 (a0 + 1)) (am2 - sm wf2 (b0 + 1))) → (n1 - i) + (n2 - j) < μ → V X 0 0 z hc 21 [some (.ref o), some (.ref q1), some (.int (nI bo)), some (.ref q2), some (.int (nI bp)), some (.int (nI i)), some (.int (nI j)), none, none] [] := by
    intro μ
    induction μ with
    | zero => intros; omega
    | succ μ ih =>
      intro i j hc mb b1 b2 b3 b4 ho b6 b7
      have hc1 := hN1.kept b4 (by omega)
      have hc2 := hN2.kept b4 (by omega)
      obtain ⟨h10, h11, h12⟩ := id hc1
      obtain ⟨h20, h21, h22⟩ := id hc2
      have hsb := hshb i b1
      have hsi : sm (sbF kf1 kf2 bo bp) i ≤ i := by
        have := sm_bd (f := sbF kf1 kf2 bo bp) (c := 1) (n := i) (fun j _ => by unfold sbF; split <;> omega)
        omega
      refine V_iload (pc' := 23) hX dX4_compare_21 rfl rfl ?_
      refine V_aload_n (pc' := 24) hX dX4_compare_23 rfl rfl ?_
      refine V_getN (pc' := 27) hX dX4_compare_24 h10 rfl inX3 2 (by decide) wFn_X4_19 rfl rfl ?_
      refine V_icmp_geN (pt := 160) (pc' := 30) hX dX4_compare_27 (by omega) (by omega) rfl rfl (fun c27 => ?_) (fun c27 => ?_)
      · refine V_vret hX hR dX4_compare_160 ?_
        have e : i = n1 := by omega
        subst e
        exact ⟨rfl, rfl, b4, mb, ho, b6⟩
      · refine V_iload (pc' := 32) hX dX4_compare_30 rfl rfl ?_
        refine V_aload_n (pc' := 33) hX dX4_compare_32 rfl rfl ?_
        refine V_getN (pc' := 36) hX dX4_compare_33 h20 rfl inX3 2 (by decide) wFn_X4_19 rfl rfl ?_
        refine V_icmp_geN (pt := 160) (pc' := 39) hX dX4_compare_36 (by omega) (by omega) rfl rfl (fun c36 => ?_) (fun c36 => ?_)
        · refine V_vret hX hR dX4_compare_160 ?_
          have hno : ∀ a, i ≤ a → a < n1 → hasN kf2 n2 (kf1 a) = false := fun a g1 g2 => hasN_no.mpr (fun b hb e => by
            rcases b3 a b g2 hb e.symm with ⟨g, -⟩ | ⟨-, g⟩ <;> omega)
          have e1 : sm (shF kf1 wf1 kf2 n2) n1 = sm (shF kf1 wf1 kf2 n2) i := sm_tail b1 (fun a g1 g2 => by unfold shF; rw [if_neg (by rw [hno a g1 g2]; decide)])
          have e2 : sm (sbF kf1 kf2 bo bp) n1 = sm (sbF kf1 kf2 bo bp) i := sm_tail b1 (fun a g1 g2 => by
            unfold sbF
            rw [if_neg (fun q => by
              obtain ⟨b, g3, g4⟩ := hasN_iff.mp q.2
              exact hasN_no.mp (hno a g1 g2) b (by omega) g4)])
          refine ⟨rfl, rfl, b4, mb, by rw [e1, e2]; exact ho, ?_⟩
          rcases b6 with ⟨g1, g2⟩ | ⟨a0, b0, g1, g2⟩
          · exact Or.inl ⟨fun a ha => by
              rcases Nat.lt_or_ge a i with r | r
              · exact g1 a r
              · exact hno a r ha, g2⟩
          · exact Or.inr ⟨a0, b0, by omega, g2⟩
        · refine V_aload_n (pc' := 40) hX dX4_compare_39 rfl rfl ?_
          refine V_getN (pc' := 43) hX dX4_compare_40 h10 rfl inX3 0 (by decide) wFn_X4_24 rfl rfl ?_
          refine V_iload (pc' := 45) hX dX4_compare_43 rfl rfl ?_
          refine V_ialdN (pc' := 46) hX dX4_compare_45 h11 (by omega) (by omega) rfl rfl ?_
          refine V_istore (pc' := 48) (lv' := [_, _, _, _, _, _, _, _, _]) hX dX4_compare_46 (Nat.le_of_ble_eq_true rfl) rfl rfl ?_
          refine V_aload_n (pc' := 49) hX dX4_compare_48 rfl rfl ?_
          refine V_getN (pc' := 52) hX dX4_compare_49 h20 rfl inX3 0 (by decide) wFn_X4_24 rfl rfl ?_
          refine V_iload (pc' := 54) hX dX4_compare_52 rfl rfl ?_
          refine V_ialdN (pc' := 55) hX dX4_compare_54 h21 (by omega) (by omega) rfl rfl ?_
          refine V_istore (pc' := 57) (lv' := [_, _, _, _, _, _, _, _, _]) hX dX4_compare_55 (Nat.le_of_ble_eq_true rfl) rfl rfl ?_
          refine V_iload (pc' := 59) hX dX4_compare_57 rfl rfl ?_
          refine V_iload (pc' := 61) hX dX4_compare_59 rfl rfl ?_
          refine V_icmp_neN (pt := 137) (pc' := 64) hX dX4_compare_61 (by have := o12 i (by omega); omega) (by have := o22 j (by omega); omega) rfl rfl (fun c61 => ?_) (fun c61 => ?_)
          · skip
            refine V_iload (pc' := 139) hX dX4_compare_137 rfl rfl ?_
            refine V_iload (pc' := 141) hX dX4_compare_139 rfl rfl ?_
            refine V_icmp_gtN (pt := 147) (pc' := 144) hX dX4_compare_141 (by have := o12 i (by omega); omega) (by have := o22 j (by omega); omega) rfl rfl (fun c141 => ?_) (fun c141 => ?_)
            · refine V_iload (pc' := 149) hX dX4_compare_147 rfl rfl ?_
              refine V_iload (pc' := 151) hX dX4_compare_149 rfl rfl ?_
              refine V_icmp_gtN (pt := 157) (pc' := 154) hX dX4_compare_151 (by have := o22 j (by omega); omega) (by have := o12 i (by omega); omega) rfl rfl (fun c151 => ?_) (fun c151 => ?_)
              · omega
              · refine V_iincN (pc' := 157) (j := 1) (lv' := [_, _, _, _, _, _, _, _, _]) hX dX4_compare_154 rfl rfl rfl rfl ?_
                refine V_goto (pc' := 21) hX dX4_compare_157 rfl ?_
                refine V.loc2 (lv' := [some _, some _, some _, some _, some _, some _, some _, none, none]) ⟨rfl, rfl, rfl, rfl, rfl, rfl, rfl, trivial⟩ ?_
                exact ih i (j + 1) _ mb (by omega) (by omega) (fun a b ha hb e => by
                  rcases b3 a b ha hb e with g | ⟨g1, g2⟩
                  · exact Or.inl ⟨g.1, by omega⟩
                  · refine Or.inr ⟨g1, ?_⟩
                    rcases Nat.lt_or_ge j b with r | r
                    · omega
                    · rw [show b = j by omega] at e
                      rcases Nat.lt_or_ge i a with r2 | r2
                      · have := o13 i a r2 ha; omega
                      · rw [show a = i by omega] at e; omega) b4 ho b6 (by omega)
            · refine V_iincN (pc' := 147) (j := 1) (lv' := [_, _, _, _, _, _, _, _, _]) hX dX4_compare_144 rfl rfl rfl rfl ?_
              refine V_iload (pc' := 149) hX dX4_compare_147 rfl rfl ?_
              refine V_iload (pc' := 151) hX dX4_compare_149 rfl rfl ?_
              refine V_icmp_gtN (pt := 157) (pc' := 154) hX dX4_compare_151 (by have := o22 j (by omega); omega) (by have := o12 i (by omega); omega) rfl rfl (fun c151 => ?_) (fun c151 => ?_)
              · refine V_goto (pc' := 21) hX dX4_compare_157 rfl ?_
                refine V.loc2 (lv' := [some _, some _, some _, some _, some _, some _, some _, none, none]) ⟨rfl, rfl, rfl, rfl, rfl, rfl, rfl, trivial⟩ ?_
                have hno : hasN kf2 n2 (kf1 i) = false := hasN_no.mpr (fun b hb e => by
                  rcases b3 i b (by omega) hb e.symm with ⟨g, -⟩ | ⟨-, g⟩
                  · omega
                  · rcases Nat.lt_or_ge j b with r | r
                    · have := o23 j b r hb; omega
                    · rw [show b = j by omega] at e; omega)
                have e1 : sm (shF kf1 wf1 kf2 n2) (i + 1) = sm (shF kf1 wf1 kf2 n2) i := by rw [sm_s]; unfold shF; rw [if_neg (by rw [hno]; decide)]; omega
                have e2 : sm (sbF kf1 kf2 bo bp) (i + 1) = sm (sbF kf1 kf2 bo bp) i := by
                  rw [sm_s]; unfold sbF
                  rw [if_neg (fun q => by
                    obtain ⟨b, g3, g4⟩ := hasN_iff.mp q.2
                    exact hasN_no.mp hno b (by omega) g4)]; omega
                exact ih (i + 1) j _ mb (by omega) (by omega) (fun a b ha hb e => by
                  rcases b3 a b ha hb e with g | ⟨g1, g2⟩
                  · exact Or.inl ⟨by omega, g.2⟩
                  · rcases Nat.lt_or_ge i a with r | r
                    · exact Or.inr ⟨by omega, g2⟩
                    · rw [show a = i by omega] at e
                      exact absurd e.symm (hasN_no.mp hno b hb)) b4 (by rw [e1, e2]; exact ho) (by
                  rcases b6 with ⟨g1, g2⟩ | ⟨a0, b0, g1, g2⟩
                  · exact Or.inl ⟨fun a ha => by
                      rcases Nat.lt_or_ge a i with r | r
                      · exact g1 a r
                      · rw [show a = i by omega]; exact hno, g2⟩
                  · exact Or.inr ⟨a0, b0, by omega, g2⟩) (by omega)
              · omega
          · have hu : ∀ b, b < n2 → kf1 i = kf2 b → b = j := fun b hb e => by
              rcases Nat.lt_trichotomy b j with r | r | r
              · have := o23 b j r (by omega); omega
              · exact r
              · have := o23 j b r hb; omega
            have j2 : ∀ (hc : AH) (mb : Nat), fr o (o + 1) h hc → hc o = some (oO 4 [.int (nI (sm (shF kf1 wf1 kf2 n2) i)), .int (nI (sm (sbF kf1 kf2 bo bp) (i + 1))), .int (nI mb)]) → (((∀ a, a < i + 1 → hasN kf2 n2 (kf1 a) = false) ∧ mb = 0) ∨ ∃ a0 b0, a0 < i + 1 ∧ b0 < n2 ∧ kf1 a0 = kf2 b0 ∧ (∀ a, a < a0 → hasN kf2 n2 (kf1 a) = false) ∧ mb = wf1 a0 + min (am1 - sm wf1 (a0 + 1)) (am2 - sm wf2 (b0 + 1))) → V X 0 0 z hc 121 [some (.ref o), some (.ref q1), some (.int (nI bo)), some (.ref q2), some (.int (nI bp)), some (.int (nI i)), some (.int (nI j)), some (.int (nI (kf1 i))), some (.int (nI (kf2 j)))] [] := by
              intro hc mb b4 ho b6
              have hc1 := hN1.kept b4 (by omega)
              have hc2 := hN2.kept b4 (by omega)
              obtain ⟨h10, h11, h12⟩ := id hc1
              obtain ⟨h20, h21, h22⟩ := id hc2
              refine V_aload_n (pc' := 122) hX dX4_compare_121 rfl rfl ?_
              refine V_dup (pc' := 123) hX dX4_compare_122 rfl rfl ?_
              refine V_get (pc' := 126) hX dX4_compare_123 ho rfl inX4 0 (by decide) wF_X4_7 rfl rfl ?_
              refine V_aload_n (pc' := 127) hX dX4_compare_126 rfl rfl ?_
              refine V_getN (pc' := 130) hX dX4_compare_127 h10 rfl inX3 1 (by decide) wFn_X4_28 rfl rfl ?_
              refine V_iload (pc' := 132) hX dX4_compare_130 rfl rfl ?_
              refine V_ialdN (pc' := 133) hX dX4_compare_132 h12 (by omega) (by omega) rfl rfl ?_
              refine V_iaddN (pc' := 134) hX dX4_compare_133 rfl ?_
              refine V_put (pc' := 137) (fs' := [_, _, _]) (ty0 := tyX4) hX dX4_compare_134 ho rfl inX4 tyX4_ok nmX4 0 (by decide) wF_X4_7 rfl (tyX4_ok 0 (by decide)) rfl rfl (Nat.le_of_ble_eq_true rfl) rfl rfl ?_
              refine V_iload (pc' := 139) hX dX4_compare_137 rfl rfl ?_
              refine V_iload (pc' := 141) hX dX4_compare_139 rfl rfl ?_
              refine V_icmp_gtN (pt := 147) (pc' := 144) hX dX4_compare_141 (by have := o12 i (by omega); omega) (by have := o22 j (by omega); omega) rfl rfl (fun c141 => ?_) (fun c141 => ?_)
              · omega
              · refine V_iincN (pc' := 147) (j := 1) (lv' := [_, _, _, _, _, _, _, _, _]) hX dX4_compare_144 rfl rfl rfl rfl ?_
                refine V_iload (pc' := 149) hX dX4_compare_147 rfl rfl ?_
                refine V_iload (pc' := 151) hX dX4_compare_149 rfl rfl ?_
                refine V_icmp_gtN (pt := 157) (pc' := 154) hX dX4_compare_151 (by have := o22 j (by omega); omega) (by have := o12 i (by omega); omega) rfl rfl (fun c151 => ?_) (fun c151 => ?_)
                · omega
                · refine V_iincN (pc' := 157) (j := 1) (lv' := [_, _, _, _, _, _, _, _, _]) hX dX4_compare_154 rfl rfl rfl rfl ?_
                  have e1 : shF kf1 wf1 kf2 n2 i = wf1 i := if_pos (hasN_iff.mpr ⟨j, by omega, c61.symm⟩)
                  have e2 : sm (shF kf1 wf1 kf2 n2) (i + 1) = sm (shF kf1 wf1 kf2 n2) i + wf1 i := by rw [sm_s, e1]
                  refine V_goto (pc' := 21) hX dX4_compare_157 rfl ?_
                  refine V.loc2 (lv' := [some _, some _, some _, some _, some _, some _, some _, none, none]) ⟨rfl, rfl, rfl, rfl, rfl, rfl, rfl, trivial⟩ ?_
                  exact ih (i + 1) (j + 1) _ mb (by omega) (by omega) (fun a b ha hb e => by
                    rcases b3 a b ha hb e with g | ⟨g1, g2⟩
                    · exact Or.inl ⟨by omega, by omega⟩
                    · rcases Nat.lt_or_ge i a with r | r
                      · have := o13 i a r ha
                        exact Or.inr ⟨by omega, by
                          rcases Nat.lt_or_ge j b with r2 | r2
                          · omega
                          · rw [show b = j by omega] at e; omega⟩
                      · rw [show a = i by omega] at e
                        have := hu b hb e
                        exact Or.inl ⟨by omega, by omega⟩) (b4.tr (fr.up fr.rf (by omega) (by omega))) (by rw [e2]; exact hup_s) b6 (by omega)
            have j1 : ∀ (hc : AH) (mb : Nat), fr o (o + 1) h hc → hc o = some (oO 4 [.int (nI (sm (shF kf1 wf1 kf2 n2) i)), .int (nI (sm (sbF kf1 kf2 bo bp) i)), .int (nI mb)]) → (((∀ a, a < i + 1 → hasN kf2 n2 (kf1 a) = false) ∧ mb = 0) ∨ ∃ a0 b0, a0 < i + 1 ∧ b0 < n2 ∧ kf1 a0 = kf2 b0 ∧ (∀ a, a < a0 → hasN kf2 n2 (kf1 a) = false) ∧ mb = wf1 a0 + min (am1 - sm wf1 (a0 + 1)) (am2 - sm wf2 (b0 + 1))) → V X 0 0 z hc 98 [some (.ref o), some (.ref q1), some (.int (nI bo)), some (.ref q2), some (.int (nI bp)), some (.int (nI i)), some (.int (nI j)), some (.int (nI (kf1 i))), some (.int (nI (kf2 j)))] [] := by
              intro hc mb b4 ho b6
              have hc1 := hN1.kept b4 (by omega)
              have hc2 := hN2.kept b4 (by omega)
              obtain ⟨h10, h11, h12⟩ := id hc1
              obtain ⟨h20, h21, h22⟩ := id hc2
              refine V_iload (pc' := 100) hX dX4_compare_98 rfl rfl ?_
              refine V_iload_n (pc' := 101) hX dX4_compare_100 rfl rfl ?_
              refine V_icmp_geN (pt := 121) (pc' := 104) hX dX4_compare_101 (by omega) (by omega) rfl rfl (fun c101 => ?_) (fun c101 => ?_)
              · have e : sm (sbF kf1 kf2 bo bp) (i + 1) = sm (sbF kf1 kf2 bo bp) i := by
                  rw [sm_s]; unfold sbF; rw [if_neg (by omega)]; omega
                rw [← e] at ho
                exact j2 _ _ b4 ho b6
              · refine V_iload (pc' := 106) hX dX4_compare_104 rfl rfl ?_
                refine V_iload (pc' := 108) hX dX4_compare_106 rfl rfl ?_
                refine V_icmp_geN (pt := 121) (pc' := 111) hX dX4_compare_108 (by omega) (by omega) rfl rfl (fun c108 => ?_) (fun c108 => ?_)
                · have e : sm (sbF kf1 kf2 bo bp) (i + 1) = sm (sbF kf1 kf2 bo bp) i := by
                    rw [sm_s]; unfold sbF; rw [if_neg (fun q => by
                      obtain ⟨b, g1, g2⟩ := hasN_iff.mp q.2
                      have := hu b (by omega) g2.symm
                      omega)]; omega
                  rw [← e] at ho
                  exact j2 _ _ b4 ho b6
                · refine V_aload_n (pc' := 112) hX dX4_compare_111 rfl rfl ?_
                  refine V_dup (pc' := 113) hX dX4_compare_112 rfl rfl ?_
                  refine V_get (pc' := 116) hX dX4_compare_113 ho rfl inX4 1 (by decide) wF_X4_13 rfl rfl ?_
                  refine V_iconst (pc' := 117) (v := nI 1) hX dX4_compare_116 (by decide) rfl ?_
                  refine V_iaddN (pc' := 118) hX dX4_compare_117 rfl ?_
                  refine V_put (pc' := 121) (fs' := [_, _, _]) (ty0 := tyX4) hX dX4_compare_118 ho rfl inX4 tyX4_ok nmX4 1 (by decide) wF_X4_13 rfl (tyX4_ok 1 (by decide)) rfl rfl (Nat.le_of_ble_eq_true rfl) rfl rfl ?_
                  have e : sm (sbF kf1 kf2 bo bp) (i + 1) = sm (sbF kf1 kf2 bo bp) i + 1 := by
                    rw [sm_s]; unfold sbF; rw [if_pos ⟨by omega, hasN_iff.mpr ⟨j, by omega, c61.symm⟩⟩]
                  exact j2 _ _ (b4.tr (fr.up fr.rf (by omega) (by omega))) (by rw [e]; exact hup_s) b6
            refine V_aload_n (pc' := 65) hX dX4_compare_64 rfl rfl ?_
            refine V_get (pc' := 68) hX dX4_compare_65 ho rfl inX4 0 (by decide) wF_X4_7 rfl rfl ?_
            refine V_if_neN (pt := 98) (pc' := 71) hX dX4_compare_68 (by omega) rfl rfl (fun c68 => ?_) (fun c68 => ?_)
            · refine j1 _ _ b4 ho ?_
              rcases b6 with ⟨g1, g2⟩ | ⟨a0, b0, g1, g2⟩
              · exact absurd (sm_tail (f := shF kf1 wf1 kf2 n2) (i := 0) (n := i) (by omega) (fun a _ ha => by unfold shF; rw [if_neg (by rw [g1 a ha]; decide)])) c68
              · exact Or.inr ⟨a0, b0, by omega, g2⟩
            · refine V_aload_n (pc' := 72) hX dX4_compare_71 rfl rfl ?_
              refine V_aload_n (pc' := 73) hX dX4_compare_72 rfl rfl ?_
              refine V_getN (pc' := 76) hX dX4_compare_73 h10 rfl inX3 1 (by decide) wFn_X4_28 rfl rfl ?_
              refine V_iload (pc' := 78) hX dX4_compare_76 rfl rfl ?_
              refine V_ialdN (pc' := 79) hX dX4_compare_78 h12 (by omega) (by omega) rfl rfl ?_
              refine V_aload_n (pc' := 80) hX dX4_compare_79 rfl rfl ?_
              refine V_iload (pc' := 82) hX dX4_compare_80 rfl rfl ?_
              refine V_callV (nA := 1) (pc' := 85) (k' := 0) (n' := 0) hX dX4_compare_82 (c_NS_amountBehind i (by omega) hc1 hO1) h10 rfl wM_X4_31 wI_X3_amountBehind wL_X3_amountBehind wN_X3 wC_X3_amountBehind rfl hy_X3_amountBehind rfl (Nat.le_of_ble_eq_true rfl) (by decide) (by omega) rfl rfl (by omega) rfl (by omega) rfl ?_
              rintro _ z hc ⟨rfl, rfl, rfl⟩
              refine V.stk (st' := [_, _, _]) rfl ?_
              refine V_aload_n (pc' := 86) hX dX4_compare_85 rfl rfl ?_
              refine V_iload (pc' := 88) hX dX4_compare_86 rfl rfl ?_
              refine V_callV (nA := 1) (pc' := 91) (k' := 0) (n' := 0) hX dX4_compare_88 (c_NS_amountBehind j (by omega) hc2 hO2) h20 rfl wM_X4_31 wI_X3_amountBehind wL_X3_amountBehind wN_X3 wC_X3_amountBehind rfl hy_X3_amountBehind rfl (Nat.le_of_ble_eq_true rfl) (by decide) (by omega) rfl rfl (by omega) rfl (by omega) rfl ?_
              rintro _ z hc ⟨rfl, rfl, rfl⟩
              refine V.stk (st' := [_, _, _, _]) rfl ?_
              refine V_minN (pc' := 94) hX dX4_compare_91 wM_X4_35 (by omega) (by omega) (by omega) (by omega) (by omega) rfl (Nat.le_of_ble_eq_true rfl) rfl ?_
              refine V_iaddN (pc' := 95) hX dX4_compare_94 rfl ?_
              refine V_put (pc' := 98) (fs' := [_, _, _]) (ty0 := tyX4) hX dX4_compare_95 ho rfl inX4 tyX4_ok nmX4 2 (by decide) wF_X4_16 rfl (tyX4_ok 2 (by decide)) rfl rfl (Nat.le_of_ble_eq_true rfl) rfl rfl ?_
              refine j1 _ (wf1 i + min (am1 - sm wf1 (i + 1)) (am2 - sm wf2 (j + 1))) (b4.tr (fr.up fr.rf (by omega) (by omega))) hup_s (Or.inr ⟨i, j, by omega, by omega, c61, fun a ha => ?_, rfl⟩)
              cases hx : hasN kf2 n2 (kf1 a) with
              | false => rfl
              | true =>
                exfalso
                have e2 : shF kf1 wf1 kf2 n2 a = wf1 a := if_pos hx
                have e3 := sm_at (f := shF kf1 wf1 kf2 n2) ha
                have e4 := hw1 a (by omega)
                omega
  refine V.loc2 (lv' := [some _, some _, some _, some _, some _, some _, some _, none, none]) ⟨rfl, rfl, rfl, rfl, rfl, rfl, rfl, trivial⟩ ?_
  refine lp (n1 + n2 + 1) 0 0 _ 0 (by omega) (by omega) (fun a b _ _ _ => Or.inr ⟨by omega, by omega⟩) (fr.up (fr.up (fr.up fr.rf (by omega) (by omega)) (by omega) (by omega)) (by omega) (by omega)) hup_s (Or.inl ⟨fun a ha => by omega, rfl⟩) (by omega)
