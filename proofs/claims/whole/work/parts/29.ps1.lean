set_option maxRecDepth 100000 in
set_option maxHeartbeats 4000000 in
theorem c_PS_isNumber {G : Gd} {z : Nat} {h : AH} (v : Int32) : Ct G yX7_isNumber cX7_isNumber 1 (some .boolean) 0 0 0 [.int v] z h (fun r z' h' => r = some (.int (bI (isNumB v))) ∧ z' = z ∧ h' = h) := by
  refine Ct.of (lv := [_]) (by decide) (Nat.le_of_ble_eq_true rfl) rfl ?_
  rintro X rfl hX hR hnm
  refine V_iload_n (pc' := 1) hX dX7_isNumber_0 rfl rfl ?_
  refine V_if_lt (pt := 15) (pc' := 4) hX dX7_isNumber_1 rfl rfl (fun c1 => ?_) (fun c1 => ?_)
  · have hc : v.toInt < 0 := i32_lt.mp c1
    refine V_iconst (pc' := 16) (v := nI 0) hX dX7_isNumber_15 (by decide) rfl ?_
    refine V_zret hX hR dX7_isNumber_16 (by rfl) ?_
    exact ⟨by unfold isNumB; rw [decide_eq_false (by omega)]; rfl, rfl, rfl⟩
  · have hc : ¬ v.toInt < 0 := fun e => c1 (i32_lt.mpr e)
    refine V_iload_n (pc' := 5) hX dX7_isNumber_4 rfl rfl ?_
    refine V_ldcwN (pc' := 8) (v' := nI 1000000) hX dX7_isNumber_5 wK_X7_276 (by decide) rfl ?_
    refine V_icmp_ge (pt := 15) (pc' := 11) hX dX7_isNumber_8 rfl rfl (fun c8 => ?_) (fun c8 => ?_)
    · have hd : (1000000 : Int) ≤ v.toInt := i32_le.mp c8
      refine V_iconst (pc' := 16) (v := nI 0) hX dX7_isNumber_15 (by decide) rfl ?_
      refine V_zret hX hR dX7_isNumber_16 (by rfl) ?_
      exact ⟨by unfold isNumB; rw [decide_eq_false (by omega)]; rfl, rfl, rfl⟩
    · have hd : ¬ (1000000 : Int) ≤ v.toInt := fun e => c8 (i32_le.mpr e)
      refine V_iconst (pc' := 12) (v := nI 1) hX dX7_isNumber_11 (by decide) rfl ?_
      refine V_goto (pc' := 16) hX dX7_isNumber_12 rfl ?_
      refine V_zret hX hR dX7_isNumber_16 (by rfl) ?_
      exact ⟨by unfold isNumB; rw [decide_eq_true (by omega)]; rfl, rfl, rfl⟩
set_option maxRecDepth 100000 in
set_option maxHeartbeats 4000000 in
theorem c_PS_setOf {G : Gd} {h : AH} {z x : Nat} {mk : Nat} {sa : Nat → Option Nat} {L : Nat → List Nat} {Fr : Nat → Nat → Nat} {Wr : Nat → Nat → Nat} {fn : Nat → Nat} {fv : Nat → Nat} {fs : Nat} {tn : Nat → Nat} {tv : Nat → Nat} {ts : Nat} {kd : Nat} {p : Nat} {q : Nat} {bf : Nat → Nat} {len : Nat} {ta : Nat → Nat} {sp : Nat} {f1 : Nat → Nat} {f2 : Nat → Nat} {f3 : Nat → Nat} {ks : Nat} {ff : Nat → Nat} {fg : Nat} {co : Nat} (r : Int32) (hP : psAt G h z x mk sa L Fr Wr fn fv fs tn tv ts kd p q bf len ta sp f1 f2 f3 ks ff fg co) : Ct G yX7_setOf cX7_setOf 2 (some (.object "PairSieve$NumberSet")) 0 0 0 [.ref x, .int r] z h (fun r' z' h' => r' = some (va_rf (sOf sa r)) ∧ z' = z ∧ h' = h) := by
  refine Ct.of (lv := [_, _]) (by decide) (Nat.le_of_ble_eq_true rfl) rfl ?_
  rintro X rfl hX hR hnm
  obtain ⟨⟨hx, hsa⟩, ⟨hF, hFO⟩, ⟨hT, hTO⟩, ⟨hm, hM⟩, ⟨⟨nf, hp⟩, hPO⟩, ⟨s0, s1, s2, ho⟩, ⟨bg, hbg⟩, hta, ⟨⟨ab, bw, hk⟩, hks⟩, ⟨hn, hnO⟩, hS, hmk, hnone, hxz, hco⟩ := id hP
  refine V_iload_n (pc' := 1) hX dX7_setOf_0 rfl rfl ?_
  refine V_if_lt (pt := 12) (pc' := 4) hX dX7_setOf_1 rfl rfl (fun c1 => ?_) (fun c1 => ?_)
  · have hc : r.toInt < 0 := i32_lt.mp c1
    refine V_null (pc' := 13) hX dX7_setOf_12 rfl ?_
    refine V_goto (pc' := 22) hX dX7_setOf_13 rfl ?_
    refine V_aret hX hR ⟨_, rfl⟩ dX7_setOf_22 (by first | exact Or.inl rfl | (cases sa k with | none => exact Or.inl rfl | some q => exact Or.inr ⟨q, rfl⟩)) ?_
    exact ⟨by unfold sOf; rw [if_pos hc]; rfl, rfl, rfl⟩
  · obtain ⟨k, hk, rfl⟩ := nI_of c1
    refine V_iload_n (pc' := 5) hX dX7_setOf_4 rfl rfl ?_
    refine V_aload_n (pc' := 6) hX dX7_setOf_5 rfl rfl ?_
    refine V_get (pc' := 9) hX dX7_setOf_6 hx rfl inX7 1 (by decide) wF_X7_69 rfl rfl ?_
    refine V_icmp_ltN (pt := 16) (pc' := 12) hX dX7_setOf_9 hk (by omega) rfl rfl (fun c9 => ?_) (fun c9 => ?_)
    · refine V_aload_n (pc' := 17) hX dX7_setOf_16 rfl rfl ?_
      refine V_get (pc' := 20) hX dX7_setOf_17 hx rfl inX7 0 (by decide) wF_X7_11 rfl rfl ?_
      refine V_iload_n (pc' := 21) hX dX7_setOf_20 rfl rfl ?_
      refine V_aaldN (pc' := 22) (v := va_rf (sa k)) hX dX7_setOf_21 hsa (by omega) (by omega) rfl rfl ?_
      refine V_aret hX hR ⟨_, rfl⟩ dX7_setOf_22 (by first | exact Or.inl rfl | (cases sa k with | none => exact Or.inl rfl | some q => exact Or.inr ⟨q, rfl⟩)) ?_
      exact ⟨by rw [sOf_nI hk], rfl, rfl⟩
    · refine V_null (pc' := 13) hX dX7_setOf_12 rfl ?_
      refine V_goto (pc' := 22) hX dX7_setOf_13 rfl ?_
      refine V_aret hX hR ⟨_, rfl⟩ dX7_setOf_22 (by first | exact Or.inl rfl | (cases sa k with | none => exact Or.inl rfl | some q => exact Or.inr ⟨q, rfl⟩)) ?_
      exact ⟨by rw [sOf_nI hk, hnone k (by omega)]; rfl, rfl, rfl⟩
set_option maxRecDepth 100000 in
set_option maxHeartbeats 4000000 in
theorem c_PS_weightOf {G : Gd} {h : AH} {z x : Nat} {mk : Nat} {sa : Nat → Option Nat} {L : Nat → List Nat} {Fr : Nat → Nat → Nat} {Wr : Nat → Nat → Nat} {fn : Nat → Nat} {fv : Nat → Nat} {fs : Nat} {tn : Nat → Nat} {tv : Nat → Nat} {ts : Nat} {kd : Nat} {p : Nat} {q : Nat} {bf : Nat → Nat} {len : Nat} {ta : Nat → Nat} {sp : Nat} {f1 : Nat → Nat} {f2 : Nat → Nat} {f3 : Nat → Nat} {ks : Nat} {ff : Nat → Nat} {fg : Nat} {co : Nat} (k : Nat) (hk9 : k < 1000000) (hP : psAt G h z x mk sa L Fr Wr fn fv fs tn tv ts kd p q bf len ta sp f1 f2 f3 ks ff fg co) : Ct G yX7_weightOf cX7_weightOf 2 (some .int) 2 0 0 [.ref x, .int (nI k)] z h (fun r' z' h' => r' = some (.int (nI (wtF kd tn tv ts k))) ∧ z' = z ∧ h' = h) := by
  refine Ct.of (lv := [_, _]) (by decide) (Nat.le_of_ble_eq_true rfl) rfl ?_
  rintro X rfl hX hR hnm
  obtain ⟨⟨hx, hsa⟩, ⟨hF, hFO⟩, ⟨hT, hTO⟩, ⟨hm, hM⟩, ⟨⟨nf, hp⟩, hPO⟩, ⟨s0, s1, s2, ho⟩, ⟨bg, hbg⟩, hta, ⟨⟨ab, bw, hk⟩, hks⟩, ⟨hn, hnO⟩, hS, hmk, hnone, hxz, hco⟩ := id hP
  refine V_aload_n (pc' := 1) hX dX7_weightOf_0 rfl rfl ?_
  refine V_get (pc' := 4) hX dX7_weightOf_1 hx rfl inX7 4 (by decide) wF_X7_30 rfl rfl ?_
  refine V_getN (pc' := 7) hX dX7_weightOf_4 hm rfl inX1 0 (by decide) wFn_X7_267 rfl rfl ?_
  refine V_iconst (pc' := 8) (v := nI 5) hX dX7_weightOf_7 (by decide) rfl ?_
  refine V_icmp_neN (pt := 23) (pc' := 11) hX dX7_weightOf_8 (by have := hM.1; omega) (by omega) rfl rfl (fun c8 => ?_) (fun c8 => ?_)
  · refine V_iconst (pc' := 24) (v := nI 1) hX dX7_weightOf_23 (by decide) rfl ?_
    refine V_iret hX hR dX7_weightOf_24 ?_
    exact ⟨by unfold wtF; rw [if_neg c8], rfl, rfl⟩
  · refine V_aload_n (pc' := 12) hX dX7_weightOf_11 rfl rfl ?_
    refine V_get (pc' := 15) hX dX7_weightOf_12 hx rfl inX7 3 (by decide) wF_X7_24 rfl rfl ?_
    refine V_iload_n (pc' := 16) hX dX7_weightOf_15 rfl rfl ?_
    refine V_iconst (pc' := 17) (v := nI 1) hX dX7_weightOf_16 (by decide) rfl ?_
    refine V_callV (nA := 2) (pc' := 20) (k' := 0) (n' := 0) hX dX7_weightOf_17 (c_Table_valueOf (nI k) (nI 1) hT hTO) hT.1 rfl wM_X7_146 wI_X5_valueOf wL_X5_valueOf wN_X5 wC_X5_valueOf rfl hy_X5_valueOf rfl (Nat.le_of_ble_eq_true rfl) (by decide) (by omega) rfl rfl (by omega) rfl (by omega) rfl ?_
    rintro _ z h ⟨y, rfl, rfl, rfl, hy⟩
    obtain ⟨w, ew, gw⟩ : ∃ w, y = nI w ∧ w = (tget tn tv ts k).getD 1 := by
      rcases hy with ⟨j, j1, j2, j3⟩ | ⟨j1, j2⟩
      · rw [nI_toInt (by omega)] at j2
        refine ⟨tv j, j3, ?_⟩
        rw [show k = tn j by omega, tget_at hTO j1]; rfl
      · refine ⟨1, j2, ?_⟩
        rw [tget_no.mpr (fun j hj e => j1 j hj (by rw [nI_toInt (by omega)]; omega))]; rfl
    subst ew
    refine V.stk (st' := [_]) rfl ?_
    refine V_goto (pc' := 24) hX dX7_weightOf_20 rfl ?_
    refine V_iret hX hR dX7_weightOf_24 ?_
    exact ⟨by unfold wtF; rw [if_pos c8, gw], rfl, rfl⟩
set_option maxRecDepth 100000 in
set_option maxHeartbeats 4000000 in
theorem c_PS_countRecords {G : Gd} {h : AH} {z x : Nat} {mk : Nat} {sa : Nat → Option Nat} {L : Nat → List Nat} {Fr : Nat → Nat → Nat} {Wr : Nat → Nat → Nat} {fn : Nat → Nat} {fv : Nat → Nat} {fs : Nat} {tn : Nat → Nat} {tv : Nat → Nat} {ts : Nat} {kd : Nat} {p : Nat} {q : Nat} {bf : Nat → Nat} {len : Nat} {ta : Nat → Nat} {sp : Nat} {f1 : Nat → Nat} {f2 : Nat → Nat} {f3 : Nat → Nat} {ks : Nat} {ff : Nat → Nat} {fg : Nat} {co : Nat} (hP : psAt G h z x mk sa L Fr Wr fn fv fs tn tv ts kd p q bf len ta sp f1 f2 f3 ks ff fg co) : Ct G yX7_countRecords cX7_countRecords 3 (some .int) 0 0 0 [.ref x] z h (fun r' z' h' => r' = some (.int (nI (cntR sa mk))) ∧ z' = z ∧ h' = h) := by
  refine Ct.of (lv := [_, _, _]) (by decide) (Nat.le_of_ble_eq_true rfl) rfl ?_
  rintro X rfl hX hR hnm
  obtain ⟨⟨hx, hsa⟩, ⟨hF, hFO⟩, ⟨hT, hTO⟩, ⟨hm, hM⟩, ⟨⟨nf, hp⟩, hPO⟩, ⟨s0, s1, s2, ho⟩, ⟨bg, hbg⟩, hta, ⟨⟨ab, bw, hk⟩, hks⟩, ⟨hn, hnO⟩, hS, hmk, hnone, hxz, hco⟩ := id hP
  refine V_iconst (pc' := 1) (v := nI 0) hX dX7_countRecords_0 (by decide) rfl ?_
  refine V_istore_n (pc' := 2) (lv' := [_, _, _]) hX dX7_countRecords_1 (Nat.le_of_ble_eq_true rfl) rfl rfl ?_
  refine V_iconst (pc' := 3) (v := nI 0) hX dX7_countRecords_2 (by decide) rfl ?_
  refine V_istore_n (pc' := 4) (lv' := [_, _, _]) hX dX7_countRecords_3 (Nat.le_of_ble_eq_true rfl) rfl rfl ?_
  have lp : ∀ (μ i : Nat), i ≤ mk → mk - i < μ → V X 0 0 z h 4 [some (.ref x), some (.int (nI (cntR sa i))), some (.int (nI i))] [] := by
    intro μ
    induction μ with
    | zero => intros; omega
    | succ μ ih =>
      intro i b1 b2
      refine V_iload_n (pc' := 5) hX dX7_countRecords_4 rfl rfl ?_
      refine V_aload_n (pc' := 6) hX dX7_countRecords_5 rfl rfl ?_
      refine V_get (pc' := 9) hX dX7_countRecords_6 hx rfl inX7 1 (by decide) wF_X7_69 rfl rfl ?_
      refine V_icmp_geN (pt := 30) (pc' := 12) hX dX7_countRecords_9 (by omega) (by omega) rfl rfl (fun c9 => ?_) (fun c9 => ?_)
      · refine V_iload_n (pc' := 31) hX dX7_countRecords_30 rfl rfl ?_
        refine V_iret hX hR dX7_countRecords_31 ?_
        rw [show mk = i by omega]; exact ⟨rfl, rfl, rfl⟩
      · refine V_aload_n (pc' := 13) hX dX7_countRecords_12 rfl rfl ?_
        refine V_get (pc' := 16) hX dX7_countRecords_13 hx rfl inX7 0 (by decide) wF_X7_11 rfl rfl ?_
        refine V_iload_n (pc' := 17) hX dX7_countRecords_16 rfl rfl ?_
        rcases hs : sa i with _ | q0
        · refine V_aaldN (pc' := 18) (v := .null) hX dX7_countRecords_17 hsa (by omega) (by omega) (by rw [hs]; rfl) rfl ?_
          refine V_ifnullN (pc' := 24) hX dX7_countRecords_18 rfl ?_
          refine V_iincN (pc' := 27) (j := 1) (lv' := [_, _, _]) hX dX7_countRecords_24 rfl rfl rfl rfl ?_
          refine V_goto (pc' := 4) hX dX7_countRecords_27 rfl ?_
          first
            | (have e : cntR sa i = cntR sa (i + 1) := by
                 unfold cntR; rw [sm_s, hs]; rfl
               rw [e]; exact ih (i + 1) (by omega) (by omega))
            | (have e : cntR sa i + 1 = cntR sa (i + 1) := by
                 unfold cntR; rw [sm_s, hs]; rfl
               rw [e]; exact ih (i + 1) (by omega) (by omega))
        · refine V_aaldN (pc' := 18) (v := .ref q0) hX dX7_countRecords_17 hsa (by omega) (by omega) (by rw [hs]; rfl) rfl ?_
          refine V_ifnull (pc' := 21) hX dX7_countRecords_18 rfl ?_
          refine V_iincN (pc' := 24) (j := 1) (lv' := [_, _, _]) hX dX7_countRecords_21 rfl rfl rfl rfl ?_
          refine V_iincN (pc' := 27) (j := 1) (lv' := [_, _, _]) hX dX7_countRecords_24 rfl rfl rfl rfl ?_
          refine V_goto (pc' := 4) hX dX7_countRecords_27 rfl ?_
          first
            | (have e : cntR sa i = cntR sa (i + 1) := by
                 unfold cntR; rw [sm_s, hs]; rfl
               rw [e]; exact ih (i + 1) (by omega) (by omega))
            | (have e : cntR sa i + 1 = cntR sa (i + 1) := by
                 unfold cntR; rw [sm_s, hs]; rfl
               rw [e]; exact ih (i + 1) (by omega) (by omega))
  exact lp (mk + 1) 0 (by omega) (by omega)
set_option maxRecDepth 100000 in
set_option maxHeartbeats 4000000 in
theorem c_PS_countNumbers {G : Gd} {h : AH} {z x : Nat} {mk : Nat} {sa : Nat → Option Nat} {L : Nat → List Nat} {Fr : Nat → Nat → Nat} {Wr : Nat → Nat → Nat} {fn : Nat → Nat} {fv : Nat → Nat} {fs : Nat} {tn : Nat → Nat} {tv : Nat → Nat} {ts : Nat} {kd : Nat} {p : Nat} {q : Nat} {bf : Nat → Nat} {len : Nat} {ta : Nat → Nat} {sp : Nat} {f1 : Nat → Nat} {f2 : Nat → Nat} {f3 : Nat → Nat} {ks : Nat} {ff : Nat → Nat} {fg : Nat} {co : Nat} (hP : psAt G h z x mk sa L Fr Wr fn fv fs tn tv ts kd p q bf len ta sp f1 f2 f3 ks ff fg co) : Ct G yX7_countNumbers cX7_countNumbers 3 (some .int) 0 0 0 [.ref x] z h (fun r' z' h' => r' = some (.int (nI (cntN sa L mk))) ∧ z' = z ∧ h' = h) := by
  refine Ct.of (lv := [_, _, _]) (by decide) (Nat.le_of_ble_eq_true rfl) rfl ?_
  rintro X rfl hX hR hnm
  obtain ⟨⟨hx, hsa⟩, ⟨hF, hFO⟩, ⟨hT, hTO⟩, ⟨hm, hM⟩, ⟨⟨nf, hp⟩, hPO⟩, ⟨s0, s1, s2, ho⟩, ⟨bg, hbg⟩, hta, ⟨⟨ab, bw, hk⟩, hks⟩, ⟨hn, hnO⟩, hS, hmk, hnone, hxz, hco⟩ := id hP
  refine V_iconst (pc' := 1) (v := nI 0) hX dX7_countNumbers_0 (by decide) rfl ?_
  refine V_istore_n (pc' := 2) (lv' := [_, _, _]) hX dX7_countNumbers_1 (Nat.le_of_ble_eq_true rfl) rfl rfl ?_
  refine V_iconst (pc' := 3) (v := nI 0) hX dX7_countNumbers_2 (by decide) rfl ?_
  refine V_istore_n (pc' := 4) (lv' := [_, _, _]) hX dX7_countNumbers_3 (Nat.le_of_ble_eq_true rfl) rfl rfl ?_
  have lp : ∀ (μ i : Nat), i ≤ mk → mk - i < μ → V X 0 0 z h 4 [some (.ref x), some (.int (nI (cntN sa L i))), some (.int (nI i))] [] := by
    intro μ
    induction μ with
    | zero => intros; omega
    | succ μ ih =>
      intro i b1 b2
      refine V_iload_n (pc' := 5) hX dX7_countNumbers_4 rfl rfl ?_
      refine V_aload_n (pc' := 6) hX dX7_countNumbers_5 rfl rfl ?_
      refine V_get (pc' := 9) hX dX7_countNumbers_6 hx rfl inX7 1 (by decide) wF_X7_69 rfl rfl ?_
      refine V_icmp_geN (pt := 39) (pc' := 12) hX dX7_countNumbers_9 (by omega) (by omega) rfl rfl (fun c9 => ?_) (fun c9 => ?_)
      · refine V_iload_n (pc' := 40) hX dX7_countNumbers_39 rfl rfl ?_
        refine V_iret hX hR dX7_countNumbers_40 ?_
        rw [show mk = i by omega]; exact ⟨rfl, rfl, rfl⟩
      · refine V_aload_n (pc' := 13) hX dX7_countNumbers_12 rfl rfl ?_
        refine V_get (pc' := 16) hX dX7_countNumbers_13 hx rfl inX7 0 (by decide) wF_X7_11 rfl rfl ?_
        refine V_iload_n (pc' := 17) hX dX7_countNumbers_16 rfl rfl ?_
        rcases hs : sa i with _ | q0
        · refine V_aaldN (pc' := 18) (v := .null) hX dX7_countNumbers_17 hsa (by omega) (by omega) (by rw [hs]; rfl) rfl ?_
          refine V_ifnullN (pc' := 33) hX dX7_countNumbers_18 rfl ?_
          refine V_iincN (pc' := 36) (j := 1) (lv' := [_, _, _]) hX dX7_countNumbers_33 rfl rfl rfl rfl ?_
          refine V_goto (pc' := 4) hX dX7_countNumbers_36 rfl ?_
          first
            | (have e : cntN sa L i = cntN sa L (i + 1) := by
                 unfold cntN; rw [sm_s, hs]; rfl
               rw [e]; exact ih (i + 1) (by omega) (by omega))
            | (have e : cntN sa L i + (L i).length = cntN sa L (i + 1) := by
                 unfold cntN; rw [sm_s, hs]; rfl
               rw [e]; exact ih (i + 1) (by omega) (by omega))
        · refine V_aaldN (pc' := 18) (v := .ref q0) hX dX7_countNumbers_17 hsa (by omega) (by omega) (by rw [hs]; rfl) rfl ?_
          obtain ⟨-, kf, wf, am, hns, -⟩ := (hS.1 i q0 hs).1
          refine V_ifnull (pc' := 21) hX dX7_countNumbers_18 rfl ?_
          refine V_iload_n (pc' := 22) hX dX7_countNumbers_21 rfl rfl ?_
          refine V_aload_n (pc' := 23) hX dX7_countNumbers_22 rfl rfl ?_
          refine V_get (pc' := 26) hX dX7_countNumbers_23 hx rfl inX7 0 (by decide) wF_X7_11 rfl rfl ?_
          refine V_iload_n (pc' := 27) hX dX7_countNumbers_26 rfl rfl ?_
          refine V_aaldN (pc' := 28) (v := .ref q0) hX dX7_countNumbers_27 hsa (by omega) (by omega) (by rw [hs]; rfl) rfl ?_
          refine V_getN (pc' := 31) hX dX7_countNumbers_28 hns.1 rfl inX3 2 (by decide) wFn_X7_132 rfl rfl ?_
          refine V_iaddN (pc' := 32) hX dX7_countNumbers_31 rfl ?_
          refine V_istore_n (pc' := 33) (lv' := [_, _, _]) hX dX7_countNumbers_32 (Nat.le_of_ble_eq_true rfl) rfl rfl ?_
          refine V_iincN (pc' := 36) (j := 1) (lv' := [_, _, _]) hX dX7_countNumbers_33 rfl rfl rfl rfl ?_
          refine V_goto (pc' := 4) hX dX7_countNumbers_36 rfl ?_
          first
            | (have e : cntN sa L i = cntN sa L (i + 1) := by
                 unfold cntN; rw [sm_s, hs]; rfl
               rw [e]; exact ih (i + 1) (by omega) (by omega))
            | (have e : cntN sa L i + (L i).length = cntN sa L (i + 1) := by
                 unfold cntN; rw [sm_s, hs]; rfl
               rw [e]; exact ih (i + 1) (by omega) (by omega))
  exact lp (mk + 1) 0 (by omega) (by omega)
set_option maxRecDepth 100000 in
set_option maxHeartbeats 4000000 in
theorem c_PS_frequency {G : Gd} {h : AH} {z x : Nat} {mk : Nat} {sa : Nat → Option Nat} {L : Nat → List Nat} {Fr : Nat → Nat → Nat} {Wr : Nat → Nat → Nat} {fn : Nat → Nat} {fv : Nat → Nat} {fs : Nat} {tn : Nat → Nat} {tv : Nat → Nat} {ts : Nat} {kd : Nat} {p : Nat} {q : Nat} {bf : Nat → Nat} {len : Nat} {ta : Nat → Nat} {sp : Nat} {f1 : Nat → Nat} {f2 : Nat → Nat} {f3 : Nat → Nat} {ks : Nat} {ff : Nat → Nat} {fg : Nat} {co : Nat} (v : Int32) (hP : psAt G h z x mk sa L Fr Wr fn fv fs tn tv ts kd p q bf len ta sp f1 f2 f3 ks ff fg co) : Ct G yX7_frequency cX7_frequency 2 (some .int) 2 0 0 [.ref x, .int v] z h (fun r' z' h' => ∃ y, r' = some (.int y) ∧ z' = z ∧ h' = h ∧ ((∃ k, k < 1000000 ∧ v = nI k ∧ y = nI (tF fn fv fs k)) ∨ (isNumB v = false ∧ y = 0))) := by
  refine Ct.of (lv := [_, _]) (by decide) (Nat.le_of_ble_eq_true rfl) rfl ?_
  rintro X rfl hX hR hnm
  obtain ⟨⟨hx, hsa⟩, ⟨hF, hFO⟩, ⟨hT, hTO⟩, ⟨hm, hM⟩, ⟨⟨nf, hp⟩, hPO⟩, ⟨s0, s1, s2, ho⟩, ⟨bg, hbg⟩, hta, ⟨⟨ab, bw, hk⟩, hks⟩, ⟨hn, hnO⟩, hS, hmk, hnone, hxz, hco⟩ := id hP
  refine V_aload_n (pc' := 1) hX dX7_frequency_0 rfl rfl ?_
  refine V_get (pc' := 4) hX dX7_frequency_1 hx rfl inX7 2 (by decide) wF_X7_20 rfl rfl ?_
  refine V_iload_n (pc' := 5) hX dX7_frequency_4 rfl rfl ?_
  refine V_iconst (pc' := 6) (v := nI 0) hX dX7_frequency_5 (by decide) rfl ?_
  refine V_callV (nA := 2) (pc' := 9) (k' := 0) (n' := 0) hX dX7_frequency_6 (c_Table_valueOf v (nI 0) hF hFO) hF.1 rfl wM_X7_146 wI_X5_valueOf wL_X5_valueOf wN_X5 wC_X5_valueOf rfl hy_X5_valueOf rfl (Nat.le_of_ble_eq_true rfl) (by decide) (by omega) rfl rfl (by omega) rfl (by omega) rfl ?_
  rintro _ z h ⟨y, rfl, rfl, rfl, hy⟩
  refine V.stk (st' := [_]) rfl ?_
  refine V_iret hX hR dX7_frequency_9 ?_
  refine ⟨y, rfl, rfl, rfl, ?_⟩
  cases hb : isNumB v with
  | true =>
    obtain ⟨k, hk9, rfl⟩ := isNumB_nI hb
    refine Or.inl ⟨k, hk9, rfl, ?_⟩
    rcases hy with ⟨j, j1, j2, j3⟩ | ⟨j1, j2⟩
    · rw [nI_toInt (by omega)] at j2
      unfold tF
      rw [show k = fn j by omega, tget_at hFO j1]; exact j3
    · unfold tF
      rw [tget_no.mpr (fun j hj e => j1 j hj (by rw [nI_toInt (by omega)]; omega))]; exact j2
  | false =>
    refine Or.inr ⟨rfl, ?_⟩
    rcases hy with ⟨j, j1, j2, j3⟩ | ⟨j1, j2⟩
    · exfalso
      have := hFO.2.2.1 j j1
      unfold isNumB at hb
      exact of_decide_eq_false hb ⟨by omega, by omega⟩
    · exact j2
set_option maxRecDepth 100000 in
set_option maxHeartbeats 4000000 in
theorem c_PS_end {G : Gd} {h : AH} {z x : Nat} {mk : Nat} {sa : Nat → Option Nat} {L : Nat → List Nat} {Fr : Nat → Nat → Nat} {Wr : Nat → Nat → Nat} {fn : Nat → Nat} {fv : Nat → Nat} {fs : Nat} {tn : Nat → Nat} {tv : Nat → Nat} {ts : Nat} {kd : Nat} {p : Nat} {q : Nat} {bf : Nat → Nat} {len : Nat} {ta : Nat → Nat} {sp : Nat} {f1 : Nat → Nat} {f2 : Nat → Nat} {f3 : Nat → Nat} {ks : Nat} {ff : Nat → Nat} {fg : Nat} {co : Nat} (n : Int32) (hP : psAt G h z x mk sa L Fr Wr fn fv fs tn tv ts kd p q bf len ta sp f1 f2 f3 ks ff fg co) : Ct G yX7_end cX7_end 2 (some .int) 1 0 0 [.ref x, .int n] z h (fun r' z' h' => z' = z ∧ frO x z sa h h' ∧ ((∃ m, m ≤ len ∧ n = nI m ∧ r' = some (.int (nI m)) ∧ psAt G h' z x mk sa L Fr Wr fn fv fs tn tv ts kd p q bf (m) ta sp f1 f2 f3 ks ff fg co) ∨ (¬ (0 ≤ n.toInt ∧ n.toInt ≤ (len : Int)) ∧ r' = some (.int (-1)) ∧ psAt G h' z x mk sa L Fr Wr fn fv fs tn tv ts kd p q bf len ta sp f1 f2 f3 ks ff fg co))) := by
  refine Ct.of (lv := [_, _]) (by decide) (Nat.le_of_ble_eq_true rfl) rfl ?_
  rintro X rfl hX hR hnm
  obtain ⟨⟨hx, hsa⟩, ⟨hF, hFO⟩, ⟨hT, hTO⟩, ⟨hm, hM⟩, ⟨⟨nf, hp⟩, hPO⟩, ⟨s0, s1, s2, ho⟩, ⟨bg, hbg⟩, hta, ⟨⟨ab, bw, hk⟩, hks⟩, ⟨hn, hnO⟩, hS, hmk, hnone, hxz, hco⟩ := id hP
  refine V_aload_n (pc' := 1) hX dX7_end_0 rfl rfl ?_
  refine V_get (pc' := 4) hX dX7_end_1 hx rfl inX7 5 (by decide) wF_X7_37 rfl rfl ?_
  refine V_iload_n (pc' := 5) hX dX7_end_4 rfl rfl ?_
  refine V_callV (nA := 1) (pc' := 8) (k' := 0) (n' := 0) hX dX7_end_5 (c_Tp_cut n hp hPO) hp.1 rfl wM_X7_115 wI_X6_cut wL_X6_cut wN_X6 wC_X6_cut rfl hy_X6_cut rfl (Nat.le_of_ble_eq_true rfl) (by decide) (by omega) rfl rfl (by omega) rfl (by omega) rfl ?_
  rintro _ z h' ⟨b, rfl, rfl, q1, q2, q3⟩
  refine V.stk (st' := [_]) rfl ?_
  refine V_if_eqB (pt := 15) (pc' := 11) hX dX7_end_8 rfl rfl (fun c8 => ?_) (fun c8 => ?_)
  · refine V_iconst (pc' := 16) (v := (-1)) hX dX7_end_15 (by decide) rfl ?_
    refine V_iret hX hR dX7_end_16 ?_
    have e := q2 c8
    subst e
    exact ⟨rfl, frO.rf, Or.inr ⟨(fun e => by rw [q1.mpr e] at c8; cases c8), rfl, hP⟩⟩
  · refine V_iload_n (pc' := 12) hX dX7_end_11 rfl rfl ?_
    refine V_goto (pc' := 16) hX dX7_end_12 rfl ?_
    refine V_iret hX hR dX7_end_16 ?_
    obtain ⟨m, m1, rfl, m3, m4⟩ := q3 c8
    exact ⟨rfl, frO.of m4 (by omega) (by omega), Or.inl ⟨m, m1, rfl, rfl, hP.uP m3 ⟨by have := hPO.1; omega, fun j hj => hPO.2 j (by omega)⟩ m4⟩⟩
