theorem updZ (f : Nat → Bool) (k : Nat) : upd (fun j => bI (f j)) k (nI 1) = fun j => bI (va_up f k true j) := by
  funext j
  unfold upd va_up
  by_cases h : j = k <;> simp [h] <;> rfl
set_option maxRecDepth 100000 in
set_option maxHeartbeats 4000000 in
theorem c_Md_thrown {G : Gd} {z : Nat} {h : AH} {y : Nat} {th : Int32} {mk : Nat} {ts : Nat} {fs : Nat} {kd : Nat} {p : Nat} {q : Nat} {len : Nat} {ks : Nat} {fm : Nat} {cm : Nat} {be : Nat} {dz : Nat → Bool} {mn : Nat → Nat} {st : Nat → Nat} {tn : Nat → Nat} {tv : Nat → Nat} {fn : Nat → Nat} {fv : Nat → Nat} {on : Nat → Nat} {tw : Nat → Nat} {bf : Nat → Nat} {g1 : Nat → Nat} {g2 : Nat → Nat} {g3 : Nat → Nat} {sv : Nat → Nat} {fa : Nat → Int32} {fy : Nat → Nat} {bs : Nat → Nat} {cf : Nat → Nat} (hM : mdC G h y th mk ts fs kd p q len ks fm cm be dz mn st tn tv fn fv on tw bf g1 g2 g3 sv fa fy bs cf)  : Ct G yX8_thrown cX8_thrown 1 (some .int) 0 0 0 [.ref y] z h (fun r z' h' => r = some (.int th) ∧ z' = z ∧ h' = h) := by
  refine Ct.of (lv := [_]) (by decide) (Nat.le_of_ble_eq_true rfl) rfl ?_
  rintro X rfl hX hR hnm
  refine V_aload_n (pc' := 1) hX dX8_thrown_0 rfl rfl ?_
  refine V_get (pc' := 4) hX dX8_thrown_1 hM.1 rfl inX8 0 (by decide) wF_X8_75 rfl rfl ?_
  refine V_iret hX hR dX8_thrown_4 ?_
  exact ⟨rfl, rfl, rfl⟩
set_option maxRecDepth 100000 in
set_option maxHeartbeats 4000000 in
theorem c_Md_in {G : Gd} {z : Nat} {h : AH} (v lo hi : Int32)  : Ct G yX8_in cX8_in 3 (some .boolean) 0 0 0 [.int v, .int lo, .int hi] z h (fun r z' h' => r = some (.int (bI (decide (lo.toInt ≤ v.toInt ∧ v.toInt ≤ hi.toInt)))) ∧ z' = z ∧ h' = h) := by
  refine Ct.of (lv := [_, _, _]) (by decide) (Nat.le_of_ble_eq_true rfl) rfl ?_
  rintro X rfl hX hR hnm
  refine V_iload_n (pc' := 1) hX dX8_in_0 rfl rfl ?_
  refine V_iload_n (pc' := 2) hX dX8_in_1 rfl rfl ?_
  refine V_icmp_lt (pt := 14) (pc' := 5) hX dX8_in_2 rfl rfl (fun c2 => ?_) (fun c2 => ?_)
  · have hc : v.toInt < lo.toInt := i32_lt.mp c2
    refine V_iconst (pc' := 15) (v := nI 0) hX dX8_in_14 (by decide) rfl ?_
    refine V_zret hX hR dX8_in_15 (by rfl) ?_
    rw [decide_eq_false (by omega)]; exact ⟨rfl, rfl, rfl⟩
  · have hc : ¬ v.toInt < lo.toInt := fun e => c2 (i32_lt.mpr e)
    refine V_iload_n (pc' := 6) hX dX8_in_5 rfl rfl ?_
    refine V_iload_n (pc' := 7) hX dX8_in_6 rfl rfl ?_
    refine V_icmp_gt (pt := 14) (pc' := 10) hX dX8_in_7 rfl rfl (fun c7 => ?_) (fun c7 => ?_)
    · have hd : hi.toInt < v.toInt := i32_lt.mp c7
      refine V_iconst (pc' := 15) (v := nI 0) hX dX8_in_14 (by decide) rfl ?_
      refine V_zret hX hR dX8_in_15 (by rfl) ?_
      rw [decide_eq_false (by omega)]; exact ⟨rfl, rfl, rfl⟩
    · have hd : ¬ hi.toInt < v.toInt := fun e => c7 (i32_lt.mpr e)
      refine V_iconst (pc' := 11) (v := nI 1) hX dX8_in_10 (by decide) rfl ?_
      refine V_goto (pc' := 15) hX dX8_in_11 rfl ?_
      refine V_zret hX hR dX8_in_15 (by rfl) ?_
      rw [decide_eq_true (by omega)]; exact ⟨rfl, rfl, rfl⟩
set_option maxRecDepth 100000 in
set_option maxHeartbeats 4000000 in
theorem c_Md_is {G : Gd} {z : Nat} {h : AH} {y : Nat} {th : Int32} {mk : Nat} {ts : Nat} {fs : Nat} {kd : Nat} {p : Nat} {q : Nat} {len : Nat} {ks : Nat} {fm : Nat} {cm : Nat} {be : Nat} {dz : Nat → Bool} {mn : Nat → Nat} {st : Nat → Nat} {tn : Nat → Nat} {tv : Nat → Nat} {fn : Nat → Nat} {fv : Nat → Nat} {on : Nat → Nat} {tw : Nat → Nat} {bf : Nat → Nat} {g1 : Nat → Nat} {g2 : Nat → Nat} {g3 : Nat → Nat} {sv : Nat → Nat} {fa : Nat → Int32} {fy : Nat → Nat} {bs : Nat → Nat} {cf : Nat → Nat} {av : Nat → Bool} {M L : Nat → List Nat} {W F : Nat → Nat} (r : Int32) (hI : mdI mk ts fs kd p q av M L W F dz mn st tn tv fn fv) (hM : mdC G h y th mk ts fs kd p q len ks fm cm be dz mn st tn tv fn fv on tw bf g1 g2 g3 sv fa fy bs cf)  : Ct G yX8_is cX8_is 2 (some .boolean) 1 0 0 [.ref y, .int r] z h (fun r' z' h' => r' = some (.int (bI (avI av r))) ∧ z' = z ∧ h' = h) := by
  refine Ct.of (lv := [_, _]) (by decide) (Nat.le_of_ble_eq_true rfl) rfl ?_
  rintro X rfl hX hR hnm
  obtain ⟨⟨hmk, hav, hdz⟩, hS, hT, hK, hL, hmo, hemp⟩ := id hI
  have e0 : (nI 0).toInt = 0 := by decide
  refine V_iload_n (pc' := 1) hX dX8_is_0 rfl rfl ?_
  refine V_iconst (pc' := 2) (v := nI 0) hX dX8_is_1 (by decide) rfl ?_
  refine V_aload_n (pc' := 3) hX dX8_is_2 rfl rfl ?_
  refine V_get (pc' := 6) hX dX8_is_3 hM.1 rfl inX8 1 (by decide) wF_X8_78 rfl rfl ?_
  refine V_iconst (pc' := 7) (v := nI 1) hX dX8_is_6 (by decide) rfl ?_
  refine V_isub (pc' := 8) hX dX8_is_7 rfl ?_
  refine V_callS (nA := 3) (pc' := 11) (k' := 0) (n' := 0) hX dX8_is_8 (c_Md_in r (nI 0) (nI mk - nI 1)) wM_X8_81 wS_X8_in wN_X8 wC_X8_in rfl hy_X8_in rfl (Nat.le_of_ble_eq_true rfl) (by decide) (by omega) rfl rfl (by omega) rfl (by omega) rfl ?_
  rintro _ z h ⟨rfl, rfl, rfl⟩
  rw [nIm1 (show mk < 2 ^ 31 by omega), e0]
  refine V.stk (st' := [_]) rfl ?_
  refine V_if_eqB (pt := 27) (pc' := 14) hX dX8_is_11 rfl rfl (fun c11 => ?_) (fun c11 => ?_)
  · refine V_iconst (pc' := 28) (v := nI 0) hX dX8_is_27 (by decide) rfl ?_
    refine V_zret hX hR dX8_is_28 (by rfl) ?_
    have e : avI av r = false := by
      cases hx : avI av r with
      | false => rfl
      | true =>
        obtain ⟨k, hk, rfl, ha⟩ := avI_yes hx
        have := hav k ha
        have hc := of_decide_eq_false c11
        rw [nI_toInt hk] at hc
        omega
    rw [e]; exact ⟨rfl, rfl, rfl⟩
  · have hc := of_decide_eq_true c11
    obtain ⟨k, hk31, rfl⟩ := nI_of (x := r) (by rw [i32_lt]; show ¬ _ < (0 : Int); omega)
    rw [nI_toInt hk31] at hc
    have hd := hdz k (by omega)
    rw [decide_eq_true (show k < mk by omega), Bool.true_and] at hd
    refine V_aload_n (pc' := 15) hX dX8_is_14 rfl rfl ?_
    refine V_get (pc' := 18) hX dX8_is_15 hM.1 rfl inX8 2 (by decide) wF_X8_9 rfl rfl ?_
    refine V_iload_n (pc' := 19) hX dX8_is_18 rfl rfl ?_
    refine V_zaldN (pc' := 20) (v := bI (dz k)) hX dX8_is_19 hM.2.1 (by omega) (by omega) rfl rfl ?_
    refine V_if_neB (pt := 27) (pc' := 23) hX dX8_is_20 rfl rfl (fun c20 => ?_) (fun c20 => ?_)
    · refine V_iconst (pc' := 28) (v := nI 0) hX dX8_is_27 (by decide) rfl ?_
      refine V_zret hX hR dX8_is_28 (by rfl) ?_
      have e : avI av (nI k) = false := by
        rw [avI_nI hk31]; rw [c20] at hd
        cases hx : av k with
        | false => rfl
        | true => rw [hx] at hd; cases hd
      rw [e]; exact ⟨rfl, rfl, rfl⟩
    · refine V_iconst (pc' := 24) (v := nI 1) hX dX8_is_23 (by decide) rfl ?_
      refine V_goto (pc' := 28) hX dX8_is_24 rfl ?_
      refine V_zret hX hR dX8_is_28 (by rfl) ?_
      have e : avI av (nI k) = true := by
        rw [avI_nI hk31]; rw [c20] at hd
        cases hx : av k with
        | true => rfl
        | false => rw [hx] at hd; cases hd
      rw [e]; exact ⟨rfl, rfl, rfl⟩
set_option maxRecDepth 100000 in
set_option maxHeartbeats 4000000 in
theorem c_Md_isTwo {G : Gd} {z : Nat} {h : AH} {y : Nat} {th : Int32} {mk : Nat} {ts : Nat} {fs : Nat} {kd : Nat} {p : Nat} {q : Nat} {len : Nat} {ks : Nat} {fm : Nat} {cm : Nat} {be : Nat} {dz : Nat → Bool} {mn : Nat → Nat} {st : Nat → Nat} {tn : Nat → Nat} {tv : Nat → Nat} {fn : Nat → Nat} {fv : Nat → Nat} {on : Nat → Nat} {tw : Nat → Nat} {bf : Nat → Nat} {g1 : Nat → Nat} {g2 : Nat → Nat} {g3 : Nat → Nat} {sv : Nat → Nat} {fa : Nat → Int32} {fy : Nat → Nat} {bs : Nat → Nat} {cf : Nat → Nat} {av : Nat → Bool} {M L : Nat → List Nat} {W F : Nat → Nat} (r s : Int32) (hI : mdI mk ts fs kd p q av M L W F dz mn st tn tv fn fv) (hM : mdC G h y th mk ts fs kd p q len ks fm cm be dz mn st tn tv fn fv on tw bf g1 g2 g3 sv fa fy bs cf)  : Ct G yX8_isTwo cX8_isTwo 3 (some .boolean) 2 0 0 [.ref y, .int r, .int s] z h (fun r' z' h' => r' = some (.int (bI (avI av r && (avI av s && decide (r ≠ s))))) ∧ z' = z ∧ h' = h) := by
  refine Ct.of (lv := [_, _, _]) (by decide) (Nat.le_of_ble_eq_true rfl) rfl ?_
  rintro X rfl hX hR hnm
  refine V_aload_n (pc' := 1) hX dX8_isTwo_0 rfl rfl ?_
  refine V_iload_n (pc' := 2) hX dX8_isTwo_1 rfl rfl ?_
  refine V_callV (nA := 1) (pc' := 5) (k' := 0) (n' := 0) hX dX8_isTwo_2 (c_Md_is r hI hM) hM.1 rfl wM_X8_85 wI_X8_is wL_X8_is wN_X8 wC_X8_is rfl hy_X8_is rfl (Nat.le_of_ble_eq_true rfl) (by decide) (by omega) rfl rfl (by omega) rfl (by omega) rfl ?_
  rintro _ z h ⟨rfl, rfl, rfl⟩
  refine V.stk (st' := [_]) rfl ?_
  refine V_if_eqB (pt := 25) (pc' := 8) hX dX8_isTwo_5 rfl rfl (fun c5 => ?_) (fun c5 => ?_)
  · refine V_iconst (pc' := 26) (v := nI 0) hX dX8_isTwo_25 (by decide) rfl ?_
    refine V_zret hX hR dX8_isTwo_26 (by rfl) ?_
    rw [c5]; exact ⟨rfl, rfl, rfl⟩
  · refine V_aload_n (pc' := 9) hX dX8_isTwo_8 rfl rfl ?_
    refine V_iload_n (pc' := 10) hX dX8_isTwo_9 rfl rfl ?_
    refine V_callV (nA := 1) (pc' := 13) (k' := 0) (n' := 0) hX dX8_isTwo_10 (c_Md_is s hI hM) hM.1 rfl wM_X8_85 wI_X8_is wL_X8_is wN_X8 wC_X8_is rfl hy_X8_is rfl (Nat.le_of_ble_eq_true rfl) (by decide) (by omega) rfl rfl (by omega) rfl (by omega) rfl ?_
    rintro _ z h ⟨rfl, rfl, rfl⟩
    refine V.stk (st' := [_]) rfl ?_
    refine V_if_eqB (pt := 25) (pc' := 16) hX dX8_isTwo_13 rfl rfl (fun c13 => ?_) (fun c13 => ?_)
    · refine V_iconst (pc' := 26) (v := nI 0) hX dX8_isTwo_25 (by decide) rfl ?_
      refine V_zret hX hR dX8_isTwo_26 (by rfl) ?_
      rw [c5, c13]; exact ⟨rfl, rfl, rfl⟩
    · refine V_iload_n (pc' := 17) hX dX8_isTwo_16 rfl rfl ?_
      refine V_iload_n (pc' := 18) hX dX8_isTwo_17 rfl rfl ?_
      refine V_icmp_eq (pt := 25) (pc' := 21) hX dX8_isTwo_18 rfl rfl (fun c18 => ?_) (fun c18 => ?_)
      · refine V_iconst (pc' := 26) (v := nI 0) hX dX8_isTwo_25 (by decide) rfl ?_
        refine V_zret hX hR dX8_isTwo_26 (by rfl) ?_
        rw [c5, c13, decide_eq_false (fun e => e c18)]; exact ⟨rfl, rfl, rfl⟩
      · refine V_iconst (pc' := 22) (v := nI 1) hX dX8_isTwo_21 (by decide) rfl ?_
        refine V_goto (pc' := 26) hX dX8_isTwo_22 rfl ?_
        refine V_zret hX hR dX8_isTwo_26 (by rfl) ?_
        rw [c5, c13, decide_eq_true c18]; exact ⟨rfl, rfl, rfl⟩
set_option maxRecDepth 100000 in
set_option maxHeartbeats 4000000 in
theorem c_Md_isNumber {G : Gd} {z : Nat} {h : AH} (v : Int32)  : Ct G yX8_isNumber cX8_isNumber 1 (some .boolean) 1 0 0 [.int v] z h (fun r' z' h' => r' = some (.int (bI (isNumB v))) ∧ z' = z ∧ h' = h) := by
  refine Ct.of (lv := [_]) (by decide) (Nat.le_of_ble_eq_true rfl) rfl ?_
  rintro X rfl hX hR hnm
  refine V_iload_n (pc' := 1) hX dX8_isNumber_0 rfl rfl ?_
  refine V_iconst (pc' := 2) (v := nI 0) hX dX8_isNumber_1 (by decide) rfl ?_
  refine V_ldcN (pc' := 4) (v' := nI 999999) hX dX8_isNumber_2 wK_X8_89 (by decide) rfl ?_
  refine V_callS (nA := 3) (pc' := 7) (k' := 0) (n' := 0) hX dX8_isNumber_4 (c_Md_in v (nI 0) (nI 999999)) wM_X8_81 wS_X8_in wN_X8 wC_X8_in rfl hy_X8_in rfl (Nat.le_of_ble_eq_true rfl) (by decide) (by omega) rfl rfl (by omega) rfl (by omega) rfl ?_
  rintro _ z h ⟨rfl, rfl, rfl⟩
  refine V.stk (st' := [_]) rfl ?_
  refine V_zret hX hR dX8_isNumber_7 (bI_n _) ?_
  have e : decide ((nI 0).toInt ≤ v.toInt ∧ v.toInt ≤ (nI 999999).toInt) = isNumB v := by
    unfold isNumB
    apply decide_eq_decide.mpr
    have e1 : (nI 999999).toInt = 999999 := by decide
    have e2 : (nI 0).toInt = 0 := by decide
    omega
  rw [e]; exact ⟨rfl, rfl, rfl⟩
set_option maxRecDepth 100000 in
set_option maxHeartbeats 4000000 in
theorem c_Md_place {G : Gd} {z : Nat} {h : AH} {y : Nat} {th : Int32} {mk : Nat} {ts : Nat} {fs : Nat} {kd : Nat} {p : Nat} {q : Nat} {len : Nat} {ks : Nat} {fm : Nat} {cm : Nat} {be : Nat} {dz : Nat → Bool} {mn : Nat → Nat} {st : Nat → Nat} {tn : Nat → Nat} {tv : Nat → Nat} {fn : Nat → Nat} {fv : Nat → Nat} {on : Nat → Nat} {tw : Nat → Nat} {bf : Nat → Nat} {g1 : Nat → Nat} {g2 : Nat → Nat} {g3 : Nat → Nat} {sv : Nat → Nat} {fa : Nat → Int32} {fy : Nat → Nat} {bs : Nat → Nat} {cf : Nat → Nat} {M : Nat → List Nat} (r : Nat) (v : Int32) (hr : r < 60) (hS : mSok mn st M) (hM : mdC G h y th mk ts fs kd p q len ks fm cm be dz mn st tn tv fn fv on tw bf g1 g2 g3 sv fa fy bs cf)  : Ct G yX8_place cX8_place 4 (some .int) 0 0 0 [.ref y, .int (nI r), .int v] z h (fun r' z' h' => ∃ w, r' = some (.int w) ∧ z' = z ∧ h' = h ∧ ((w = -1 ∧ ∀ k, k ∈ M r → v ≠ nI k) ∨ (w ≠ -1 ∧ ∃ k, k ∈ M r ∧ v = nI k))) := by
  refine Ct.of (lv := [_, _, _, _]) (by decide) (Nat.le_of_ble_eq_true rfl) rfl ?_
  rintro X rfl hX hR hnm
  have hl := (hS r hr).2.1
  refine V_iconst (pc' := 1) (v := nI 0) hX dX8_place_0 (by decide) rfl ?_
  refine V_istore_n (pc' := 2) (lv' := [_, _, _, _]) hX dX8_place_1 (Nat.le_of_ble_eq_true rfl) rfl rfl ?_
  have lp : ∀ (μ i : Nat), i ≤ (M r).length → (∀ j, j < i → v ≠ nI ((M r).getD j 0)) → (M r).length - i < μ → V X 0 0 z h 2 [some (.ref y), some (.int (nI r)), some (.int v), some (.int (nI i))] [] := by
    intro μ
    induction μ with
    | zero => intros; omega
    | succ μ ih =>
      intro i b1 b2 b3
      refine V_iload_n (pc' := 3) hX dX8_place_2 rfl rfl ?_
      refine V_aload_n (pc' := 4) hX dX8_place_3 rfl rfl ?_
      refine V_get (pc' := 7) hX dX8_place_4 hM.1 rfl inX8 3 (by decide) wF_X8_13 rfl rfl ?_
      refine V_iload_n (pc' := 8) hX dX8_place_7 rfl rfl ?_
      refine V_ialdN (pc' := 9) (v := nI (M r).length) hX dX8_place_8 hM.2.2.1 (by omega) (by omega) (by rw [(hS r hr).1]) rfl ?_
      refine V_icmp_geN (pt := 35) (pc' := 12) hX dX8_place_9 (by omega) (by omega) rfl rfl (fun c9 => ?_) (fun c9 => ?_)
      · refine V_iconst (pc' := 36) (v := (-1)) hX dX8_place_35 (by decide) rfl ?_
        refine V_iret hX hR dX8_place_36 ?_
        refine ⟨_, rfl, rfl, rfl, Or.inl ⟨rfl, fun k hk => ?_⟩⟩
        obtain ⟨j, hj, rfl⟩ := mem_getD.mp hk
        exact b2 j (by omega)
      · refine V_aload_n (pc' := 13) hX dX8_place_12 rfl rfl ?_
        refine V_get (pc' := 16) hX dX8_place_13 hM.1 rfl inX8 4 (by decide) wF_X8_17 rfl rfl ?_
        refine V_bipush (pc' := 18) (v := nI 30) hX dX8_place_16 (by decide) rfl ?_
        refine V_iload_n (pc' := 19) hX dX8_place_18 rfl rfl ?_
        refine V_imulN (pc' := 20) hX dX8_place_19 rfl ?_
        refine V_iload_n (pc' := 21) hX dX8_place_20 rfl rfl ?_
        refine V_iaddN (pc' := 22) hX dX8_place_21 rfl ?_
        refine V_ialdN (pc' := 23) (v := nI ((M r).getD i 0)) hX dX8_place_22 hM.2.2.2.1 (by omega) (by omega) (by rw [(hS r hr).2.2.1 i (by omega)]) rfl ?_
        refine V_iload_n (pc' := 24) hX dX8_place_23 rfl rfl ?_
        refine V_icmp_ne (pt := 29) (pc' := 27) hX dX8_place_24 rfl rfl (fun c24 => ?_) (fun c24 => ?_)
        · refine V_iincN (pc' := 32) (j := 1) (lv' := [_, _, _, _]) hX dX8_place_29 rfl rfl rfl rfl ?_
          refine V_goto (pc' := 2) hX dX8_place_32 rfl ?_
          exact ih (i + 1) (by omega) (fun j hj => by
            by_cases e : j = i
            · rw [e]; exact fun e2 => c24 e2.symm
            · exact b2 j (by omega)) (by omega)
        · refine V_iload_n (pc' := 28) hX dX8_place_27 rfl rfl ?_
          refine V_iret hX hR dX8_place_28 ?_
          exact ⟨_, rfl, rfl, rfl, Or.inr ⟨fun e => by
            have := congrArg Int32.toInt e
            rw [nI_toInt (by omega), show (-1 : Int32).toInt = -1 by decide] at this
            omega, _, getD_mem (by omega), c24.symm⟩⟩
  exact lp ((M r).length + 1) 0 (by omega) (fun j hj => by omega) (by omega)
set_option maxRecDepth 100000 in
set_option maxHeartbeats 4000000 in
theorem c_Md_place0 {G : Gd} {z : Nat} {h : AH} {y : Nat} {th : Int32} {mk : Nat} {ts : Nat} {fs : Nat} {kd : Nat} {p : Nat} {q : Nat} {len : Nat} {ks : Nat} {fm : Nat} {cm : Nat} {be : Nat} {dz : Nat → Bool} {mn : Nat → Nat} {st : Nat → Nat} {tn : Nat → Nat} {tv : Nat → Nat} {fn : Nat → Nat} {fv : Nat → Nat} {on : Nat → Nat} {tw : Nat → Nat} {bf : Nat → Nat} {g1 : Nat → Nat} {g2 : Nat → Nat} {g3 : Nat → Nat} {sv : Nat → Nat} {fa : Nat → Int32} {fy : Nat → Nat} {bs : Nat → Nat} {cf : Nat → Nat} (r k n : Nat) (hr : r < 60) (hn : n ≤ 30) (hk : k < 2 ^ 31) (hb : ∀ j, j < n → st (30 * r + j) < 2 ^ 31) (hex : ∃ j, j < n ∧ st (30 * r + j) = k) (hM : mdC G h y th mk ts fs kd p q len ks fm cm be dz mn st tn tv fn fv on tw bf g1 g2 g3 sv fa fy bs cf)  : Ct G yX8_place0 cX8_place0 4 (some .int) 0 0 0 [.ref y, .int (nI r), .int (nI k)] z h (fun r' z' h' => ∃ j, r' = some (.int (nI j)) ∧ z' = z ∧ h' = h ∧ j < n ∧ st (30 * r + j) = k) := by
  refine Ct.of (lv := [_, _, _, _]) (by decide) (Nat.le_of_ble_eq_true rfl) rfl ?_
  rintro X rfl hX hR hnm
  obtain ⟨j0, hj0, hjk⟩ := hex
  refine V_iconst (pc' := 1) (v := nI 0) hX dX8_place0_0 (by decide) rfl ?_
  refine V_istore_n (pc' := 2) (lv' := [_, _, _, _]) hX dX8_place0_1 (Nat.le_of_ble_eq_true rfl) rfl rfl ?_
  have lp : ∀ (μ i : Nat), i ≤ j0 → j0 - i < μ → V X 0 0 z h 2 [some (.ref y), some (.int (nI r)), some (.int (nI k)), some (.int (nI i))] [] := by
    intro μ
    induction μ with
    | zero => intros; omega
    | succ μ ih =>
      intro i b1 b3
      refine V_aload_n (pc' := 3) hX dX8_place0_2 rfl rfl ?_
      refine V_get (pc' := 6) hX dX8_place0_3 hM.1 rfl inX8 4 (by decide) wF_X8_17 rfl rfl ?_
      refine V_bipush (pc' := 8) (v := nI 30) hX dX8_place0_6 (by decide) rfl ?_
      refine V_iload_n (pc' := 9) hX dX8_place0_8 rfl rfl ?_
      refine V_imulN (pc' := 10) hX dX8_place0_9 rfl ?_
      refine V_iload_n (pc' := 11) hX dX8_place0_10 rfl rfl ?_
      refine V_iaddN (pc' := 12) hX dX8_place0_11 rfl ?_
      refine V_ialdN (pc' := 13) hX dX8_place0_12 hM.2.2.2.1 (by omega) (by omega) rfl rfl ?_
      refine V_iload_n (pc' := 14) hX dX8_place0_13 rfl rfl ?_
      refine V_icmp_eqN (pt := 23) (pc' := 17) hX dX8_place0_14 (hb i (by omega)) hk rfl rfl (fun c14 => ?_) (fun c14 => ?_)
      · refine V_iload_n (pc' := 24) hX dX8_place0_23 rfl rfl ?_
        refine V_iret hX hR dX8_place0_24 ?_
        exact ⟨i, rfl, rfl, rfl, by omega, c14⟩
      · refine V_iincN (pc' := 20) (j := 1) (lv' := [_, _, _, _]) hX dX8_place0_17 rfl rfl rfl rfl ?_
        refine V_goto (pc' := 2) hX dX8_place0_20 rfl ?_
        exact ih (i + 1) (by
          rcases Nat.lt_or_ge i j0 with e | e
          · omega
          · exact absurd (by rw [show i = j0 by omega]; exact hjk) c14) (by
          rcases Nat.lt_or_ge i j0 with e | e
          · omega
          · exact absurd (by rw [show i = j0 by omega]; exact hjk) c14)
  exact lp (j0 + 1) 0 (by omega) (by omega)
set_option maxRecDepth 100000 in
set_option maxHeartbeats 4000000 in
theorem c_Md_record {G : Gd} {z : Nat} {h : AH} {y : Nat} {th : Int32} {mk : Nat} {ts : Nat} {fs : Nat} {kd : Nat} {p : Nat} {q : Nat} {len : Nat} {ks : Nat} {fm : Nat} {cm : Nat} {be : Nat} {dz : Nat → Bool} {mn : Nat → Nat} {st : Nat → Nat} {tn : Nat → Nat} {tv : Nat → Nat} {fn : Nat → Nat} {fv : Nat → Nat} {on : Nat → Nat} {tw : Nat → Nat} {bf : Nat → Nat} {g1 : Nat → Nat} {g2 : Nat → Nat} {g3 : Nat → Nat} {sv : Nat → Nat} {fa : Nat → Int32} {fy : Nat → Nat} {bs : Nat → Nat} {cf : Nat → Nat} {av : Nat → Bool} {M L : Nat → List Nat} {W F : Nat → Nat} (hI : mdI mk ts fs kd p q av M L W F dz mn st tn tv fn fv) (hM : mdC G h y th mk ts fs kd p q len ks fm cm be dz mn st tn tv fn fv on tw bf g1 g2 g3 sv fa fy bs cf)  : Ct G yX8_record cX8_record 1 (some .int) 0 0 0 [.ref y] z h (fun r' z' h' => z' = z ∧ fr y (y + 19) h h' ∧ ((mk = 60 ∧ r' = some (.int (-1)) ∧ mdC G h' y (nI 0) mk ts fs kd p q len ks fm cm be dz mn st tn tv fn fv on tw bf g1 g2 g3 sv fa fy bs cf) ∨ (mk < 60 ∧ r' = some (.int (nI mk)) ∧ mdC G h' y (nI 0) (mk + 1) ts fs kd p q len ks fm cm be dz mn st tn tv fn fv on tw bf g1 g2 g3 sv fa fy bs cf))) := by
  refine Ct.of (lv := [_]) (by decide) (Nat.le_of_ble_eq_true rfl) rfl ?_
  rintro X rfl hX hR hnm
  obtain ⟨⟨hmk, hav, hdz⟩, hS, hT, hK, hL, hmo, hemp⟩ := id hI
  refine V_aload_n (pc' := 1) hX dX8_record_0 rfl rfl ?_
  refine V_iconst (pc' := 2) (v := nI 0) hX dX8_record_1 (by decide) rfl ?_
  refine V_put (pc' := 5) (fs' := [_, _, _, _, _, _, _, _, _, _, _, _, _, _, _, _, _, _, _, _, _, _, _, _, _, _, _, _, _, _]) (ty0 := tyX8) hX dX8_record_2 hM.1 rfl inX8 tyX8_ok nmX8 0 (by decide) wF_X8_75 rfl (tyX8_ok 0 (by decide)) rfl rfl (Nat.le_of_ble_eq_true rfl) rfl rfl ?_
  refine V.gen (fun h0 eh0 => ?_)
  have f0 := fr.of_up eh0
  have hM := hM.u0 (up_at eh0) f0
  have f0 := f0.mono (lo' := y) (hi' := y + 19) (by omega) (by omega)
  refine V_aload_n (pc' := 6) hX dX8_record_5 rfl rfl ?_
  refine V_get (pc' := 9) hX dX8_record_6 hM.1 rfl inX8 1 (by decide) wF_X8_78 rfl rfl ?_
  refine V_bipush (pc' := 11) (v := nI 60) hX dX8_record_9 (by decide) rfl ?_
  refine V_icmp_neN (pt := 16) (pc' := 14) hX dX8_record_11 (by omega) (by omega) rfl rfl (fun c11 => ?_) (fun c11 => ?_)
  · refine V_aload_n (pc' := 17) hX dX8_record_16 rfl rfl ?_
    refine V_dup (pc' := 18) hX dX8_record_17 rfl rfl ?_
    refine V_get (pc' := 21) hX dX8_record_18 hM.1 rfl inX8 1 (by decide) wF_X8_78 rfl rfl ?_
    refine V_iconst (pc' := 22) (v := nI 1) hX dX8_record_21 (by decide) rfl ?_
    refine V_iaddN (pc' := 23) hX dX8_record_22 rfl ?_
    refine V_put (pc' := 26) (fs' := [_, _, _, _, _, _, _, _, _, _, _, _, _, _, _, _, _, _, _, _, _, _, _, _, _, _, _, _, _, _]) (ty0 := tyX8) hX dX8_record_23 hM.1 rfl inX8 tyX8_ok nmX8 1 (by decide) wF_X8_78 rfl (tyX8_ok 1 (by decide)) rfl rfl (Nat.le_of_ble_eq_true rfl) rfl rfl ?_
    refine V.gen (fun h1 eh1 => ?_)
    have fh1 := fr.of_up eh1
    have hM := hM.u0 (up_at eh1) fh1
    have f0 := f0.tr (fh1.mono (lo' := y) (hi' := y + 19) (by omega) (by omega))
    refine V_aload_n (pc' := 27) hX dX8_record_26 rfl rfl ?_
    refine V_get (pc' := 30) hX dX8_record_27 hM.1 rfl inX8 1 (by decide) wF_X8_78 rfl rfl ?_
    refine V_iconst (pc' := 31) (v := nI 1) hX dX8_record_30 (by decide) rfl ?_
    refine V_isubN (pc' := 32) hX dX8_record_31 (by omega) rfl ?_
    refine V_iret hX hR dX8_record_32 ?_
    rw [Nat.add_sub_cancel]
    exact ⟨rfl, f0, Or.inr ⟨by omega, rfl, hM⟩⟩
  · refine V_iconst (pc' := 15) (v := (-1)) hX dX8_record_14 (by decide) rfl ?_
    refine V_iret hX hR dX8_record_15 ?_
    exact ⟨rfl, f0, Or.inl ⟨by omega, rfl, hM⟩⟩
set_option maxRecDepth 100000 in
set_option maxHeartbeats 4000000 in
theorem c_Md_drop {G : Gd} {z : Nat} {h : AH} {y : Nat} {th : Int32} {mk : Nat} {ts : Nat} {fs : Nat} {kd : Nat} {p : Nat} {q : Nat} {len : Nat} {ks : Nat} {fm : Nat} {cm : Nat} {be : Nat} {dz : Nat → Bool} {mn : Nat → Nat} {st : Nat → Nat} {tn : Nat → Nat} {tv : Nat → Nat} {fn : Nat → Nat} {fv : Nat → Nat} {on : Nat → Nat} {tw : Nat → Nat} {bf : Nat → Nat} {g1 : Nat → Nat} {g2 : Nat → Nat} {g3 : Nat → Nat} {sv : Nat → Nat} {fa : Nat → Int32} {fy : Nat → Nat} {bs : Nat → Nat} {cf : Nat → Nat} {av : Nat → Bool} {M L : Nat → List Nat} {W F : Nat → Nat} (r : Int32) (hI : mdI mk ts fs kd p q av M L W F dz mn st tn tv fn fv) (hM : mdC G h y th mk ts fs kd p q len ks fm cm be dz mn st tn tv fn fv on tw bf g1 g2 g3 sv fa fy bs cf)  : Ct G yX8_drop cX8_drop 2 (some .boolean) 2 0 0 [.ref y, .int r] z h (fun r' z' h' => z' = z ∧ fr y (y + 19) h h' ∧ ((avI av r = false ∧ r' = some (.int (bI false)) ∧ mdC G h' y (nI 0) mk ts fs kd p q len ks fm cm be dz mn st tn tv fn fv on tw bf g1 g2 g3 sv fa fy bs cf) ∨ ∃ k, r = nI k ∧ av k = true ∧ r' = some (.int (bI true)) ∧ mdC G h' y (nI 0) mk ts fs kd p q len ks fm cm be (va_up dz k true) mn st tn tv fn fv on tw bf g1 g2 g3 sv fa fy bs cf)) := by
  refine Ct.of (lv := [_, _]) (by decide) (Nat.le_of_ble_eq_true rfl) rfl ?_
  rintro X rfl hX hR hnm
  obtain ⟨⟨hmk, hav, hdz⟩, hS, hT, hK, hL, hmo, hemp⟩ := id hI
  refine V_aload_n (pc' := 1) hX dX8_drop_0 rfl rfl ?_
  refine V_iconst (pc' := 2) (v := nI 0) hX dX8_drop_1 (by decide) rfl ?_
  refine V_put (pc' := 5) (fs' := [_, _, _, _, _, _, _, _, _, _, _, _, _, _, _, _, _, _, _, _, _, _, _, _, _, _, _, _, _, _]) (ty0 := tyX8) hX dX8_drop_2 hM.1 rfl inX8 tyX8_ok nmX8 0 (by decide) wF_X8_75 rfl (tyX8_ok 0 (by decide)) rfl rfl (Nat.le_of_ble_eq_true rfl) rfl rfl ?_
  refine V.gen (fun h0 eh0 => ?_)
  have f0 := fr.of_up eh0
  have hM := hM.u0 (up_at eh0) f0
  have f0 := f0.mono (lo' := y) (hi' := y + 19) (by omega) (by omega)
  refine V_aload_n (pc' := 6) hX dX8_drop_5 rfl rfl ?_
  refine V_iload_n (pc' := 7) hX dX8_drop_6 rfl rfl ?_
  refine V_callV (nA := 1) (pc' := 10) (k' := 0) (n' := 0) hX dX8_drop_7 (c_Md_is r hI hM) hM.1 rfl wM_X8_85 wI_X8_is wL_X8_is wN_X8 wC_X8_is rfl hy_X8_is rfl (Nat.le_of_ble_eq_true rfl) (by decide) (by omega) rfl rfl (by omega) rfl (by omega) rfl ?_
  rintro _ z h0 ⟨rfl, rfl, rfl⟩
  refine V.stk (st' := [_]) rfl ?_
  refine V_if_neB (pt := 15) (pc' := 13) hX dX8_drop_10 rfl rfl (fun c10 => ?_) (fun c10 => ?_)
  · obtain ⟨k, hk31, rfl, hk⟩ := avI_yes c10
    have hkm := hav k hk
    refine V_aload_n (pc' := 16) hX dX8_drop_15 rfl rfl ?_
    refine V_get (pc' := 19) hX dX8_drop_16 hM.1 rfl inX8 2 (by decide) wF_X8_9 rfl rfl ?_
    refine V_iload_n (pc' := 20) hX dX8_drop_19 rfl rfl ?_
    refine V_iconst (pc' := 21) (v := nI 1) hX dX8_drop_20 (by decide) rfl ?_
    refine V_zastN (pc' := 22) hX dX8_drop_21 hM.2.1 (by omega) (by omega) rfl rfl ?_
    rw [updZ]
    refine V.gen (fun h1 eh1 => ?_)
    have fh1 := fr.of_up eh1
    have hM := hM.u1 (up_at eh1) fh1
    have f0 := f0.tr (fh1.mono (lo' := y) (hi' := y + 19) (by omega) (by omega))
    refine V_iconst (pc' := 23) (v := nI 1) hX dX8_drop_22 (by decide) rfl ?_
    refine V_zret hX hR dX8_drop_23 (by rfl) ?_
    exact ⟨rfl, f0, Or.inr ⟨k, rfl, hk, rfl, hM⟩⟩
  · refine V_iconst (pc' := 14) (v := nI 0) hX dX8_drop_13 (by decide) rfl ?_
    refine V_zret hX hR dX8_drop_14 (by rfl) ?_
    exact ⟨rfl, f0, Or.inl ⟨c10, rfl, hM⟩⟩
set_option maxRecDepth 100000 in
set_option maxHeartbeats 4000000 in
theorem c_Md_put {G : Gd} {z : Nat} {h : AH} {y : Nat} {th : Int32} {mk : Nat} {ts : Nat} {fs : Nat} {kd : Nat} {p : Nat} {q : Nat} {len : Nat} {ks : Nat} {fm : Nat} {cm : Nat} {be : Nat} {dz : Nat → Bool} {mn : Nat → Nat} {st : Nat → Nat} {tn : Nat → Nat} {tv : Nat → Nat} {fn : Nat → Nat} {fv : Nat → Nat} {on : Nat → Nat} {tw : Nat → Nat} {bf : Nat → Nat} {g1 : Nat → Nat} {g2 : Nat → Nat} {g3 : Nat → Nat} {sv : Nat → Nat} {fa : Nat → Int32} {fy : Nat → Nat} {bs : Nat → Nat} {cf : Nat → Nat} {av : Nat → Bool} {M L : Nat → List Nat} {W F : Nat → Nat} (r v : Int32) (hI : mdI mk ts fs kd p q av M L W F dz mn st tn tv fn fv) (hM : mdC G h y th mk ts fs kd p q len ks fm cm be dz mn st tn tv fn fv on tw bf g1 g2 g3 sv fa fy bs cf)  : Ct G yX8_put cX8_put 3 (some .boolean) 2 0 0 [.ref y, .int r, .int v] z h (fun r' z' h' => z' = z ∧ fr y (y + 19) h h' ∧ (((avI av r = false ∨ isNumB v = false ∨ ∃ i k, r = nI i ∧ av i = true ∧ k < 1000000 ∧ v = nI k ∧ (k ∈ M i ∨ (M i).length = 30)) ∧ r' = some (.int (bI false)) ∧ mdC G h' y (nI 0) mk ts fs kd p q len ks fm cm be dz mn st tn tv fn fv on tw bf g1 g2 g3 sv fa fy bs cf) ∨ ∃ i k, r = nI i ∧ av i = true ∧ k < 1000000 ∧ v = nI k ∧ k ∉ M i ∧ (M i).length < 30 ∧ r' = some (.int (bI true)) ∧ mdC G h' y (nI 0) mk ts fs kd p q len ks fm cm be dz (va_up mn i ((M i).length + 1)) (va_up st (30 * i + (M i).length) k) tn tv fn fv on tw bf g1 g2 g3 sv fa fy bs cf)) := by
  refine Ct.of (lv := [_, _, _]) (by decide) (Nat.le_of_ble_eq_true rfl) rfl ?_
  rintro X rfl hX hR hnm
  obtain ⟨⟨hmk, hav, hdz⟩, hS, hT, hK, hL, hmo, hemp⟩ := id hI
  refine V_aload_n (pc' := 1) hX dX8_put_0 rfl rfl ?_
  refine V_iconst (pc' := 2) (v := nI 0) hX dX8_put_1 (by decide) rfl ?_
  refine V_put (pc' := 5) (fs' := [_, _, _, _, _, _, _, _, _, _, _, _, _, _, _, _, _, _, _, _, _, _, _, _, _, _, _, _, _, _]) (ty0 := tyX8) hX dX8_put_2 hM.1 rfl inX8 tyX8_ok nmX8 0 (by decide) wF_X8_75 rfl (tyX8_ok 0 (by decide)) rfl rfl (Nat.le_of_ble_eq_true rfl) rfl rfl ?_
  refine V.gen (fun h0 eh0 => ?_)
  have f0 := fr.of_up eh0
  have hM := hM.u0 (up_at eh0) f0
  have f0 := f0.mono (lo' := y) (hi' := y + 19) (by omega) (by omega)
  refine V_aload_n (pc' := 6) hX dX8_put_5 rfl rfl ?_
  refine V_iload_n (pc' := 7) hX dX8_put_6 rfl rfl ?_
  refine V_callV (nA := 1) (pc' := 10) (k' := 0) (n' := 0) hX dX8_put_7 (c_Md_is r hI hM) hM.1 rfl wM_X8_85 wI_X8_is wL_X8_is wN_X8 wC_X8_is rfl hy_X8_is rfl (Nat.le_of_ble_eq_true rfl) (by decide) (by omega) rfl rfl (by omega) rfl (by omega) rfl ?_
  rintro _ z h0 ⟨rfl, rfl, rfl⟩
  refine V.stk (st' := [_]) rfl ?_
  refine V_if_eqB (pt := 41) (pc' := 13) hX dX8_put_10 rfl rfl (fun c10 => ?_) (fun c10 => ?_)
  · refine V_iconst (pc' := 42) (v := nI 0) hX dX8_put_41 (by decide) rfl ?_
    refine V_zret hX hR dX8_put_42 (by rfl) ?_
    exact ⟨rfl, f0, Or.inl ⟨Or.inl c10, rfl, hM⟩⟩
  · obtain ⟨i, hi31, rfl, hi⟩ := avI_yes c10
    have him := hav i hi
    have hil := (hS i (by omega)).2.1
    refine V_iload_n (pc' := 14) hX dX8_put_13 rfl rfl ?_
    refine V_callS (nA := 1) (pc' := 17) (k' := 0) (n' := 0) hX dX8_put_14 (c_Md_isNumber v) wM_X8_90 wS_X8_isNumber wN_X8 wC_X8_isNumber rfl hy_X8_isNumber rfl (Nat.le_of_ble_eq_true rfl) (by decide) (by omega) rfl rfl (by omega) rfl (by omega) rfl ?_
    rintro _ z h0 ⟨rfl, rfl, rfl⟩
    refine V.stk (st' := [_]) rfl ?_
    refine V_if_eqB (pt := 41) (pc' := 20) hX dX8_put_17 rfl rfl (fun c17 => ?_) (fun c17 => ?_)
    · refine V_iconst (pc' := 42) (v := nI 0) hX dX8_put_41 (by decide) rfl ?_
      refine V_zret hX hR dX8_put_42 (by rfl) ?_
      exact ⟨rfl, f0, Or.inl ⟨Or.inr (Or.inl c17), rfl, hM⟩⟩
    · obtain ⟨k, hk, rfl⟩ := isNumB_nI c17
      refine V_aload_n (pc' := 21) hX dX8_put_20 rfl rfl ?_
      refine V_iload_n (pc' := 22) hX dX8_put_21 rfl rfl ?_
      refine V_iload_n (pc' := 23) hX dX8_put_22 rfl rfl ?_
      refine V_callV (nA := 2) (pc' := 26) (k' := 0) (n' := 0) hX dX8_put_23 (c_Md_place i (nI k) (by omega) hS hM) hM.1 rfl wM_X8_93 wI_X8_place wL_X8_place wN_X8 wC_X8_place rfl hy_X8_place rfl (Nat.le_of_ble_eq_true rfl) (by decide) (by omega) rfl rfl (by omega) rfl (by omega) rfl ?_
      rintro _ z h0 ⟨w, rfl, rfl, rfl, hw⟩
      refine V.stk (st' := [_]) rfl ?_
      refine V_iconst (pc' := 27) (v := (-1)) hX dX8_put_26 (by decide) rfl ?_
      refine V_icmp_ne (pt := 41) (pc' := 30) hX dX8_put_27 rfl rfl (fun c27 => ?_) (fun c27 => ?_)
      · refine V_iconst (pc' := 42) (v := nI 0) hX dX8_put_41 (by decide) rfl ?_
        refine V_zret hX hR dX8_put_42 (by rfl) ?_
        refine ⟨rfl, f0, Or.inl ⟨Or.inr (Or.inr ⟨i, k, rfl, hi, hk, rfl, Or.inl ?_⟩), rfl, hM⟩⟩
        rcases hw with ⟨hw, -⟩ | ⟨-, k2, hk2, e⟩
        · exact absurd hw c27
        · have := (hS i (by omega)).2.2.2.2 k2 hk2
          rw [nI_eq (by omega) (by omega)] at e
          rw [e]; exact hk2
      · have hnm : k ∉ M i := fun hm => by
          rcases hw with ⟨-, hw⟩ | ⟨hw, -⟩
          · exact hw k hm rfl
          · exact hw c27
        refine V_aload_n (pc' := 31) hX dX8_put_30 rfl rfl ?_
        refine V_get (pc' := 34) hX dX8_put_31 hM.1 rfl inX8 3 (by decide) wF_X8_13 rfl rfl ?_
        refine V_iload_n (pc' := 35) hX dX8_put_34 rfl rfl ?_
        refine V_ialdN (pc' := 36) (v := nI (M i).length) hX dX8_put_35 hM.2.2.1 (by omega) (by omega) (by rw [(hS i (by omega)).1]) rfl ?_
        refine V_bipush (pc' := 38) (v := nI 30) hX dX8_put_36 (by decide) rfl ?_
        refine V_icmp_neN (pt := 43) (pc' := 41) hX dX8_put_38 (by omega) (by omega) rfl rfl (fun c38 => ?_) (fun c38 => ?_)
        · refine V_aload_n (pc' := 44) hX dX8_put_43 rfl rfl ?_
          refine V_get (pc' := 47) hX dX8_put_44 hM.1 rfl inX8 4 (by decide) wF_X8_17 rfl rfl ?_
          refine V_bipush (pc' := 49) (v := nI 30) hX dX8_put_47 (by decide) rfl ?_
          refine V_iload_n (pc' := 50) hX dX8_put_49 rfl rfl ?_
          refine V_imulN (pc' := 51) hX dX8_put_50 rfl ?_
          refine V_aload_n (pc' := 52) hX dX8_put_51 rfl rfl ?_
          refine V_get (pc' := 55) hX dX8_put_52 hM.1 rfl inX8 3 (by decide) wF_X8_13 rfl rfl ?_
          refine V_iload_n (pc' := 56) hX dX8_put_55 rfl rfl ?_
          refine V_ialdN (pc' := 57) (v := nI (M i).length) hX dX8_put_56 hM.2.2.1 (by omega) (by omega) (by rw [(hS i (by omega)).1]) rfl ?_
          refine V_iaddN (pc' := 58) hX dX8_put_57 rfl ?_
          refine V_iload_n (pc' := 59) hX dX8_put_58 rfl rfl ?_
          refine V_iastN (pc' := 60) hX dX8_put_59 hM.2.2.2.1 (by omega) (by omega) rfl ?_
          refine V.gen (fun h1 eh1 => ?_)
          have fh1 := fr.of_up eh1
          have hM := hM.u3 (up_at eh1) fh1
          have f0 := f0.tr (fh1.mono (lo' := y) (hi' := y + 19) (by omega) (by omega))
          refine V_aload_n (pc' := 61) hX dX8_put_60 rfl rfl ?_
          refine V_get (pc' := 64) hX dX8_put_61 hM.1 rfl inX8 3 (by decide) wF_X8_13 rfl rfl ?_
          refine V_iload_n (pc' := 65) hX dX8_put_64 rfl rfl ?_
          refine V_dup2_11 (pc' := 66) hX dX8_put_65 rfl rfl rfl ?_
          refine V_ialdN (pc' := 67) (v := nI (M i).length) hX dX8_put_66 hM.2.2.1 (by omega) (by omega) (by rw [(hS i (by omega)).1]) rfl ?_
          refine V_iconst (pc' := 68) (v := nI 1) hX dX8_put_67 (by decide) rfl ?_
          refine V_iaddN (pc' := 69) hX dX8_put_68 rfl ?_
          refine V_iastN (pc' := 70) hX dX8_put_69 hM.2.2.1 (by omega) (by omega) rfl ?_
          refine V.gen (fun h2 eh2 => ?_)
          have fh2 := fr.of_up eh2
          have hM := hM.u2 (up_at eh2) fh2
          have f0 := f0.tr (fh2.mono (lo' := y) (hi' := y + 19) (by omega) (by omega))
          refine V_iconst (pc' := 71) (v := nI 1) hX dX8_put_70 (by decide) rfl ?_
          refine V_zret hX hR dX8_put_71 (by rfl) ?_
          exact ⟨rfl, f0, Or.inr ⟨i, k, rfl, hi, hk, rfl, hnm, by omega, rfl, hM⟩⟩
        · refine V_iconst (pc' := 42) (v := nI 0) hX dX8_put_41 (by decide) rfl ?_
          refine V_zret hX hR dX8_put_42 (by rfl) ?_
          refine ⟨rfl, f0, Or.inl ⟨Or.inr (Or.inr ⟨i, k, rfl, hi, hk, rfl, Or.inr ?_⟩), rfl, hM⟩⟩
          omega
set_option maxRecDepth 100000 in
set_option maxHeartbeats 4000000 in
theorem c_Md_take {G : Gd} {z : Nat} {h : AH} {y : Nat} {th : Int32} {mk : Nat} {ts : Nat} {fs : Nat} {kd : Nat} {p : Nat} {q : Nat} {len : Nat} {ks : Nat} {fm : Nat} {cm : Nat} {be : Nat} {dz : Nat → Bool} {mn : Nat → Nat} {st : Nat → Nat} {tn : Nat → Nat} {tv : Nat → Nat} {fn : Nat → Nat} {fv : Nat → Nat} {on : Nat → Nat} {tw : Nat → Nat} {bf : Nat → Nat} {g1 : Nat → Nat} {g2 : Nat → Nat} {g3 : Nat → Nat} {sv : Nat → Nat} {fa : Nat → Int32} {fy : Nat → Nat} {bs : Nat → Nat} {cf : Nat → Nat} {av : Nat → Bool} {M L : Nat → List Nat} {W F : Nat → Nat} (r v : Int32) (hI : mdI mk ts fs kd p q av M L W F dz mn st tn tv fn fv) (hM : mdC G h y th mk ts fs kd p q len ks fm cm be dz mn st tn tv fn fv on tw bf g1 g2 g3 sv fa fy bs cf)  : Ct G yX8_take cX8_take 3 (some .boolean) 2 0 0 [.ref y, .int r, .int v] z h (fun r' z' h' => z' = z ∧ fr y (y + 19) h h' ∧ (((avI av r = false ∨ ∃ i, r = nI i ∧ av i = true ∧ ∀ k, k ∈ M i → v ≠ nI k) ∧ r' = some (.int (bI false)) ∧ mdC G h' y (nI 0) mk ts fs kd p q len ks fm cm be dz mn st tn tv fn fv on tw bf g1 g2 g3 sv fa fy bs cf) ∨ ∃ i j, r = nI i ∧ av i = true ∧ j < (M i).length ∧ v = nI ((M i).getD j 0) ∧ r' = some (.int (bI true)) ∧ mdC G h' y (nI 0) mk ts fs kd p q len ks fm cm be dz (va_up mn i ((M i).length - 1)) (va_up st (30 * i + j) ((M i).getD ((M i).length - 1) 0)) tn tv fn fv on tw bf g1 g2 g3 sv fa fy bs cf)) := by
  refine Ct.of (lv := [_, _, _]) (by decide) (Nat.le_of_ble_eq_true rfl) rfl ?_
  rintro X rfl hX hR hnm
  obtain ⟨⟨hmk, hav, hdz⟩, hS, hT, hK, hL, hmo, hemp⟩ := id hI
  refine V_aload_n (pc' := 1) hX dX8_take_0 rfl rfl ?_
  refine V_iconst (pc' := 2) (v := nI 0) hX dX8_take_1 (by decide) rfl ?_
  refine V_put (pc' := 5) (fs' := [_, _, _, _, _, _, _, _, _, _, _, _, _, _, _, _, _, _, _, _, _, _, _, _, _, _, _, _, _, _]) (ty0 := tyX8) hX dX8_take_2 hM.1 rfl inX8 tyX8_ok nmX8 0 (by decide) wF_X8_75 rfl (tyX8_ok 0 (by decide)) rfl rfl (Nat.le_of_ble_eq_true rfl) rfl rfl ?_
  refine V.gen (fun h0 eh0 => ?_)
  have f0 := fr.of_up eh0
  have hM := hM.u0 (up_at eh0) f0
  have f0 := f0.mono (lo' := y) (hi' := y + 19) (by omega) (by omega)
  refine V_aload_n (pc' := 6) hX dX8_take_5 rfl rfl ?_
  refine V_iload_n (pc' := 7) hX dX8_take_6 rfl rfl ?_
  refine V_callV (nA := 1) (pc' := 10) (k' := 0) (n' := 0) hX dX8_take_7 (c_Md_is r hI hM) hM.1 rfl wM_X8_85 wI_X8_is wL_X8_is wN_X8 wC_X8_is rfl hy_X8_is rfl (Nat.le_of_ble_eq_true rfl) (by decide) (by omega) rfl rfl (by omega) rfl (by omega) rfl ?_
  rintro _ z h0 ⟨rfl, rfl, rfl⟩
  refine V.stk (st' := [_]) rfl ?_
  refine V_if_eqB (pt := 23) (pc' := 13) hX dX8_take_10 rfl rfl (fun c10 => ?_) (fun c10 => ?_)
  · refine V_iconst (pc' := 24) (v := nI 0) hX dX8_take_23 (by decide) rfl ?_
    refine V_zret hX hR dX8_take_24 (by rfl) ?_
    exact ⟨rfl, f0, Or.inl ⟨Or.inl c10, rfl, hM⟩⟩
  · obtain ⟨i, hi31, rfl, hi⟩ := avI_yes c10
    have him := hav i hi
    have hil := (hS i (by omega)).2.1
    have his := (hS i (by omega)).2.2.1
    have hiv := (hS i (by omega)).2.2.2.2
    refine V_aload_n (pc' := 14) hX dX8_take_13 rfl rfl ?_
    refine V_iload_n (pc' := 15) hX dX8_take_14 rfl rfl ?_
    refine V_iload_n (pc' := 16) hX dX8_take_15 rfl rfl ?_
    refine V_callV (nA := 2) (pc' := 19) (k' := 0) (n' := 0) hX dX8_take_16 (c_Md_place i v (by omega) hS hM) hM.1 rfl wM_X8_93 wI_X8_place wL_X8_place wN_X8 wC_X8_place rfl hy_X8_place rfl (Nat.le_of_ble_eq_true rfl) (by decide) (by omega) rfl rfl (by omega) rfl (by omega) rfl ?_
    rintro _ z h0 ⟨w, rfl, rfl, rfl, hw⟩
    refine V.stk (st' := [_]) rfl ?_
    refine V_iconst (pc' := 20) (v := (-1)) hX dX8_take_19 (by decide) rfl ?_
    refine V_icmp_ne (pt := 25) (pc' := 23) hX dX8_take_20 rfl rfl (fun c20 => ?_) (fun c20 => ?_)
    · obtain ⟨k, hkm, rfl⟩ : ∃ k, k ∈ M i ∧ v = nI k := by
        rcases hw with ⟨hw, -⟩ | ⟨-, hw⟩
        · exact absurd hw c20
        · exact hw
      have hk := hiv k hkm
      obtain ⟨j1, hj1, ej1⟩ := mem_getD.mp hkm
      have hpos : 1 ≤ (M i).length := by omega
      refine V_aload_n (pc' := 26) hX dX8_take_25 rfl rfl ?_
      refine V_get (pc' := 29) hX dX8_take_26 hM.1 rfl inX8 3 (by decide) wF_X8_13 rfl rfl ?_
      refine V_iload_n (pc' := 30) hX dX8_take_29 rfl rfl ?_
      refine V_dup2_11 (pc' := 31) hX dX8_take_30 rfl rfl rfl ?_
      refine V_ialdN (pc' := 32) (v := nI (M i).length) hX dX8_take_31 hM.2.2.1 (by omega) (by omega) (by rw [(hS i (by omega)).1]) rfl ?_
      refine V_iconst (pc' := 33) (v := nI 1) hX dX8_take_32 (by decide) rfl ?_
      refine V_isubN (pc' := 34) hX dX8_take_33 (by omega) rfl ?_
      refine V_iastN (pc' := 35) hX dX8_take_34 hM.2.2.1 (by omega) (by omega) rfl ?_
      refine V.gen (fun h1 eh1 => ?_)
      have fh1 := fr.of_up eh1
      have hM := hM.u2 (up_at eh1) fh1
      have f0 := f0.tr (fh1.mono (lo' := y) (hi' := y + 19) (by omega) (by omega))
      refine V_aload_n (pc' := 36) hX dX8_take_35 rfl rfl ?_
      refine V_get (pc' := 39) hX dX8_take_36 hM.1 rfl inX8 4 (by decide) wF_X8_17 rfl rfl ?_
      refine V_bipush (pc' := 41) (v := nI 30) hX dX8_take_39 (by decide) rfl ?_
      refine V_iload_n (pc' := 42) hX dX8_take_41 rfl rfl ?_
      refine V_imulN (pc' := 43) hX dX8_take_42 rfl ?_
      refine V_aload_n (pc' := 44) hX dX8_take_43 rfl rfl ?_
      refine V_iload_n (pc' := 45) hX dX8_take_44 rfl rfl ?_
      refine V_iload_n (pc' := 46) hX dX8_take_45 rfl rfl ?_
      refine V_callV (nA := 2) (pc' := 49) (k' := 0) (n' := 0) hX dX8_take_46 (c_Md_place0 i k (M i).length (by omega) hil (by omega) (fun j hj => by rw [his j hj]; have := hiv _ (getD_mem hj); omega) ⟨j1, hj1, by rw [his j1 hj1]; exact ej1⟩ hM) hM.1 rfl wM_X8_97 wI_X8_place0 wL_X8_place0 wN_X8 wC_X8_place0 rfl hy_X8_place0 rfl (Nat.le_of_ble_eq_true rfl) (by decide) (by omega) rfl rfl (by omega) rfl (by omega) rfl ?_
      rintro _ z h1 ⟨j, rfl, rfl, rfl, hj, ej⟩
      rw [his j hj] at ej
      refine V.stk (st' := [_, _, _]) rfl ?_
      refine V_iaddN (pc' := 50) hX dX8_take_49 rfl ?_
      refine V_aload_n (pc' := 51) hX dX8_take_50 rfl rfl ?_
      refine V_get (pc' := 54) hX dX8_take_51 hM.1 rfl inX8 4 (by decide) wF_X8_17 rfl rfl ?_
      refine V_bipush (pc' := 56) (v := nI 30) hX dX8_take_54 (by decide) rfl ?_
      refine V_iload_n (pc' := 57) hX dX8_take_56 rfl rfl ?_
      refine V_imulN (pc' := 58) hX dX8_take_57 rfl ?_
      refine V_aload_n (pc' := 59) hX dX8_take_58 rfl rfl ?_
      refine V_get (pc' := 62) hX dX8_take_59 hM.1 rfl inX8 3 (by decide) wF_X8_13 rfl rfl ?_
      refine V_iload_n (pc' := 63) hX dX8_take_62 rfl rfl ?_
      refine V_ialdN (pc' := 64) (v := nI ((M i).length - 1)) hX dX8_take_63 hM.2.2.1 (by omega) (by omega) (by rw [vu_at]) rfl ?_
      refine V_iaddN (pc' := 65) hX dX8_take_64 rfl ?_
      refine V_ialdN (pc' := 66) (v := nI ((M i).getD ((M i).length - 1) 0)) hX dX8_take_65 hM.2.2.2.1 (by omega) (by omega) (by rw [his _ (by omega)]) rfl ?_
      refine V_iastN (pc' := 67) hX dX8_take_66 hM.2.2.2.1 (by omega) (by omega) rfl ?_
      refine V.gen (fun h2 eh2 => ?_)
      have fh2 := fr.of_up eh2
      have hM := hM.u3 (up_at eh2) fh2
      have f0 := f0.tr (fh2.mono (lo' := y) (hi' := y + 19) (by omega) (by omega))
      refine V_iconst (pc' := 68) (v := nI 1) hX dX8_take_67 (by decide) rfl ?_
      refine V_zret hX hR dX8_take_68 (by rfl) ?_
      exact ⟨rfl, f0, Or.inr ⟨i, j, rfl, hi, hj, by rw [ej], rfl, hM⟩⟩
    · refine V_iconst (pc' := 24) (v := nI 0) hX dX8_take_23 (by decide) rfl ?_
      refine V_zret hX hR dX8_take_24 (by rfl) ?_
      refine ⟨rfl, f0, Or.inl ⟨Or.inr ⟨i, rfl, hi, ?_⟩, rfl, hM⟩⟩
      rcases hw with ⟨-, hw⟩ | ⟨hw, -⟩
      · exact hw
      · exact absurd c20 hw
set_option maxRecDepth 100000 in
set_option maxHeartbeats 4000000 in
theorem c_Md_weightOf {G : Gd} {z : Nat} {h : AH} {y : Nat} {th : Int32} {mk : Nat} {ts : Nat} {fs : Nat} {kd : Nat} {p : Nat} {q : Nat} {len : Nat} {ks : Nat} {fm : Nat} {cm : Nat} {be : Nat} {dz : Nat → Bool} {mn : Nat → Nat} {st : Nat → Nat} {tn : Nat → Nat} {tv : Nat → Nat} {fn : Nat → Nat} {fv : Nat → Nat} {on : Nat → Nat} {tw : Nat → Nat} {bf : Nat → Nat} {g1 : Nat → Nat} {g2 : Nat → Nat} {g3 : Nat → Nat} {sv : Nat → Nat} {fa : Nat → Int32} {fy : Nat → Nat} {bs : Nat → Nat} {cf : Nat → Nat} {W : Nat → Nat} (v : Nat) (hv : v < 1000000) (hT : mTok kd ts tn tv W) (hkd : kd ≤ 5) (hM : mdC G h y th mk ts fs kd p q len ks fm cm be dz mn st tn tv fn fv on tw bf g1 g2 g3 sv fa fy bs cf)  : Ct G yX8_weightOf cX8_weightOf 3 (some .int) 0 0 0 [.ref y, .int (nI v)] z h (fun r' z' h' => r' = some (.int (nI (W v))) ∧ z' = z ∧ h' = h) := by
  refine Ct.of (lv := [_, _, _]) (by decide) (Nat.le_of_ble_eq_true rfl) rfl ?_
  rintro X rfl hX hR hnm
  obtain ⟨t1, t2, t3, t4, t5⟩ := id hT
  refine V_aload_n (pc' := 1) hX dX8_weightOf_0 rfl rfl ?_
  refine V_get (pc' := 4) hX dX8_weightOf_1 hM.1 rfl inX8 11 (by decide) wF_X8_32 rfl rfl ?_
  refine V_iconst (pc' := 5) (v := nI 5) hX dX8_weightOf_4 (by decide) rfl ?_
  refine V_icmp_eqN (pt := 10) (pc' := 8) hX dX8_weightOf_5 (by omega) (by omega) rfl rfl (fun c5 => ?_) (fun c5 => ?_)
  · refine V_iconst (pc' := 11) (v := nI 0) hX dX8_weightOf_10 (by decide) rfl ?_
    refine V_istore_n (pc' := 12) (lv' := [_, _, _]) hX dX8_weightOf_11 (Nat.le_of_ble_eq_true rfl) rfl rfl ?_
    have lp : ∀ (μ i : Nat), i ≤ ts → (∀ j, j < i → tn j ≠ v) → ts - i < μ → V X 0 0 z h 12 [some (.ref y), some (.int (nI v)), some (.int (nI i))] [] := by
      intro μ
      induction μ with
      | zero => intros; omega
      | succ μ ih =>
        intro i b1 b2 b3
        refine V_iload_n (pc' := 13) hX dX8_weightOf_12 rfl rfl ?_
        refine V_aload_n (pc' := 14) hX dX8_weightOf_13 rfl rfl ?_
        refine V_get (pc' := 17) hX dX8_weightOf_14 hM.1 rfl inX8 5 (by decide) wF_X8_100 rfl rfl ?_
        refine V_icmp_geN (pt := 43) (pc' := 20) hX dX8_weightOf_17 (by omega) (by omega) rfl rfl (fun c17 => ?_) (fun c17 => ?_)
        · refine V_iconst (pc' := 44) (v := nI 1) hX dX8_weightOf_43 (by decide) rfl ?_
          refine V_iret hX hR dX8_weightOf_44 ?_
          refine ⟨?_, rfl, rfl⟩
          rw [t2]; unfold wtF; rw [if_pos c5, tget_no.mpr (fun j hj => b2 j (by omega))]; rfl
        · refine V_aload_n (pc' := 21) hX dX8_weightOf_20 rfl rfl ?_
          refine V_get (pc' := 24) hX dX8_weightOf_21 hM.1 rfl inX8 6 (by decide) wF_X8_20 rfl rfl ?_
          refine V_iload_n (pc' := 25) hX dX8_weightOf_24 rfl rfl ?_
          refine V_ialdN (pc' := 26) hX dX8_weightOf_25 hM.2.2.2.2.1 (by omega) (by omega) rfl rfl ?_
          refine V_iload_n (pc' := 27) hX dX8_weightOf_26 rfl rfl ?_
          refine V_icmp_neN (pt := 37) (pc' := 30) hX dX8_weightOf_27 (by have := t3 i (by omega); omega) (by omega) rfl rfl (fun c27 => ?_) (fun c27 => ?_)
          · refine V_iincN (pc' := 40) (j := 1) (lv' := [_, _, _]) hX dX8_weightOf_37 rfl rfl rfl rfl ?_
            refine V_goto (pc' := 12) hX dX8_weightOf_40 rfl ?_
            exact ih (i + 1) (by omega) (fun j hj => by
              by_cases e : j = i
              · rw [e]; exact c27
              · exact b2 j (by omega)) (by omega)
          · refine V_aload_n (pc' := 31) hX dX8_weightOf_30 rfl rfl ?_
            refine V_get (pc' := 34) hX dX8_weightOf_31 hM.1 rfl inX8 7 (by decide) wF_X8_23 rfl rfl ?_
            refine V_iload_n (pc' := 35) hX dX8_weightOf_34 rfl rfl ?_
            refine V_ialdN (pc' := 36) hX dX8_weightOf_35 hM.2.2.2.2.2.1 (by omega) (by omega) rfl rfl ?_
            refine V_iret hX hR dX8_weightOf_36 ?_
            refine ⟨?_, rfl, rfl⟩
            rw [t2]; unfold wtF; rw [if_pos c5, ← c27, tget_first t4 (by omega)]; rfl
    exact lp (ts + 1) 0 (by omega) (fun j hj => by omega) (by omega)
  · refine V_iconst (pc' := 9) (v := nI 1) hX dX8_weightOf_8 (by decide) rfl ?_
    refine V_iret hX hR dX8_weightOf_9 ?_
    refine ⟨?_, rfl, rfl⟩
    rw [t2]; unfold wtF; rw [if_neg c5]
set_option maxRecDepth 100000 in
set_option maxHeartbeats 4000000 in
theorem c_Md_freqOf {G : Gd} {z : Nat} {h : AH} {y : Nat} {th : Int32} {mk : Nat} {ts : Nat} {fs : Nat} {kd : Nat} {p : Nat} {q : Nat} {len : Nat} {ks : Nat} {fm : Nat} {cm : Nat} {be : Nat} {dz : Nat → Bool} {mn : Nat → Nat} {st : Nat → Nat} {tn : Nat → Nat} {tv : Nat → Nat} {fn : Nat → Nat} {fv : Nat → Nat} {on : Nat → Nat} {tw : Nat → Nat} {bf : Nat → Nat} {g1 : Nat → Nat} {g2 : Nat → Nat} {g3 : Nat → Nat} {sv : Nat → Nat} {fa : Nat → Int32} {fy : Nat → Nat} {bs : Nat → Nat} {cf : Nat → Nat} {F : Nat → Nat} (v : Int32) (hK : mKok fs fn fv F) (hM : mdC G h y th mk ts fs kd p q len ks fm cm be dz mn st tn tv fn fv on tw bf g1 g2 g3 sv fa fy bs cf)  : Ct G yX8_frequencyOf cX8_frequencyOf 3 (some .int) 0 0 0 [.ref y, .int v] z h (fun r' z' h' => ∃ w, r' = some (.int w) ∧ z' = z ∧ h' = h ∧ ((∃ k, k < 2 ^ 31 ∧ v = nI k ∧ w = nI (F k)) ∨ (v.toInt < 0 ∧ w = 0))) := by
  refine Ct.of (lv := [_, _, _]) (by decide) (Nat.le_of_ble_eq_true rfl) rfl ?_
  rintro X rfl hX hR hnm
  obtain ⟨k1, k2, k3, k4, k5⟩ := id hK
  refine V_iconst (pc' := 1) (v := nI 0) hX dX8_frequencyOf_0 (by decide) rfl ?_
  refine V_istore_n (pc' := 2) (lv' := [_, _, _]) hX dX8_frequencyOf_1 (Nat.le_of_ble_eq_true rfl) rfl rfl ?_
  have lp : ∀ (μ i : Nat), i ≤ fs → (∀ j, j < i → nI (fn j) ≠ v) → fs - i < μ → V X 0 0 z h 2 [some (.ref y), some (.int v), some (.int (nI i))] [] := by
    intro μ
    induction μ with
    | zero => intros; omega
    | succ μ ih =>
      intro i b1 b2 b3
      refine V_iload_n (pc' := 3) hX dX8_frequencyOf_2 rfl rfl ?_
      refine V_aload_n (pc' := 4) hX dX8_frequencyOf_3 rfl rfl ?_
      refine V_get (pc' := 7) hX dX8_frequencyOf_4 hM.1 rfl inX8 8 (by decide) wF_X8_103 rfl rfl ?_
      refine V_icmp_geN (pt := 33) (pc' := 10) hX dX8_frequencyOf_7 (by omega) (by omega) rfl rfl (fun c7 => ?_) (fun c7 => ?_)
      · refine V_iconst (pc' := 34) (v := nI 0) hX dX8_frequencyOf_33 (by decide) rfl ?_
        refine V_iret hX hR dX8_frequencyOf_34 ?_
        refine ⟨_, rfl, rfl, rfl, ?_⟩
        by_cases hv : v.toInt < 0
        · exact Or.inr ⟨hv, rfl⟩
        obtain ⟨k, hk, rfl⟩ := nI_of (x := v) (by rw [i32_lt]; exact hv)
        refine Or.inl ⟨k, hk, rfl, ?_⟩
        rw [k2]; unfold tF; rw [tget_no.mpr (fun j hj e => b2 j (by omega) (by rw [e]))]; rfl
      · refine V_aload_n (pc' := 11) hX dX8_frequencyOf_10 rfl rfl ?_
        refine V_get (pc' := 14) hX dX8_frequencyOf_11 hM.1 rfl inX8 9 (by decide) wF_X8_26 rfl rfl ?_
        refine V_iload_n (pc' := 15) hX dX8_frequencyOf_14 rfl rfl ?_
        refine V_ialdN (pc' := 16) hX dX8_frequencyOf_15 hM.2.2.2.2.2.2.1 (by omega) (by omega) rfl rfl ?_
        refine V_iload_n (pc' := 17) hX dX8_frequencyOf_16 rfl rfl ?_
        refine V_icmp_ne (pt := 27) (pc' := 20) hX dX8_frequencyOf_17 rfl rfl (fun c17 => ?_) (fun c17 => ?_)
        · refine V_iincN (pc' := 30) (j := 1) (lv' := [_, _, _]) hX dX8_frequencyOf_27 rfl rfl rfl rfl ?_
          refine V_goto (pc' := 2) hX dX8_frequencyOf_30 rfl ?_
          exact ih (i + 1) (by omega) (fun j hj => by
            by_cases e : j = i
            · rw [e]; exact c17
            · exact b2 j (by omega)) (by omega)
        · refine V_aload_n (pc' := 21) hX dX8_frequencyOf_20 rfl rfl ?_
          refine V_get (pc' := 24) hX dX8_frequencyOf_21 hM.1 rfl inX8 10 (by decide) wF_X8_29 rfl rfl ?_
          refine V_iload_n (pc' := 25) hX dX8_frequencyOf_24 rfl rfl ?_
          refine V_ialdN (pc' := 26) hX dX8_frequencyOf_25 hM.2.2.2.2.2.2.2.1 (by omega) (by omega) rfl rfl ?_
          refine V_iret hX hR dX8_frequencyOf_26 ?_
          have := k3 i (by omega)
          refine ⟨_, rfl, rfl, rfl, Or.inl ⟨fn i, by omega, c17.symm, ?_⟩⟩
          rw [k2]; unfold tF; rw [tget_first k4 (by omega)]; rfl
  exact lp (fs + 1) 0 (by omega) (fun j hj => by omega) (by omega)
set_option maxRecDepth 100000 in
set_option maxHeartbeats 4000000 in
theorem c_Md_isAhead {G : Gd} {z : Nat} {h : AH} {y : Nat} {th : Int32} {mk : Nat} {ts : Nat} {fs : Nat} {kd : Nat} {p : Nat} {q : Nat} {len : Nat} {ks : Nat} {fm : Nat} {cm : Nat} {be : Nat} {dz : Nat → Bool} {mn : Nat → Nat} {st : Nat → Nat} {tn : Nat → Nat} {tv : Nat → Nat} {fn : Nat → Nat} {fv : Nat → Nat} {on : Nat → Nat} {tw : Nat → Nat} {bf : Nat → Nat} {g1 : Nat → Nat} {g2 : Nat → Nat} {g3 : Nat → Nat} {sv : Nat → Nat} {fa : Nat → Int32} {fy : Nat → Nat} {bs : Nat → Nat} {cf : Nat → Nat} {F : Nat → Nat} (u v : Nat) (hu : u < 1000000) (hv : v < 1000000) (hK : mKok fs fn fv F) (hM : mdC G h y th mk ts fs kd p q len ks fm cm be dz mn st tn tv fn fv on tw bf g1 g2 g3 sv fa fy bs cf)  : Ct G yX8_isAhead cX8_isAhead 5 (some .boolean) 1 0 0 [.ref y, .int (nI u), .int (nI v)] z h (fun r' z' h' => r' = some (.int (bI (decide (kyF F u < kyF F v)))) ∧ z' = z ∧ h' = h) := by
  refine Ct.of (lv := [_, _, _, _, _]) (by decide) (Nat.le_of_ble_eq_true rfl) rfl ?_
  rintro X rfl hX hR hnm
  have fu := fqB hK u
  have fv9 := fqB hK v
  refine V_aload_n (pc' := 1) hX dX8_isAhead_0 rfl rfl ?_
  refine V_iload_n (pc' := 2) hX dX8_isAhead_1 rfl rfl ?_
  refine V_callV (nA := 1) (pc' := 5) (k' := 0) (n' := 0) hX dX8_isAhead_2 (c_Md_freqOf (nI u) hK hM) hM.1 rfl wM_X8_106 wI_X8_frequencyOf wL_X8_frequencyOf wN_X8 wC_X8_frequencyOf rfl hy_X8_frequencyOf rfl (Nat.le_of_ble_eq_true rfl) (by decide) (by omega) rfl rfl (by omega) rfl (by omega) rfl ?_
  rintro _ z h ⟨w1, rfl, rfl, rfl, hw1⟩
  have hw1 : w1 = nI (F u) := by
    rcases hw1 with ⟨k, hk, e, rfl⟩ | ⟨e, -⟩
    · rw [nI_eq (by omega) hk] at e; rw [e]
    · rw [nI_toInt (by omega)] at e; omega
  subst hw1
  refine V.stk (st' := [_]) rfl ?_
  refine V_istore_n (pc' := 6) (lv' := [_, _, _, _, _]) hX dX8_isAhead_5 (Nat.le_of_ble_eq_true rfl) rfl rfl ?_
  refine V_aload_n (pc' := 7) hX dX8_isAhead_6 rfl rfl ?_
  refine V_iload_n (pc' := 8) hX dX8_isAhead_7 rfl rfl ?_
  refine V_callV (nA := 1) (pc' := 11) (k' := 0) (n' := 0) hX dX8_isAhead_8 (c_Md_freqOf (nI v) hK hM) hM.1 rfl wM_X8_106 wI_X8_frequencyOf wL_X8_frequencyOf wN_X8 wC_X8_frequencyOf rfl hy_X8_frequencyOf rfl (Nat.le_of_ble_eq_true rfl) (by decide) (by omega) rfl rfl (by omega) rfl (by omega) rfl ?_
  rintro _ z h ⟨w2, rfl, rfl, rfl, hw2⟩
  have hw2 : w2 = nI (F v) := by
    rcases hw2 with ⟨k, hk, e, rfl⟩ | ⟨e, -⟩
    · rw [nI_eq (by omega) hk] at e; rw [e]
    · rw [nI_toInt (by omega)] at e; omega
  subst hw2
  refine V.stk (st' := [_]) rfl ?_
  refine V_istore (pc' := 13) (lv' := [_, _, _, _, _]) hX dX8_isAhead_11 (Nat.le_of_ble_eq_true rfl) rfl rfl ?_
  refine V_iload_n (pc' := 14) hX dX8_isAhead_13 rfl rfl ?_
  refine V_iload (pc' := 16) hX dX8_isAhead_14 rfl rfl ?_
  refine V_icmp_eqN (pt := 33) (pc' := 19) hX dX8_isAhead_16 (by omega) (by omega) rfl rfl (fun c16 => ?_) (fun c16 => ?_)
  · refine V_iload_n (pc' := 34) hX dX8_isAhead_33 rfl rfl ?_
    refine V_iload_n (pc' := 35) hX dX8_isAhead_34 rfl rfl ?_
    refine V_icmp_geN (pt := 42) (pc' := 38) hX dX8_isAhead_35 (by omega) (by omega) rfl rfl (fun c35 => ?_) (fun c35 => ?_)
    · refine V_iconst (pc' := 43) (v := nI 0) hX dX8_isAhead_42 (by decide) rfl ?_
      refine V_zret hX hR dX8_isAhead_43 (by rfl) ?_
      unfold kyF
      first
        | (rw [decide_eq_true (by omega)]; exact ⟨rfl, rfl, rfl⟩)
        | (rw [decide_eq_false (by omega)]; exact ⟨rfl, rfl, rfl⟩)
    · refine V_iconst (pc' := 39) (v := nI 1) hX dX8_isAhead_38 (by decide) rfl ?_
      refine V_goto (pc' := 43) hX dX8_isAhead_39 rfl ?_
      refine V_zret hX hR dX8_isAhead_43 (by rfl) ?_
      unfold kyF
      first
        | (rw [decide_eq_true (by omega)]; exact ⟨rfl, rfl, rfl⟩)
        | (rw [decide_eq_false (by omega)]; exact ⟨rfl, rfl, rfl⟩)
  · refine V_iload_n (pc' := 20) hX dX8_isAhead_19 rfl rfl ?_
    refine V_iload (pc' := 22) hX dX8_isAhead_20 rfl rfl ?_
    refine V_icmp_geN (pt := 29) (pc' := 25) hX dX8_isAhead_22 (by omega) (by omega) rfl rfl (fun c22 => ?_) (fun c22 => ?_)
    · refine V_iconst (pc' := 30) (v := nI 0) hX dX8_isAhead_29 (by decide) rfl ?_
      refine V_goto (pc' := 43) hX dX8_isAhead_30 rfl ?_
      refine V_zret hX hR dX8_isAhead_43 (by rfl) ?_
      unfold kyF
      first
        | (rw [decide_eq_true (by omega)]; exact ⟨rfl, rfl, rfl⟩)
        | (rw [decide_eq_false (by omega)]; exact ⟨rfl, rfl, rfl⟩)
    · refine V_iconst (pc' := 26) (v := nI 1) hX dX8_isAhead_25 (by decide) rfl ?_
      refine V_goto (pc' := 43) hX dX8_isAhead_26 rfl ?_
      refine V_zret hX hR dX8_isAhead_43 (by rfl) ?_
      unfold kyF
      first
        | (rw [decide_eq_true (by omega)]; exact ⟨rfl, rfl, rfl⟩)
        | (rw [decide_eq_false (by omega)]; exact ⟨rfl, rfl, rfl⟩)
set_option maxRecDepth 100000 in
set_option maxHeartbeats 4000000 in
theorem c_Md_frequency {G : Gd} {z : Nat} {h : AH} {y : Nat} {th : Int32} {mk : Nat} {ts : Nat} {fs : Nat} {kd : Nat} {p : Nat} {q : Nat} {len : Nat} {ks : Nat} {fm : Nat} {cm : Nat} {be : Nat} {dz : Nat → Bool} {mn : Nat → Nat} {st : Nat → Nat} {tn : Nat → Nat} {tv : Nat → Nat} {fn : Nat → Nat} {fv : Nat → Nat} {on : Nat → Nat} {tw : Nat → Nat} {bf : Nat → Nat} {g1 : Nat → Nat} {g2 : Nat → Nat} {g3 : Nat → Nat} {sv : Nat → Nat} {fa : Nat → Int32} {fy : Nat → Nat} {bs : Nat → Nat} {cf : Nat → Nat} {av : Nat → Bool} {M L : Nat → List Nat} {W F : Nat → Nat} (v : Int32) (hI : mdI mk ts fs kd p q av M L W F dz mn st tn tv fn fv) (hM : mdC G h y th mk ts fs kd p q len ks fm cm be dz mn st tn tv fn fv on tw bf g1 g2 g3 sv fa fy bs cf)  : Ct G yX8_frequency cX8_frequency 2 (some .int) 1 0 0 [.ref y, .int v] z h (fun r' z' h' => z' = z ∧ fr y (y + 19) h h' ∧ ∃ w, r' = some (.int w) ∧ ((∃ k, k < 2 ^ 31 ∧ v = nI k ∧ w = nI (F k)) ∨ (v.toInt < 0 ∧ w = 0)) ∧ mdC G h' y (nI 0) mk ts fs kd p q len ks fm cm be dz mn st tn tv fn fv on tw bf g1 g2 g3 sv fa fy bs cf) := by
  refine Ct.of (lv := [_, _]) (by decide) (Nat.le_of_ble_eq_true rfl) rfl ?_
  rintro X rfl hX hR hnm
  obtain ⟨⟨hmk, hav, hdz⟩, hS, hT, hK, hL, hmo, hemp⟩ := id hI
  refine V_aload_n (pc' := 1) hX dX8_frequency_0 rfl rfl ?_
  refine V_iconst (pc' := 2) (v := nI 0) hX dX8_frequency_1 (by decide) rfl ?_
  refine V_put (pc' := 5) (fs' := [_, _, _, _, _, _, _, _, _, _, _, _, _, _, _, _, _, _, _, _, _, _, _, _, _, _, _, _, _, _]) (ty0 := tyX8) hX dX8_frequency_2 hM.1 rfl inX8 tyX8_ok nmX8 0 (by decide) wF_X8_75 rfl (tyX8_ok 0 (by decide)) rfl rfl (Nat.le_of_ble_eq_true rfl) rfl rfl ?_
  refine V.gen (fun h0 eh0 => ?_)
  have f0 := fr.of_up eh0
  have hM := hM.u0 (up_at eh0) f0
  have f0 := f0.mono (lo' := y) (hi' := y + 19) (by omega) (by omega)
  refine V_aload_n (pc' := 6) hX dX8_frequency_5 rfl rfl ?_
  refine V_iload_n (pc' := 7) hX dX8_frequency_6 rfl rfl ?_
  refine V_callV (nA := 1) (pc' := 10) (k' := 0) (n' := 0) hX dX8_frequency_7 (c_Md_freqOf v hK hM) hM.1 rfl wM_X8_106 wI_X8_frequencyOf wL_X8_frequencyOf wN_X8 wC_X8_frequencyOf rfl hy_X8_frequencyOf rfl (Nat.le_of_ble_eq_true rfl) (by decide) (by omega) rfl rfl (by omega) rfl (by omega) rfl ?_
  rintro _ z h0 ⟨w, rfl, rfl, rfl, hw⟩
  refine V.stk (st' := [_]) rfl ?_
  refine V_iret hX hR dX8_frequency_10 ?_
  exact ⟨rfl, f0, w, rfl, hw, hM⟩
set_option maxRecDepth 100000 in
set_option maxHeartbeats 4000000 in
theorem c_Md_weight {G : Gd} {z : Nat} {h : AH} {y : Nat} {th : Int32} {mk : Nat} {ts : Nat} {fs : Nat} {kd : Nat} {p : Nat} {q : Nat} {len : Nat} {ks : Nat} {fm : Nat} {cm : Nat} {be : Nat} {dz : Nat → Bool} {mn : Nat → Nat} {st : Nat → Nat} {tn : Nat → Nat} {tv : Nat → Nat} {fn : Nat → Nat} {fv : Nat → Nat} {on : Nat → Nat} {tw : Nat → Nat} {bf : Nat → Nat} {g1 : Nat → Nat} {g2 : Nat → Nat} {g3 : Nat → Nat} {sv : Nat → Nat} {fa : Nat → Int32} {fy : Nat → Nat} {bs : Nat → Nat} {cf : Nat → Nat} {av : Nat → Bool} {M L : Nat → List Nat} {W F : Nat → Nat} (v w : Int32) (hI : mdI mk ts fs kd p q av M L W F dz mn st tn tv fn fv) (hM : mdC G h y th mk ts fs kd p q len ks fm cm be dz mn st tn tv fn fv on tw bf g1 g2 g3 sv fa fy bs cf)  : Ct G yX8_weight cX8_weight 4 (some .boolean) 2 0 0 [.ref y, .int v, .int w] z h (fun r' z' h' => z' = z ∧ fr y (y + 19) h h' ∧ (((isNumB v = false ∨ ¬ (1 ≤ w.toInt ∧ w.toInt ≤ 100) ∨ ∃ k, k < 1000000 ∧ v = nI k ∧ (∀ j, j < ts → tn j ≠ k) ∧ ts = 200) ∧ r' = some (.int (bI false)) ∧ mdC G h' y (nI 0) mk ts fs kd p q len ks fm cm be dz mn st tn tv fn fv on tw bf g1 g2 g3 sv fa fy bs cf) ∨ ∃ k wn i, k < 1000000 ∧ v = nI k ∧ w = nI wn ∧ 1 ≤ wn ∧ wn ≤ 100 ∧ i < 200 ∧ (∀ j, j < i → tn j ≠ k) ∧ r' = some (.int (bI true)) ∧ ((i < ts ∧ tn i = k ∧ mdC G h' y (nI 0) mk ts fs kd p q len ks fm cm be dz mn st (va_up tn i k) (va_up tv i wn) fn fv on tw bf g1 g2 g3 sv fa fy bs cf) ∨ (i = ts ∧ mdC G h' y (nI 0) mk (ts + 1) fs kd p q len ks fm cm be dz mn st (va_up tn i k) (va_up tv i wn) fn fv on tw bf g1 g2 g3 sv fa fy bs cf)))) := by
  refine Ct.of (lv := [_, _, _, _]) (by decide) (Nat.le_of_ble_eq_true rfl) rfl ?_
  rintro X rfl hX hR hnm
  obtain ⟨⟨hmk, hav, hdz⟩, hS, hT, hK, hL, hmo, hemp⟩ := id hI
  obtain ⟨t1, t2, t3, t4, t5⟩ := id hT
  obtain ⟨k1, k2, k3, k4, k5⟩ := id hK
  refine V_aload_n (pc' := 1) hX dX8_weight_0 rfl rfl ?_
  refine V_iconst (pc' := 2) (v := nI 0) hX dX8_weight_1 (by decide) rfl ?_
  refine V_put (pc' := 5) (fs' := [_, _, _, _, _, _, _, _, _, _, _, _, _, _, _, _, _, _, _, _, _, _, _, _, _, _, _, _, _, _]) (ty0 := tyX8) hX dX8_weight_2 hM.1 rfl inX8 tyX8_ok nmX8 0 (by decide) wF_X8_75 rfl (tyX8_ok 0 (by decide)) rfl rfl (Nat.le_of_ble_eq_true rfl) rfl rfl ?_
  refine V.gen (fun h0 eh0 => ?_)
  have f0 := fr.of_up eh0
  have hM := hM.u0 (up_at eh0) f0
  have f0 := f0.mono (lo' := y) (hi' := y + 19) (by omega) (by omega)
  refine V_iload_n (pc' := 6) hX dX8_weight_5 rfl rfl ?_
  refine V_callS (nA := 1) (pc' := 9) (k' := 0) (n' := 0) hX dX8_weight_6 (c_Md_isNumber v) wM_X8_90 wS_X8_isNumber wN_X8 wC_X8_isNumber rfl hy_X8_isNumber rfl (Nat.le_of_ble_eq_true rfl) (by decide) (by omega) rfl rfl (by omega) rfl (by omega) rfl ?_
  rintro _ z h0 ⟨rfl, rfl, rfl⟩
  refine V.stk (st' := [_]) rfl ?_
  refine V_if_eqB (pt := 22) (pc' := 12) hX dX8_weight_9 rfl rfl (fun c9 => ?_) (fun c9 => ?_)
  · refine V_iconst (pc' := 23) (v := nI 0) hX dX8_weight_22 (by decide) rfl ?_
    refine V_zret hX hR dX8_weight_23 (by rfl) ?_
    exact ⟨rfl, f0, Or.inl ⟨Or.inl c9, rfl, hM⟩⟩
  · obtain ⟨k, hk, rfl⟩ := isNumB_nI c9
    refine V_iload_n (pc' := 13) hX dX8_weight_12 rfl rfl ?_
    refine V_iconst (pc' := 14) (v := nI 1) hX dX8_weight_13 (by decide) rfl ?_
    refine V_bipush (pc' := 16) (v := nI 100) hX dX8_weight_14 (by decide) rfl ?_
    refine V_callS (nA := 3) (pc' := 19) (k' := 0) (n' := 0) hX dX8_weight_16 (c_Md_in w (nI 1) (nI 100)) wM_X8_81 wS_X8_in wN_X8 wC_X8_in rfl hy_X8_in rfl (Nat.le_of_ble_eq_true rfl) (by decide) (by omega) rfl rfl (by omega) rfl (by omega) rfl ?_
    rintro _ z h0 ⟨rfl, rfl, rfl⟩
    rw [show (nI 1).toInt = 1 by decide, show (nI 100).toInt = 100 by decide]
    refine V.stk (st' := [_]) rfl ?_
    refine V_if_neB (pt := 24) (pc' := 22) hX dX8_weight_19 rfl rfl (fun c19 => ?_) (fun c19 => ?_)
    · have hc := of_decide_eq_true c19
      obtain ⟨wn, hw31, rfl⟩ := nI_of (x := w) (by rw [i32_lt]; show ¬ _ < (0 : Int); omega)
      rw [nI_toInt hw31] at hc
      refine V_iconst (pc' := 25) (v := nI 0) hX dX8_weight_24 (by decide) rfl ?_
      refine V_istore_n (pc' := 26) (lv' := [_, _, _, _]) hX dX8_weight_25 (Nat.le_of_ble_eq_true rfl) rfl rfl ?_
      have lp : ∀ (μ i : Nat), i ≤ ts → (∀ j, j < i → tn j ≠ k) → ts - i < μ → V X 0 0 z h0 26 [some (.ref y), some (.int (nI k)), some (.int (nI wn)), some (.int (nI i))] [] := by
        intro μ
        induction μ with
        | zero => intros; omega
        | succ μ ih =>
          intro i b1 b2 b3
          refine V_iload_n (pc' := 27) hX dX8_weight_26 rfl rfl ?_
          refine V_aload_n (pc' := 28) hX dX8_weight_27 rfl rfl ?_
          refine V_get (pc' := 31) hX dX8_weight_28 hM.1 rfl inX8 5 (by decide) wF_X8_100 rfl rfl ?_
          refine V_icmp_geN (pt := 50) (pc' := 34) hX dX8_weight_31 (by omega) (by omega) rfl rfl (fun c31 => ?_) (fun c31 => ?_)
          · refine V_iload_n (pc' := 51) hX dX8_weight_50 rfl rfl ?_
            refine V_sipush (pc' := 54) (v := nI 200) hX dX8_weight_51 (by decide) rfl ?_
            refine V_icmp_neN (pt := 59) (pc' := 57) hX dX8_weight_54 (by omega) (by omega) rfl rfl (fun c54 => ?_) (fun c54 => ?_)
            · refine V_aload_n (pc' := 60) hX dX8_weight_59 rfl rfl ?_
              refine V_get (pc' := 63) hX dX8_weight_60 hM.1 rfl inX8 6 (by decide) wF_X8_20 rfl rfl ?_
              refine V_iload_n (pc' := 64) hX dX8_weight_63 rfl rfl ?_
              refine V_iload_n (pc' := 65) hX dX8_weight_64 rfl rfl ?_
              refine V_iastN (pc' := 66) hX dX8_weight_65 hM.2.2.2.2.1 (by omega) (by omega) rfl ?_
              refine V.gen (fun h1 eh1 => ?_)
              have fh1 := fr.of_up eh1
              have hM := hM.u4 (up_at eh1) fh1
              have f0 := f0.tr (fh1.mono (lo' := y) (hi' := y + 19) (by omega) (by omega))
              refine V_aload_n (pc' := 67) hX dX8_weight_66 rfl rfl ?_
              refine V_get (pc' := 70) hX dX8_weight_67 hM.1 rfl inX8 7 (by decide) wF_X8_23 rfl rfl ?_
              refine V_iload_n (pc' := 71) hX dX8_weight_70 rfl rfl ?_
              refine V_iload_n (pc' := 72) hX dX8_weight_71 rfl rfl ?_
              refine V_iastN (pc' := 73) hX dX8_weight_72 hM.2.2.2.2.2.1 (by omega) (by omega) rfl ?_
              refine V.gen (fun h2 eh2 => ?_)
              have fh2 := fr.of_up eh2
              have hM := hM.u5 (up_at eh2) fh2
              have f0 := f0.tr (fh2.mono (lo' := y) (hi' := y + 19) (by omega) (by omega))
              refine V_iload_n (pc' := 74) hX dX8_weight_73 rfl rfl ?_
              refine V_aload_n (pc' := 75) hX dX8_weight_74 rfl rfl ?_
              refine V_get (pc' := 78) hX dX8_weight_75 hM.1 rfl inX8 5 (by decide) wF_X8_100 rfl rfl ?_
              refine V_icmp_neN (pt := 91) (pc' := 81) hX dX8_weight_78 (by omega) (by omega) rfl rfl (fun c78 => ?_) (fun c78 => ?_)
              · refine V_iconst (pc' := 92) (v := nI 1) hX dX8_weight_91 (by decide) rfl ?_
                refine V_zret hX hR dX8_weight_92 (by rfl) ?_
                first
                  | exact ⟨rfl, f0, Or.inr ⟨k, wn, i, hk, rfl, rfl, by omega, by omega, by omega, b2, rfl, Or.inl ⟨by omega, c41, hM⟩⟩⟩
                  | exact ⟨rfl, f0, Or.inr ⟨k, wn, i, hk, rfl, rfl, by omega, by omega, by omega, b2, rfl, Or.inr ⟨by omega, hM⟩⟩⟩
                  | (exfalso; omega)
              · refine V_aload_n (pc' := 82) hX dX8_weight_81 rfl rfl ?_
                refine V_dup (pc' := 83) hX dX8_weight_82 rfl rfl ?_
                refine V_get (pc' := 86) hX dX8_weight_83 hM.1 rfl inX8 5 (by decide) wF_X8_100 rfl rfl ?_
                refine V_iconst (pc' := 87) (v := nI 1) hX dX8_weight_86 (by decide) rfl ?_
                refine V_iaddN (pc' := 88) hX dX8_weight_87 rfl ?_
                refine V_put (pc' := 91) (fs' := [_, _, _, _, _, _, _, _, _, _, _, _, _, _, _, _, _, _, _, _, _, _, _, _, _, _, _, _, _, _]) (ty0 := tyX8) hX dX8_weight_88 hM.1 rfl inX8 tyX8_ok nmX8 5 (by decide) wF_X8_100 rfl (tyX8_ok 5 (by decide)) rfl rfl (Nat.le_of_ble_eq_true rfl) rfl rfl ?_
                refine V.gen (fun h3 eh3 => ?_)
                have fh3 := fr.of_up eh3
                have hM := hM.u0 (up_at eh3) fh3
                have f0 := f0.tr (fh3.mono (lo' := y) (hi' := y + 19) (by omega) (by omega))
                refine V_iconst (pc' := 92) (v := nI 1) hX dX8_weight_91 (by decide) rfl ?_
                refine V_zret hX hR dX8_weight_92 (by rfl) ?_
                first
                  | exact ⟨rfl, f0, Or.inr ⟨k, wn, i, hk, rfl, rfl, by omega, by omega, by omega, b2, rfl, Or.inl ⟨by omega, c41, hM⟩⟩⟩
                  | exact ⟨rfl, f0, Or.inr ⟨k, wn, i, hk, rfl, rfl, by omega, by omega, by omega, b2, rfl, Or.inr ⟨by omega, hM⟩⟩⟩
                  | (exfalso; omega)
            · refine V_iconst (pc' := 58) (v := nI 0) hX dX8_weight_57 (by decide) rfl ?_
              refine V_zret hX hR dX8_weight_58 (by rfl) ?_
              refine ⟨rfl, f0, Or.inl ⟨Or.inr (Or.inr ⟨k, hk, rfl, fun j hj => ?_, ?_⟩), rfl, hM⟩⟩
              · exact b2 j (by omega)
              · omega
          · refine V_aload_n (pc' := 35) hX dX8_weight_34 rfl rfl ?_
            refine V_get (pc' := 38) hX dX8_weight_35 hM.1 rfl inX8 6 (by decide) wF_X8_20 rfl rfl ?_
            refine V_iload_n (pc' := 39) hX dX8_weight_38 rfl rfl ?_
            refine V_ialdN (pc' := 40) hX dX8_weight_39 hM.2.2.2.2.1 (by omega) (by omega) rfl rfl ?_
            refine V_iload_n (pc' := 41) hX dX8_weight_40 rfl rfl ?_
            refine V_icmp_eqN (pt := 50) (pc' := 44) hX dX8_weight_41 (by have := t3 i (by omega); omega) (by omega) rfl rfl (fun c41 => ?_) (fun c41 => ?_)
            · refine V_iload_n (pc' := 51) hX dX8_weight_50 rfl rfl ?_
              refine V_sipush (pc' := 54) (v := nI 200) hX dX8_weight_51 (by decide) rfl ?_
              refine V_icmp_neN (pt := 59) (pc' := 57) hX dX8_weight_54 (by omega) (by omega) rfl rfl (fun c54 => ?_) (fun c54 => ?_)
              · refine V_aload_n (pc' := 60) hX dX8_weight_59 rfl rfl ?_
                refine V_get (pc' := 63) hX dX8_weight_60 hM.1 rfl inX8 6 (by decide) wF_X8_20 rfl rfl ?_
                refine V_iload_n (pc' := 64) hX dX8_weight_63 rfl rfl ?_
                refine V_iload_n (pc' := 65) hX dX8_weight_64 rfl rfl ?_
                refine V_iastN (pc' := 66) hX dX8_weight_65 hM.2.2.2.2.1 (by omega) (by omega) rfl ?_
                refine V.gen (fun h1 eh1 => ?_)
                have fh1 := fr.of_up eh1
                have hM := hM.u4 (up_at eh1) fh1
                have f0 := f0.tr (fh1.mono (lo' := y) (hi' := y + 19) (by omega) (by omega))
                refine V_aload_n (pc' := 67) hX dX8_weight_66 rfl rfl ?_
                refine V_get (pc' := 70) hX dX8_weight_67 hM.1 rfl inX8 7 (by decide) wF_X8_23 rfl rfl ?_
                refine V_iload_n (pc' := 71) hX dX8_weight_70 rfl rfl ?_
                refine V_iload_n (pc' := 72) hX dX8_weight_71 rfl rfl ?_
                refine V_iastN (pc' := 73) hX dX8_weight_72 hM.2.2.2.2.2.1 (by omega) (by omega) rfl ?_
                refine V.gen (fun h2 eh2 => ?_)
                have fh2 := fr.of_up eh2
                have hM := hM.u5 (up_at eh2) fh2
                have f0 := f0.tr (fh2.mono (lo' := y) (hi' := y + 19) (by omega) (by omega))
                refine V_iload_n (pc' := 74) hX dX8_weight_73 rfl rfl ?_
                refine V_aload_n (pc' := 75) hX dX8_weight_74 rfl rfl ?_
                refine V_get (pc' := 78) hX dX8_weight_75 hM.1 rfl inX8 5 (by decide) wF_X8_100 rfl rfl ?_
                refine V_icmp_neN (pt := 91) (pc' := 81) hX dX8_weight_78 (by omega) (by omega) rfl rfl (fun c78 => ?_) (fun c78 => ?_)
                · refine V_iconst (pc' := 92) (v := nI 1) hX dX8_weight_91 (by decide) rfl ?_
                  refine V_zret hX hR dX8_weight_92 (by rfl) ?_
                  first
                    | exact ⟨rfl, f0, Or.inr ⟨k, wn, i, hk, rfl, rfl, by omega, by omega, by omega, b2, rfl, Or.inl ⟨by omega, c41, hM⟩⟩⟩
                    | exact ⟨rfl, f0, Or.inr ⟨k, wn, i, hk, rfl, rfl, by omega, by omega, by omega, b2, rfl, Or.inr ⟨by omega, hM⟩⟩⟩
                    | (exfalso; omega)
                · refine V_aload_n (pc' := 82) hX dX8_weight_81 rfl rfl ?_
                  refine V_dup (pc' := 83) hX dX8_weight_82 rfl rfl ?_
                  refine V_get (pc' := 86) hX dX8_weight_83 hM.1 rfl inX8 5 (by decide) wF_X8_100 rfl rfl ?_
                  refine V_iconst (pc' := 87) (v := nI 1) hX dX8_weight_86 (by decide) rfl ?_
                  refine V_iaddN (pc' := 88) hX dX8_weight_87 rfl ?_
                  refine V_put (pc' := 91) (fs' := [_, _, _, _, _, _, _, _, _, _, _, _, _, _, _, _, _, _, _, _, _, _, _, _, _, _, _, _, _, _]) (ty0 := tyX8) hX dX8_weight_88 hM.1 rfl inX8 tyX8_ok nmX8 5 (by decide) wF_X8_100 rfl (tyX8_ok 5 (by decide)) rfl rfl (Nat.le_of_ble_eq_true rfl) rfl rfl ?_
                  refine V.gen (fun h3 eh3 => ?_)
                  have fh3 := fr.of_up eh3
                  have hM := hM.u0 (up_at eh3) fh3
                  have f0 := f0.tr (fh3.mono (lo' := y) (hi' := y + 19) (by omega) (by omega))
                  refine V_iconst (pc' := 92) (v := nI 1) hX dX8_weight_91 (by decide) rfl ?_
                  refine V_zret hX hR dX8_weight_92 (by rfl) ?_
                  first
                    | exact ⟨rfl, f0, Or.inr ⟨k, wn, i, hk, rfl, rfl, by omega, by omega, by omega, b2, rfl, Or.inl ⟨by omega, c41, hM⟩⟩⟩
                    | exact ⟨rfl, f0, Or.inr ⟨k, wn, i, hk, rfl, rfl, by omega, by omega, by omega, b2, rfl, Or.inr ⟨by omega, hM⟩⟩⟩
                    | (exfalso; omega)
              · refine V_iconst (pc' := 58) (v := nI 0) hX dX8_weight_57 (by decide) rfl ?_
                refine V_zret hX hR dX8_weight_58 (by rfl) ?_
                refine ⟨rfl, f0, Or.inl ⟨Or.inr (Or.inr ⟨k, hk, rfl, fun j hj => ?_, ?_⟩), rfl, hM⟩⟩
                · exact b2 j (by omega)
                · omega
            · refine V_iincN (pc' := 47) (j := 1) (lv' := [_, _, _, _]) hX dX8_weight_44 rfl rfl rfl rfl ?_
              refine V_goto (pc' := 26) hX dX8_weight_47 rfl ?_
              exact ih (i + 1) (by omega) (fun j hj => by
                by_cases e : j = i
                · rw [e]; exact c41
                · exact b2 j (by omega)) (by omega)
      exact lp (ts + 1) 0 (by omega) (fun j hj => by omega) (by omega)
    · refine V_iconst (pc' := 23) (v := nI 0) hX dX8_weight_22 (by decide) rfl ?_
      refine V_zret hX hR dX8_weight_23 (by rfl) ?_
      exact ⟨rfl, f0, Or.inl ⟨Or.inr (Or.inl (of_decide_eq_false c19)), rfl, hM⟩⟩
