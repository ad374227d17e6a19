set_option maxRecDepth 100000 in
set_option maxHeartbeats 4000000 in
theorem c_Kp_init {G : Gd} {z : Nat} {h : AH} {c : Nat} (ha : h c = some (oO 0 [.null, .null, .null, .null, .null, .int 0])) (hz : z = c + 1) : Ct G yX0_init cX0_init 1 none 1 5 5510 [.ref c] z h (fun r z' h' => r = none ∧ z' = c + 6 ∧ kpAt G h' c (fun _ => 0) (fun _ => 0) (fun _ => 0) (fun _ => 0) (fun _ => 0) 0 ∧ fr c (c + 6) h h') := by
  refine Ct.of (lv := [_]) (by decide) (Nat.le_of_ble_eq_true rfl) rfl ?_
  rintro X rfl hX hR hnm
  subst hz
  refine V_aload_n (pc' := 1) hX dX0_init_0 rfl rfl ?_
  refine V_objInit (pc' := 4) hX dX0_init_1 wM_X0_3 wI_objInit wC_objInit (by omega) rfl rfl rfl ?_
  refine V_aload_n (pc' := 5) hX dX0_init_4 rfl rfl ?_
  refine V_sipush (pc' := 8) (v := nI 1770) hX dX0_init_5 (by decide) rfl ?_
  refine V_newIN (pc' := 10) hX dX0_init_8 (by omega) (by omega) (by omega) rfl ?_
  simp only [Nat.zero_add]
  refine V_putF (pc' := 13) (fs' := [_, _, _, _, _, _]) (ty0 := tyX0) hX dX0_init_10 (hnm.trans rfl) ((hup_n (by omega)).trans ha) rfl inX0 tyX0_ok nmX0 0 (by decide) wF_X0_9 rfl rfl (tyX0_ok 0 (by decide)) rfl rfl (Nat.le_of_ble_eq_true rfl) rfl rfl ?_
  refine V_aload_n (pc' := 14) hX dX0_init_13 rfl rfl ?_
  refine V_sipush (pc' := 17) (v := nI 1770) hX dX0_init_14 (by decide) rfl ?_
  refine V_newIN (pc' := 19) hX dX0_init_17 (by omega) (by omega) (by omega) rfl ?_
  simp only [Nat.reduceAdd]
  refine V_putF (pc' := 22) (fs' := [_, _, _, _, _, _]) (ty0 := tyX0) hX dX0_init_19 (hnm.trans rfl) ((hup_n (by omega)).trans hup_s) rfl inX0 tyX0_ok nmX0 1 (by decide) wF_X0_15 rfl rfl (tyX0_ok 1 (by decide)) rfl rfl (Nat.le_of_ble_eq_true rfl) rfl rfl ?_
  refine V_aload_n (pc' := 23) hX dX0_init_22 rfl rfl ?_
  refine V_sipush (pc' := 26) (v := nI 1770) hX dX0_init_23 (by decide) rfl ?_
  refine V_newIN (pc' := 28) hX dX0_init_26 (by omega) (by omega) (by omega) rfl ?_
  simp only [Nat.reduceAdd]
  refine V_putF (pc' := 31) (fs' := [_, _, _, _, _, _]) (ty0 := tyX0) hX dX0_init_28 (hnm.trans rfl) ((hup_n (by omega)).trans hup_s) rfl inX0 tyX0_ok nmX0 2 (by decide) wF_X0_18 rfl rfl (tyX0_ok 2 (by decide)) rfl rfl (Nat.le_of_ble_eq_true rfl) rfl rfl ?_
  refine V_aload_n (pc' := 32) hX dX0_init_31 rfl rfl ?_
  refine V_bipush (pc' := 34) (v := nI 100) hX dX0_init_32 (by decide) rfl ?_
  refine V_newJN (pc' := 36) hX dX0_init_34 (by omega) (by omega) (by omega) rfl ?_
  simp only [Nat.reduceAdd]
  refine V_putF (pc' := 39) (fs' := [_, _, _, _, _, _]) (ty0 := tyX0) hX dX0_init_36 (hnm.trans rfl) ((hup_n (by omega)).trans hup_s) rfl inX0 tyX0_ok nmX0 3 (by decide) wF_X0_21 rfl rfl (tyX0_ok 3 (by decide)) rfl rfl (Nat.le_of_ble_eq_true rfl) rfl rfl ?_
  refine V_aload_n (pc' := 40) hX dX0_init_39 rfl rfl ?_
  refine V_bipush (pc' := 42) (v := nI 100) hX dX0_init_40 (by decide) rfl ?_
  refine V_newJN (pc' := 44) hX dX0_init_42 (by omega) (by omega) (by omega) rfl ?_
  simp only [Nat.reduceAdd]
  refine V_putF (pc' := 47) (fs' := [_, _, _, _, _, _]) (ty0 := tyX0) hX dX0_init_44 (hnm.trans rfl) ((hup_n (by omega)).trans hup_s) rfl inX0 tyX0_ok nmX0 4 (by decide) wF_X0_25 rfl rfl (tyX0_ok 4 (by decide)) rfl rfl (Nat.le_of_ble_eq_true rfl) rfl rfl ?_
  refine V_vret hX hR dX0_init_47 ?_
  exact ⟨rfl, rfl, ⟨hup_s, ((hup_n (by omega)).trans ((hup_n (by omega)).trans ((hup_n (by omega)).trans ((hup_n (by omega)).trans ((hup_n (by omega)).trans ((hup_n (by omega)).trans ((hup_n (by omega)).trans ((hup_n (by omega)).trans ((hup_n (by omega)).trans hup_s))))))))), ((hup_n (by omega)).trans ((hup_n (by omega)).trans ((hup_n (by omega)).trans ((hup_n (by omega)).trans ((hup_n (by omega)).trans ((hup_n (by omega)).trans ((hup_n (by omega)).trans hup_s))))))), ((hup_n (by omega)).trans ((hup_n (by omega)).trans ((hup_n (by omega)).trans ((hup_n (by omega)).trans ((hup_n (by omega)).trans hup_s))))), ((hup_n (by omega)).trans ((hup_n (by omega)).trans ((hup_n (by omega)).trans hup_s))), ((hup_n (by omega)).trans hup_s)⟩, (fr.up (fr.up (fr.up (fr.up (fr.up (fr.up (fr.up (fr.up (fr.up (fr.up fr.rf (by omega) (by omega)) (by omega) (by omega)) (by omega) (by omega)) (by omega) (by omega)) (by omega) (by omega)) (by omega) (by omega)) (by omega) (by omega)) (by omega) (by omega)) (by omega) (by omega)) (by omega) (by omega))⟩
set_option maxRecDepth 100000 in
set_option maxHeartbeats 4000000 in
theorem c_Kp_clear {G : Gd} {z : Nat} {h : AH} {c sz : Nat} {f1 f2 f3 ab bl : Nat → Nat} (hK : kpAt G h c f1 f2 f3 ab bl sz) : Ct G yX0_clear cX0_clear 1 none 0 0 0 [.ref c] z h (fun r z' h' => r = none ∧ z' = z ∧ kpAt G h' c f1 f2 f3 ab bl 0 ∧ fr c (c + 6) h h') := by
  refine Ct.of (lv := [_]) (by decide) (Nat.le_of_ble_eq_true rfl) rfl ?_
  rintro X rfl hX hR hnm
  obtain ⟨h0, h1, h2, h3, h4, h5⟩ := id hK
  refine V_aload_n (pc' := 1) hX dX0_clear_0 rfl rfl ?_
  refine V_iconst (pc' := 2) (v := nI 0) hX dX0_clear_1 (by decide) rfl ?_
  refine V_put (pc' := 5) (fs' := [_, _, _, _, _, _]) (ty0 := tyX0) hX dX0_clear_2 h0 rfl inX0 tyX0_ok nmX0 5 (by decide) wF_X0_28 rfl (tyX0_ok 5 (by decide)) rfl rfl (Nat.le_of_ble_eq_true rfl) rfl rfl ?_
  refine V_vret hX hR dX0_clear_5 ?_
  exact ⟨rfl, rfl, ⟨hup_s, ((hup_n (by omega)).trans h1), ((hup_n (by omega)).trans h2), ((hup_n (by omega)).trans h3), ((hup_n (by omega)).trans h4), ((hup_n (by omega)).trans h5)⟩, (fr.up fr.rf (by omega) (by omega))⟩
set_option maxRecDepth 100000 in
set_option maxHeartbeats 4000000 in
theorem c_Kp_set {G : Gd} {z : Nat} {h : AH} {c sz : Nat} {f1 f2 f3 ab bl : Nat → Nat} (i r s b : Nat) (hi : i < sz) (hs : sz ≤ 1770) (hK : kpAt G h c f1 f2 f3 ab bl sz) : Ct G yX0_set cX0_set 5 none 0 0 0 [.ref c, .int (nI i), .int (nI r), .int (nI s), .int (nI b)] z h (fun r' z' h' => r' = none ∧ z' = z ∧ kpAt G h' c (va_up f1 i r) (va_up f2 i s) (va_up f3 i b) ab bl sz ∧ fr c (c + 6) h h') := by
  refine Ct.of (lv := [_, _, _, _, _]) (by decide) (Nat.le_of_ble_eq_true rfl) rfl ?_
  rintro X rfl hX hR hnm
  obtain ⟨h0, h1, h2, h3, h4, h5⟩ := id hK
  refine V_iload_n (pc' := 1) hX dX0_set_0 rfl rfl ?_
  refine V_if_ltN (pt := 34) (pc' := 4) hX dX0_set_1 (by omega) rfl rfl (fun c1 => ?_) (fun c1 => ?_)
  · omega
  · refine V_iload_n (pc' := 5) hX dX0_set_4 rfl rfl ?_
    refine V_aload_n (pc' := 6) hX dX0_set_5 rfl rfl ?_
    refine V_get (pc' := 9) hX dX0_set_6 h0 rfl inX0 5 (by decide) wF_X0_28 rfl rfl ?_
    refine V_icmp_geN (pt := 34) (pc' := 12) hX dX0_set_9 (by omega) (by omega) rfl rfl (fun c9 => ?_) (fun c9 => ?_)
    · omega
    · refine V_aload_n (pc' := 13) hX dX0_set_12 rfl rfl ?_
      refine V_get (pc' := 16) hX dX0_set_13 h0 rfl inX0 0 (by decide) wF_X0_9 rfl rfl ?_
      refine V_iload_n (pc' := 17) hX dX0_set_16 rfl rfl ?_
      refine V_iload_n (pc' := 18) hX dX0_set_17 rfl rfl ?_
      refine V_iastN (pc' := 19) hX dX0_set_18 h1 (by omega) (by omega) rfl ?_
      refine V_aload_n (pc' := 20) hX dX0_set_19 rfl rfl ?_
      refine V_get (pc' := 23) hX dX0_set_20 ((hup_n (by omega)).trans h0) rfl inX0 1 (by decide) wF_X0_15 rfl rfl ?_
      refine V_iload_n (pc' := 24) hX dX0_set_23 rfl rfl ?_
      refine V_iload_n (pc' := 25) hX dX0_set_24 rfl rfl ?_
      refine V_iastN (pc' := 26) hX dX0_set_25 ((hup_n (by omega)).trans h2) (by omega) (by omega) rfl ?_
      refine V_aload_n (pc' := 27) hX dX0_set_26 rfl rfl ?_
      refine V_get (pc' := 30) hX dX0_set_27 ((hup_n (by omega)).trans ((hup_n (by omega)).trans h0)) rfl inX0 2 (by decide) wF_X0_18 rfl rfl ?_
      refine V_iload_n (pc' := 31) hX dX0_set_30 rfl rfl ?_
      refine V_iload (pc' := 33) hX dX0_set_31 rfl rfl ?_
      refine V_iastN (pc' := 34) hX dX0_set_33 ((hup_n (by omega)).trans ((hup_n (by omega)).trans h3)) (by omega) (by omega) rfl ?_
      refine V_vret hX hR dX0_set_34 ?_
      exact ⟨rfl, rfl, ⟨((hup_n (by omega)).trans ((hup_n (by omega)).trans ((hup_n (by omega)).trans h0))), ((hup_n (by omega)).trans ((hup_n (by omega)).trans hup_s)), ((hup_n (by omega)).trans hup_s), hup_s, ((hup_n (by omega)).trans ((hup_n (by omega)).trans ((hup_n (by omega)).trans h4))), ((hup_n (by omega)).trans ((hup_n (by omega)).trans ((hup_n (by omega)).trans h5)))⟩, (fr.up (fr.up (fr.up fr.rf (by omega) (by omega)) (by omega) (by omega)) (by omega) (by omega))⟩
set_option maxRecDepth 100000 in
set_option maxHeartbeats 4000000 in
theorem c_Kp_append {G : Gd} {z : Nat} {h : AH} {c sz : Nat} {f1 f2 f3 ab bl : Nat → Nat} (r s b : Nat) (hs : sz < 1770) (hK : kpAt G h c f1 f2 f3 ab bl sz) : Ct G yX0_append cX0_append 4 none 1 0 0 [.ref c, .int (nI r), .int (nI s), .int (nI b)] z h (fun r' z' h' => r' = none ∧ z' = z ∧ kpAt G h' c (va_up f1 sz r) (va_up f2 sz s) (va_up f3 sz b) ab bl (sz + 1) ∧ fr c (c + 6) h h') := by
  refine Ct.of (lv := [_, _, _, _]) (by decide) (Nat.le_of_ble_eq_true rfl) rfl ?_
  rintro X rfl hX hR hnm
  obtain ⟨h0, h1, h2, h3, h4, h5⟩ := id hK
  refine V_aload_n (pc' := 1) hX dX0_append_0 rfl rfl ?_
  refine V_get (pc' := 4) hX dX0_append_1 h0 rfl inX0 5 (by decide) wF_X0_28 rfl rfl ?_
  refine V_sipush (pc' := 7) (v := nI 1770) hX dX0_append_4 (by decide) rfl ?_
  refine V_icmp_geN (pt := 33) (pc' := 10) hX dX0_append_7 (by omega) (by omega) rfl rfl (fun c7 => ?_) (fun c7 => ?_)
  · omega
  · refine V_aload_n (pc' := 11) hX dX0_append_10 rfl rfl ?_
    refine V_dup (pc' := 12) hX dX0_append_11 rfl rfl ?_
    refine V_get (pc' := 15) hX dX0_append_12 h0 rfl inX0 5 (by decide) wF_X0_28 rfl rfl ?_
    refine V_iconst (pc' := 16) (v := nI 1) hX dX0_append_15 (by decide) rfl ?_
    refine V_iaddN (pc' := 17) hX dX0_append_16 rfl ?_
    refine V_put (pc' := 20) (fs' := [_, _, _, _, _, _]) (ty0 := tyX0) hX dX0_append_17 h0 rfl inX0 tyX0_ok nmX0 5 (by decide) wF_X0_28 rfl (tyX0_ok 5 (by decide)) rfl rfl (Nat.le_of_ble_eq_true rfl) rfl rfl ?_
    refine V_aload_n (pc' := 21) hX dX0_append_20 rfl rfl ?_
    refine V_aload_n (pc' := 22) hX dX0_append_21 rfl rfl ?_
    refine V_get (pc' := 25) hX dX0_append_22 hup_s rfl inX0 5 (by decide) wF_X0_28 rfl rfl ?_
    refine V_iconst (pc' := 26) (v := nI 1) hX dX0_append_25 (by decide) rfl ?_
    refine V_isubN (pc' := 27) hX dX0_append_26 (by omega) rfl ?_
    refine V_iload_n (pc' := 28) hX dX0_append_27 rfl rfl ?_
    refine V_iload_n (pc' := 29) hX dX0_append_28 rfl rfl ?_
    refine V_iload_n (pc' := 30) hX dX0_append_29 rfl rfl ?_
    refine V_callV (nA := 4) (pc' := 33) (k' := 0) (n' := 0) hX dX0_append_30 (c_Kp_set (sz + 1 - 1) r s b (by omega) (by omega) ⟨hup_s, ((hup_n (by omega)).trans h1), ((hup_n (by omega)).trans h2), ((hup_n (by omega)).trans h3), ((hup_n (by omega)).trans h4), ((hup_n (by omega)).trans h5)⟩) hup_s rfl wM_X0_32 wI_X0_set wL_X0_set wN_X0 wC_X0_set rfl hy_X0_set rfl (Nat.le_of_ble_eq_true rfl) (by decide) (by omega) rfl rfl (by omega) rfl (by omega) rfl ?_
    rintro _ z h' ⟨rfl, rfl, q1, q2⟩
    refine V.stk (st' := []) rfl ?_
    refine V_vret hX hR dX0_append_33 ?_
    rw [Nat.add_sub_cancel] at q1
    exact ⟨rfl, rfl, q1, fun q hq => (q2 q hq).trans (hup_n (by omega))⟩
set_option maxRecDepth 100000 in
set_option maxHeartbeats 4000000 in
theorem c_Kp_setLikeness {G : Gd} {z : Nat} {h : AH} {c sz : Nat} {f1 f2 f3 ab bl : Nat → Nat} (i u v : Nat) (hi : i < 100) (hK : kpAt G h c f1 f2 f3 ab bl sz) : Ct G yX0_setLikeness cX0_setLikeness 6 none 0 0 0 [.ref c, .int (nI i), .long (lN u), .long (lN v)] z h (fun r' z' h' => r' = none ∧ z' = z ∧ kpAt G h' c f1 f2 f3 (va_up ab i u) (va_up bl i v) sz ∧ fr c (c + 6) h h') := by
  refine Ct.of (lv := [_, _, _, _, _, _]) (by decide) (Nat.le_of_ble_eq_true rfl) rfl ?_
  rintro X rfl hX hR hnm
  obtain ⟨h0, h1, h2, h3, h4, h5⟩ := id hK
  refine V_iload_n (pc' := 1) hX dX0_setLikeness_0 rfl rfl ?_
  refine V_if_ltN (pt := 25) (pc' := 4) hX dX0_setLikeness_1 (by omega) rfl rfl (fun c1 => ?_) (fun c1 => ?_)
  · omega
  · refine V_iload_n (pc' := 5) hX dX0_setLikeness_4 rfl rfl ?_
    refine V_bipush (pc' := 7) (v := nI 100) hX dX0_setLikeness_5 (by decide) rfl ?_
    refine V_icmp_geN (pt := 25) (pc' := 10) hX dX0_setLikeness_7 (by omega) (by omega) rfl rfl (fun c7 => ?_) (fun c7 => ?_)
    · omega
    · refine V_aload_n (pc' := 11) hX dX0_setLikeness_10 rfl rfl ?_
      refine V_get (pc' := 14) hX dX0_setLikeness_11 h0 rfl inX0 3 (by decide) wF_X0_21 rfl rfl ?_
      refine V_iload_n (pc' := 15) hX dX0_setLikeness_14 rfl rfl ?_
      refine V_lload_n (pc' := 16) hX dX0_setLikeness_15 rfl rfl ?_
      refine V_lastNN (pc' := 17) hX dX0_setLikeness_16 h4 (by omega) (by omega) rfl ?_
      refine V_aload_n (pc' := 18) hX dX0_setLikeness_17 rfl rfl ?_
      refine V_get (pc' := 21) hX dX0_setLikeness_18 ((hup_n (by omega)).trans h0) rfl inX0 4 (by decide) wF_X0_25 rfl rfl ?_
      refine V_iload_n (pc' := 22) hX dX0_setLikeness_21 rfl rfl ?_
      refine V_lload (pc' := 24) hX dX0_setLikeness_22 rfl rfl ?_
      refine V_lastNN (pc' := 25) hX dX0_setLikeness_24 ((hup_n (by omega)).trans h5) (by omega) (by omega) rfl ?_
      refine V_vret hX hR dX0_setLikeness_25 ?_
      exact ⟨rfl, rfl, ⟨((hup_n (by omega)).trans ((hup_n (by omega)).trans h0)), ((hup_n (by omega)).trans ((hup_n (by omega)).trans h1)), ((hup_n (by omega)).trans ((hup_n (by omega)).trans h2)), ((hup_n (by omega)).trans ((hup_n (by omega)).trans h3)), ((hup_n (by omega)).trans hup_s), hup_s⟩, (fr.up (fr.up fr.rf (by omega) (by omega)) (by omega) (by omega))⟩
set_option maxRecDepth 100000 in
set_option maxHeartbeats 4000000 in
theorem c_Kp_placeFor {G : Gd} {z : Nat} {h : AH} {c sz : Nat} {f1 f2 f3 ab bl : Nat → Nat} (u v : Nat) (hu : u ≤ 9000000) (hv : v ≤ 9000000) (hs : sz ≤ 100) (hab : ∀ j, j < sz → ab j ≤ 9000000 ∧ bl j ≤ 9000000) (hmo : ∀ i j, i < j → j < sz → u * bl j ≤ ab j * v → u * bl i ≤ ab i * v) (hK : kpAt G h c f1 f2 f3 ab bl sz) : Ct G yX0_placeFor cX0_placeFor 8 (some .int) 1 0 0 [.ref c, .long (lN u), .long (lN v)] z h (fun r z' h' => ∃ p, r = some (.int (nI p)) ∧ z' = z ∧ h' = h ∧ p ≤ sz ∧ (∀ j, j < p → u * bl j ≤ ab j * v) ∧ ∀ j, p ≤ j → j < sz → ab j * v < u * bl j) := by
  refine Ct.of (lv := [_, _, _, _, _, _, _, _]) (by decide) (Nat.le_of_ble_eq_true rfl) rfl ?_
  rintro X rfl hX hR hnm
  obtain ⟨h0, h1, h2, h3, h4, h5⟩ := id hK
  refine V_iconst (pc' := 1) (v := nI 0) hX dX0_placeFor_0 (by decide) rfl ?_
  refine V_istore (pc' := 3) (lv' := [_, _, _, _, _, _, _, _]) hX dX0_placeFor_1 (Nat.le_of_ble_eq_true rfl) rfl rfl ?_
  refine V_aload_n (pc' := 4) hX dX0_placeFor_3 rfl rfl ?_
  refine V_get (pc' := 7) hX dX0_placeFor_4 h0 rfl inX0 5 (by decide) wF_X0_28 rfl rfl ?_
  refine V_bipush (pc' := 9) (v := nI 100) hX dX0_placeFor_7 (by decide) rfl ?_
  refine V_minN (pc' := 12) hX dX0_placeFor_9 wM_X0_36 (by omega) (by omega) (by omega) (by omega) (by omega) rfl (Nat.le_of_ble_eq_true rfl) rfl ?_
  refine V_istore (pc' := 14) (lv' := [_, _, _, _, _, _, _, _]) hX dX0_placeFor_12 (Nat.le_of_ble_eq_true rfl) rfl rfl ?_
  have lp : ∀ (μ lo hi : Nat), lo ≤ hi → hi ≤ sz → (∀ j, j < lo → u * bl j ≤ ab j * v) → (∀ j, hi ≤ j → j < sz → ab j * v < u * bl j) → hi - lo < μ → V X 0 0 z h 14 [some (.ref c), some (.long (lN u)), none, some (.long (lN v)), none, some (.int (nI lo)), some (.int (nI hi)), none] [] := by
    intro μ
    induction μ with
    | zero => intros; omega
    | succ μ ih =>
      intro lo hi b1 b2 b3 b4 b5
      refine V_iload (pc' := 16) hX dX0_placeFor_14 rfl rfl ?_
      refine V_iload (pc' := 18) hX dX0_placeFor_16 rfl rfl ?_
      refine V_icmp_geN (pt := 68) (pc' := 21) hX dX0_placeFor_18 (by omega) (by omega) rfl rfl (fun c18 => ?_) (fun c18 => ?_)
      · refine V_iload (pc' := 70) hX dX0_placeFor_68 rfl rfl ?_
        refine V_iret hX hR dX0_placeFor_70 ?_
        exact ⟨lo, rfl, rfl, rfl, by omega, b3, fun j q1 q2 => b4 j (by omega) q2⟩
      · refine V_iload (pc' := 23) hX dX0_placeFor_21 rfl rfl ?_
        refine V_iload (pc' := 25) hX dX0_placeFor_23 rfl rfl ?_
        refine V_iaddN (pc' := 26) hX dX0_placeFor_25 rfl ?_
        refine V_iconst (pc' := 27) (v := nI 1) hX dX0_placeFor_26 (by decide) rfl ?_
        refine V_iushr (pc' := 28) hX dX0_placeFor_27 rfl ?_
        refine V.eqi (pk_ushrN (by omega) (nI 1) 1 (by decide)) ?_
        obtain ⟨m, em⟩ : ∃ m, m = (lo + hi) / 2 ^ 1 := ⟨_, rfl⟩
        rw [← em]
        have hm := hab m (by omega)
        have p1 : ab m * v ≤ 9000000 * 9000000 := mul_bd hm.1 hv
        have p2 : u * bl m ≤ 9000000 * 9000000 := mul_bd hu hm.2
        refine V_istore (pc' := 30) (lv' := [_, _, _, _, _, _, _, _]) hX dX0_placeFor_28 (Nat.le_of_ble_eq_true rfl) rfl rfl ?_
        refine V_aload_n (pc' := 31) hX dX0_placeFor_30 rfl rfl ?_
        refine V_get (pc' := 34) hX dX0_placeFor_31 h0 rfl inX0 3 (by decide) wF_X0_21 rfl rfl ?_
        refine V_iload (pc' := 36) hX dX0_placeFor_34 rfl rfl ?_
        refine V_laldN (pc' := 37) hX dX0_placeFor_36 h4 (by omega) (by omega) rfl rfl ?_
        refine V_lload_n (pc' := 38) hX dX0_placeFor_37 rfl rfl ?_
        refine V_lmulN (pc' := 39) hX dX0_placeFor_38 rfl ?_
        refine V_lload_n (pc' := 40) hX dX0_placeFor_39 rfl rfl ?_
        refine V_aload_n (pc' := 41) hX dX0_placeFor_40 rfl rfl ?_
        refine V_get (pc' := 44) hX dX0_placeFor_41 h0 rfl inX0 4 (by decide) wF_X0_25 rfl rfl ?_
        refine V_iload (pc' := 46) hX dX0_placeFor_44 rfl rfl ?_
        refine V_laldN (pc' := 47) hX dX0_placeFor_46 h5 (by omega) (by omega) rfl rfl ?_
        refine V_lmulN (pc' := 48) hX dX0_placeFor_47 rfl ?_
        refine V_lcmp_ltN (pt := 61) (pc' := 52) hX dX0_placeFor_48 rfl dX0_placeFor_49 (by omega) (by omega) rfl rfl (fun c48 => ?_) (fun c48 => ?_)
        · have hhi : ∀ j, m ≤ j → j < sz → ab j * v < u * bl j := fun j q1 q2 => by
            rcases Nat.lt_or_ge m j with r | r
            · refine Nat.lt_of_not_le (fun q => ?_)
              have := hmo m j r q2 q; omega
            · rw [show j = m by omega]; exact c48
          refine V_iload (pc' := 63) hX dX0_placeFor_61 rfl rfl ?_
          refine V_istore (pc' := 65) (lv' := [_, _, _, _, _, _, _, _]) hX dX0_placeFor_63 (Nat.le_of_ble_eq_true rfl) rfl rfl ?_
          refine V_goto (pc' := 14) hX dX0_placeFor_65 rfl ?_
          refine V.loc2 (lv' := [some _, some _, none, some _, none, some _, some _, none]) ⟨rfl, rfl, rfl, rfl, rfl, trivial⟩ ?_
          first
            | exact ih _ _ (by omega) (by omega) hlo b4 (by omega)
            | exact ih _ _ (by omega) (by omega) b3 hhi (by omega)
        · have hlo : ∀ j, j < m + 1 → u * bl j ≤ ab j * v := fun j q1 => by
            rcases Nat.lt_or_ge j m with r | r
            · exact hmo j m r (by omega) (by omega)
            · rw [show j = m by omega]; omega
          refine V_iload (pc' := 54) hX dX0_placeFor_52 rfl rfl ?_
          refine V_iconst (pc' := 55) (v := nI 1) hX dX0_placeFor_54 (by decide) rfl ?_
          refine V_iaddN (pc' := 56) hX dX0_placeFor_55 rfl ?_
          refine V_istore (pc' := 58) (lv' := [_, _, _, _, _, _, _, _]) hX dX0_placeFor_56 (Nat.le_of_ble_eq_true rfl) rfl rfl ?_
          refine V_goto (pc' := 65) hX dX0_placeFor_58 rfl ?_
          refine V_goto (pc' := 14) hX dX0_placeFor_65 rfl ?_
          refine V.loc2 (lv' := [some _, some _, none, some _, none, some _, some _, none]) ⟨rfl, rfl, rfl, rfl, rfl, trivial⟩ ?_
          first
            | exact ih _ _ (by omega) (by omega) hlo b4 (by omega)
            | exact ih _ _ (by omega) (by omega) b3 hhi (by omega)
  refine V.loc2 (lv' := [some _, some _, none, some _, none, some _, some _, none]) ⟨rfl, rfl, rfl, rfl, rfl, trivial⟩ ?_
  rw [show min sz 100 = sz by omega]
  exact lp (sz + 1) 0 sz (by omega) (by omega) (fun j hj => by omega) (fun j h1 h2 => by omega) (by omega)
set_option maxRecDepth 100000 in
set_option maxHeartbeats 4000000 in
theorem c_Kp_makeRoom {G : Gd} {z : Nat} {h : AH} {c sz : Nat} {f1 f2 f3 ab bl : Nat → Nat} (p mo : Nat) (hp : p ≤ sz) (hpm : p < mo) (hmo : mo ≤ 100) (hsz : sz ≤ mo) (hK : kpAt G h c f1 f2 f3 ab bl sz) : Ct G yX0_makeRoom cX0_makeRoom 4 none 1 0 0 [.ref c, .int (nI p), .int (nI mo)] z h (fun r z' h' => r = none ∧ z' = z ∧ kpAt G h' c (va_cpy f1 f1 p (p + 1) (min sz (mo - 1) - p)) (va_cpy f2 f2 p (p + 1) (min sz (mo - 1) - p)) (va_cpy f3 f3 p (p + 1) (min sz (mo - 1) - p)) (va_cpy ab ab p (p + 1) (min sz (mo - 1) - p)) (va_cpy bl bl p (p + 1) (min sz (mo - 1) - p)) (min sz (mo - 1) + 1) ∧ fr c (c + 6) h h') := by
  refine Ct.of (lv := [_, _, _, _]) (by decide) (Nat.le_of_ble_eq_true rfl) rfl ?_
  rintro X rfl hX hR hnm
  obtain ⟨h0, h1, h2, h3, h4, h5⟩ := id hK
  refine V_iload_n (pc' := 1) hX dX0_makeRoom_0 rfl rfl ?_
  refine V_if_ltN (pt := 23) (pc' := 4) hX dX0_makeRoom_1 (by omega) rfl rfl (fun c1 => ?_) (fun c1 => ?_)
  · omega
  · refine V_iload_n (pc' := 5) hX dX0_makeRoom_4 rfl rfl ?_
    refine V_aload_n (pc' := 6) hX dX0_makeRoom_5 rfl rfl ?_
    refine V_get (pc' := 9) hX dX0_makeRoom_6 h0 rfl inX0 5 (by decide) wF_X0_28 rfl rfl ?_
    refine V_icmp_gtN (pt := 23) (pc' := 12) hX dX0_makeRoom_9 (by omega) (by omega) rfl rfl (fun c9 => ?_) (fun c9 => ?_)
    · omega
    · refine V_iload_n (pc' := 13) hX dX0_makeRoom_12 rfl rfl ?_
      refine V_iload_n (pc' := 14) hX dX0_makeRoom_13 rfl rfl ?_
      refine V_icmp_geN (pt := 23) (pc' := 17) hX dX0_makeRoom_14 (by omega) (by omega) rfl rfl (fun c14 => ?_) (fun c14 => ?_)
      · omega
      · refine V_iload_n (pc' := 18) hX dX0_makeRoom_17 rfl rfl ?_
        refine V_bipush (pc' := 20) (v := nI 100) hX dX0_makeRoom_18 (by decide) rfl ?_
        refine V_icmp_leN (pt := 24) (pc' := 23) hX dX0_makeRoom_20 (by omega) (by omega) rfl rfl (fun c20 => ?_) (fun c20 => ?_)
        · refine V_aload_n (pc' := 25) hX dX0_makeRoom_24 rfl rfl ?_
          refine V_get (pc' := 28) hX dX0_makeRoom_25 h0 rfl inX0 5 (by decide) wF_X0_28 rfl rfl ?_
          refine V_iload_n (pc' := 29) hX dX0_makeRoom_28 rfl rfl ?_
          refine V_iconst (pc' := 30) (v := nI 1) hX dX0_makeRoom_29 (by decide) rfl ?_
          refine V_isubN (pc' := 31) hX dX0_makeRoom_30 (by omega) rfl ?_
          refine V_minN (pc' := 34) hX dX0_makeRoom_31 wM_X0_36 (by omega) (by omega) (by omega) (by omega) (by omega) rfl (Nat.le_of_ble_eq_true rfl) rfl ?_
          refine V_iload_n (pc' := 35) hX dX0_makeRoom_34 rfl rfl ?_
          refine V_isubN (pc' := 36) hX dX0_makeRoom_35 (by omega) rfl ?_
          refine V_istore_n (pc' := 37) (lv' := [_, _, _, _]) hX dX0_makeRoom_36 (Nat.le_of_ble_eq_true rfl) rfl rfl ?_
          refine V_aload_n (pc' := 38) hX dX0_makeRoom_37 rfl rfl ?_
          refine V_get (pc' := 41) hX dX0_makeRoom_38 h0 rfl inX0 0 (by decide) wF_X0_9 rfl rfl ?_
          refine V_iload_n (pc' := 42) hX dX0_makeRoom_41 rfl rfl ?_
          refine V_aload_n (pc' := 43) hX dX0_makeRoom_42 rfl rfl ?_
          refine V_get (pc' := 46) hX dX0_makeRoom_43 h0 rfl inX0 0 (by decide) wF_X0_9 rfl rfl ?_
          refine V_iload_n (pc' := 47) hX dX0_makeRoom_46 rfl rfl ?_
          refine V_iconst (pc' := 48) (v := nI 1) hX dX0_makeRoom_47 (by decide) rfl ?_
          refine V_iaddN (pc' := 49) hX dX0_makeRoom_48 rfl ?_
          refine V_iload_n (pc' := 50) hX dX0_makeRoom_49 rfl rfl ?_
          refine V_copyN (pc' := 53) hX dX0_makeRoom_50 wM_X0_42 h1 h1 (by omega) (by omega) (by omega) (by omega) (by omega) rfl (Nat.le_of_ble_eq_true rfl) rfl ?_
          refine V_aload_n (pc' := 54) hX dX0_makeRoom_53 rfl rfl ?_
          refine V_get (pc' := 57) hX dX0_makeRoom_54 ((hup_n (by omega)).trans h0) rfl inX0 1 (by decide) wF_X0_15 rfl rfl ?_
          refine V_iload_n (pc' := 58) hX dX0_makeRoom_57 rfl rfl ?_
          refine V_aload_n (pc' := 59) hX dX0_makeRoom_58 rfl rfl ?_
          refine V_get (pc' := 62) hX dX0_makeRoom_59 ((hup_n (by omega)).trans h0) rfl inX0 1 (by decide) wF_X0_15 rfl rfl ?_
          refine V_iload_n (pc' := 63) hX dX0_makeRoom_62 rfl rfl ?_
          refine V_iconst (pc' := 64) (v := nI 1) hX dX0_makeRoom_63 (by decide) rfl ?_
          refine V_iaddN (pc' := 65) hX dX0_makeRoom_64 rfl ?_
          refine V_iload_n (pc' := 66) hX dX0_makeRoom_65 rfl rfl ?_
          refine V_copyN (pc' := 69) hX dX0_makeRoom_66 wM_X0_42 ((hup_n (by omega)).trans h2) ((hup_n (by omega)).trans h2) (by omega) (by omega) (by omega) (by omega) (by omega) rfl (Nat.le_of_ble_eq_true rfl) rfl ?_
          refine V_aload_n (pc' := 70) hX dX0_makeRoom_69 rfl rfl ?_
          refine V_get (pc' := 73) hX dX0_makeRoom_70 ((hup_n (by omega)).trans ((hup_n (by omega)).trans h0)) rfl inX0 2 (by decide) wF_X0_18 rfl rfl ?_
          refine V_iload_n (pc' := 74) hX dX0_makeRoom_73 rfl rfl ?_
          refine V_aload_n (pc' := 75) hX dX0_makeRoom_74 rfl rfl ?_
          refine V_get (pc' := 78) hX dX0_makeRoom_75 ((hup_n (by omega)).trans ((hup_n (by omega)).trans h0)) rfl inX0 2 (by decide) wF_X0_18 rfl rfl ?_
          refine V_iload_n (pc' := 79) hX dX0_makeRoom_78 rfl rfl ?_
          refine V_iconst (pc' := 80) (v := nI 1) hX dX0_makeRoom_79 (by decide) rfl ?_
          refine V_iaddN (pc' := 81) hX dX0_makeRoom_80 rfl ?_
          refine V_iload_n (pc' := 82) hX dX0_makeRoom_81 rfl rfl ?_
          refine V_copyN (pc' := 85) hX dX0_makeRoom_82 wM_X0_42 ((hup_n (by omega)).trans ((hup_n (by omega)).trans h3)) ((hup_n (by omega)).trans ((hup_n (by omega)).trans h3)) (by omega) (by omega) (by omega) (by omega) (by omega) rfl (Nat.le_of_ble_eq_true rfl) rfl ?_
          refine V_aload_n (pc' := 86) hX dX0_makeRoom_85 rfl rfl ?_
          refine V_get (pc' := 89) hX dX0_makeRoom_86 ((hup_n (by omega)).trans ((hup_n (by omega)).trans ((hup_n (by omega)).trans h0))) rfl inX0 3 (by decide) wF_X0_21 rfl rfl ?_
          refine V_iload_n (pc' := 90) hX dX0_makeRoom_89 rfl rfl ?_
          refine V_aload_n (pc' := 91) hX dX0_makeRoom_90 rfl rfl ?_
          refine V_get (pc' := 94) hX dX0_makeRoom_91 ((hup_n (by omega)).trans ((hup_n (by omega)).trans ((hup_n (by omega)).trans h0))) rfl inX0 3 (by decide) wF_X0_21 rfl rfl ?_
          refine V_iload_n (pc' := 95) hX dX0_makeRoom_94 rfl rfl ?_
          refine V_iconst (pc' := 96) (v := nI 1) hX dX0_makeRoom_95 (by decide) rfl ?_
          refine V_iaddN (pc' := 97) hX dX0_makeRoom_96 rfl ?_
          refine V_iload_n (pc' := 98) hX dX0_makeRoom_97 rfl rfl ?_
          refine V_copyJN (pc' := 101) hX dX0_makeRoom_98 wM_X0_42 ((hup_n (by omega)).trans ((hup_n (by omega)).trans ((hup_n (by omega)).trans h4))) ((hup_n (by omega)).trans ((hup_n (by omega)).trans ((hup_n (by omega)).trans h4))) (by omega) (by omega) (by omega) (by omega) (by omega) rfl (Nat.le_of_ble_eq_true rfl) rfl ?_
          refine V_aload_n (pc' := 102) hX dX0_makeRoom_101 rfl rfl ?_
          refine V_get (pc' := 105) hX dX0_makeRoom_102 ((hup_n (by omega)).trans ((hup_n (by omega)).trans ((hup_n (by omega)).trans ((hup_n (by omega)).trans h0)))) rfl inX0 4 (by decide) wF_X0_25 rfl rfl ?_
          refine V_iload_n (pc' := 106) hX dX0_makeRoom_105 rfl rfl ?_
          refine V_aload_n (pc' := 107) hX dX0_makeRoom_106 rfl rfl ?_
          refine V_get (pc' := 110) hX dX0_makeRoom_107 ((hup_n (by omega)).trans ((hup_n (by omega)).trans ((hup_n (by omega)).trans ((hup_n (by omega)).trans h0)))) rfl inX0 4 (by decide) wF_X0_25 rfl rfl ?_
          refine V_iload_n (pc' := 111) hX dX0_makeRoom_110 rfl rfl ?_
          refine V_iconst (pc' := 112) (v := nI 1) hX dX0_makeRoom_111 (by decide) rfl ?_
          refine V_iaddN (pc' := 113) hX dX0_makeRoom_112 rfl ?_
          refine V_iload_n (pc' := 114) hX dX0_makeRoom_113 rfl rfl ?_
          refine V_copyJN (pc' := 117) hX dX0_makeRoom_114 wM_X0_42 ((hup_n (by omega)).trans ((hup_n (by omega)).trans ((hup_n (by omega)).trans ((hup_n (by omega)).trans h5)))) ((hup_n (by omega)).trans ((hup_n (by omega)).trans ((hup_n (by omega)).trans ((hup_n (by omega)).trans h5)))) (by omega) (by omega) (by omega) (by omega) (by omega) rfl (Nat.le_of_ble_eq_true rfl) rfl ?_
          refine V_aload_n (pc' := 118) hX dX0_makeRoom_117 rfl rfl ?_
          refine V_iload_n (pc' := 119) hX dX0_makeRoom_118 rfl rfl ?_
          refine V_iload_n (pc' := 120) hX dX0_makeRoom_119 rfl rfl ?_
          refine V_iaddN (pc' := 121) hX dX0_makeRoom_120 rfl ?_
          refine V_iconst (pc' := 122) (v := nI 1) hX dX0_makeRoom_121 (by decide) rfl ?_
          refine V_iaddN (pc' := 123) hX dX0_makeRoom_122 rfl ?_
          rw [show p + (min sz (mo - 1) - p) + 1 = min sz (mo - 1) + 1 by omega]
          refine V_put (pc' := 126) (fs' := [_, _, _, _, _, _]) (ty0 := tyX0) hX dX0_makeRoom_123 ((hup_n (by omega)).trans ((hup_n (by omega)).trans ((hup_n (by omega)).trans ((hup_n (by omega)).trans ((hup_n (by omega)).trans h0))))) rfl inX0 tyX0_ok nmX0 5 (by decide) wF_X0_28 rfl (tyX0_ok 5 (by decide)) rfl rfl (Nat.le_of_ble_eq_true rfl) rfl rfl ?_
          refine V_vret hX hR dX0_makeRoom_126 ?_
          exact ⟨rfl, rfl, ⟨hup_s, ((hup_n (by omega)).trans ((hup_n (by omega)).trans ((hup_n (by omega)).trans ((hup_n (by omega)).trans ((hup_n (by omega)).trans hup_s))))), ((hup_n (by omega)).trans ((hup_n (by omega)).trans ((hup_n (by omega)).trans ((hup_n (by omega)).trans hup_s)))), ((hup_n (by omega)).trans ((hup_n (by omega)).trans ((hup_n (by omega)).trans hup_s))), ((hup_n (by omega)).trans ((hup_n (by omega)).trans hup_s)), ((hup_n (by omega)).trans hup_s)⟩, (fr.up (fr.up (fr.up (fr.up (fr.up (fr.up fr.rf (by omega) (by omega)) (by omega) (by omega)) (by omega) (by omega)) (by omega) (by omega)) (by omega) (by omega)) (by omega) (by omega))⟩
        · omega
