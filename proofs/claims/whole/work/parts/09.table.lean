set_option maxRecDepth 100000 in
set_option maxHeartbeats 4000000 in
theorem c_Table_init {G : Gd} {z : Nat} {h : AH} {a cap : Nat} (ha : h a = some (oO 5 [.null, .null, .int 0])) (hz : z = a + 1) (hcap : cap ≤ 1800) : Ct G yX5_init cX5_init 2 none 1 2 (cap + cap) [.ref a, .int (nI cap)] z h (fun r z' h' => r = none ∧ z' = a + 3 ∧ tabAt G h' a cap (fun _ => 0) (fun _ => 0) 0 ∧ fr a (a + 3) h h') := by
  refine Ct.of (lv := [_, _]) (by decide) (Nat.le_of_ble_eq_true rfl) rfl ?_
  rintro X rfl hX hR hnm
  subst hz
  refine V_aload_n (pc' := 1) hX dX5_init_0 rfl rfl ?_
  refine V_objInit (pc' := 4) hX dX5_init_1 wM_X5_1 wI_objInit wC_objInit (by omega) rfl rfl rfl ?_
  refine V_aload_n (pc' := 5) hX dX5_init_4 rfl rfl ?_
  refine V_iload_n (pc' := 6) hX dX5_init_5 rfl rfl ?_
  refine V_newIN (pc' := 8) hX dX5_init_6 (by omega) (by omega) (by omega) rfl ?_
  simp only [Nat.zero_add]
  refine V_putF (pc' := 11) (fs' := [_, _, _]) (ty0 := tyX5) hX dX5_init_8 (hnm.trans rfl) ((hup_n (by omega)).trans ha) rfl inX5 tyX5_ok nmX5 0 (by decide) wF_X5_7 rfl rfl (tyX5_ok 0 (by decide)) rfl rfl (Nat.le_of_ble_eq_true rfl) rfl rfl ?_
  refine V_aload_n (pc' := 12) hX dX5_init_11 rfl rfl ?_
  refine V_iload_n (pc' := 13) hX dX5_init_12 rfl rfl ?_
  refine V_newIN (pc' := 15) hX dX5_init_13 (by omega) (by omega) (by omega) rfl ?_
  simp only [Nat.reduceAdd]
  refine V_putF (pc' := 18) (fs' := [_, _, _]) (ty0 := tyX5) hX dX5_init_15 (hnm.trans rfl) ((hup_n (by omega)).trans hup_s) rfl inX5 tyX5_ok nmX5 1 (by decide) wF_X5_13 rfl rfl (tyX5_ok 1 (by decide)) rfl rfl (Nat.le_of_ble_eq_true rfl) rfl rfl ?_
  refine V_vret hX hR dX5_init_18 ?_
  exact ⟨rfl, rfl, ⟨hup_s, ((hup_n (by omega)).trans ((hup_n (by omega)).trans ((hup_n (by omega)).trans hup_s))), ((hup_n (by omega)).trans hup_s)⟩, (fr.up (fr.up (fr.up (fr.up fr.rf (by omega) (by omega)) (by omega) (by omega)) (by omega) (by omega)) (by omega) (by omega))⟩
set_option maxRecDepth 100000 in
set_option maxHeartbeats 4000000 in
theorem c_Table_clear {G : Gd} {z : Nat} {h : AH} {a cap sz : Nat} {tn tv : Nat → Nat} (hT : tabAt G h a cap tn tv sz) : Ct G yX5_clear cX5_clear 1 none 0 0 0 [.ref a] z h (fun r z' h' => r = none ∧ z' = z ∧ tabAt G h' a cap tn tv 0 ∧ fr a (a + 3) h h') := by
  refine Ct.of (lv := [_]) (by decide) (Nat.le_of_ble_eq_true rfl) rfl ?_
  rintro X rfl hX hR hnm
  obtain ⟨h0, h1, h2⟩ := id hT
  refine V_aload_n (pc' := 1) hX dX5_clear_0 rfl rfl ?_
  refine V_iconst (pc' := 2) (v := nI 0) hX dX5_clear_1 (by decide) rfl ?_
  refine V_put (pc' := 5) (fs' := [_, _, _]) (ty0 := tyX5) hX dX5_clear_2 h0 rfl inX5 tyX5_ok nmX5 2 (by decide) wF_X5_16 rfl (tyX5_ok 2 (by decide)) rfl rfl (Nat.le_of_ble_eq_true rfl) rfl rfl ?_
  refine V_vret hX hR dX5_clear_5 ?_
  exact ⟨rfl, rfl, ⟨hup_s, ((hup_n (by omega)).trans h1), ((hup_n (by omega)).trans h2)⟩, (fr.up fr.rf (by omega) (by omega))⟩
set_option maxRecDepth 100000 in
set_option maxHeartbeats 4000000 in
theorem c_Table_placeOf {G : Gd} {z : Nat} {h : AH} {a cap sz : Nat} {tn tv : Nat → Nat} (v : Int32) (hT : tabAt G h a cap tn tv sz) (hO : tabOk cap tn sz) : Ct G yX5_placeOf cX5_placeOf 5 (some .int) 0 0 0 [.ref a, .int v] z h (fun r z' h' => ∃ p, r = some (.int (nI p)) ∧ z' = z ∧ h' = h ∧ tabPl tn sz v p) := by
  refine Ct.of (lv := [_, _, _, _, _]) (by decide) (Nat.le_of_ble_eq_true rfl) rfl ?_
  rintro X rfl hX hR hnm
  obtain ⟨h0, h1, h2⟩ := id hT
  obtain ⟨o1, o2, o3, o4⟩ := id hO
  refine V_iconst (pc' := 1) (v := nI 0) hX dX5_placeOf_0 (by decide) rfl ?_
  refine V_istore_n (pc' := 2) (lv' := [_, _, _, _, _]) hX dX5_placeOf_1 (Nat.le_of_ble_eq_true rfl) rfl rfl ?_
  refine V_aload_n (pc' := 3) hX dX5_placeOf_2 rfl rfl ?_
  refine V_get (pc' := 6) hX dX5_placeOf_3 h0 rfl inX5 2 (by decide) wF_X5_16 rfl rfl ?_
  refine V_istore_n (pc' := 7) (lv' := [_, _, _, _, _]) hX dX5_placeOf_6 (Nat.le_of_ble_eq_true rfl) rfl rfl ?_
  have lp : ∀ (μ lo hi : Nat), lo ≤ hi → hi ≤ sz → (∀ j, j < lo → (tn j : Int) < v.toInt) → (∀ j, hi ≤ j → j < sz → v.toInt ≤ (tn j : Int)) → hi - lo < μ → V X 0 0 z h 7 [some (.ref a), some (.int v), some (.int (nI lo)), some (.int (nI hi)), none] [] := by
    intro μ
    induction μ with
    | zero => intros; omega
    | succ μ ih =>
      intro lo hi b1 b2 b3 b4 b5
      refine V_iload_n (pc' := 8) hX dX5_placeOf_7 rfl rfl ?_
      refine V_iload_n (pc' := 9) hX dX5_placeOf_8 rfl rfl ?_
      refine V_icmp_geN (pt := 44) (pc' := 12) hX dX5_placeOf_9 (by omega) (by omega) rfl rfl (fun c9 => ?_) (fun c9 => ?_)
      · refine V_iload_n (pc' := 45) hX dX5_placeOf_44 rfl rfl ?_
        refine V_iret hX hR dX5_placeOf_45 ?_
        exact ⟨lo, rfl, rfl, rfl, by omega, b3, fun j q1 q2 => b4 j (by omega) q2⟩
      · refine V_iload_n (pc' := 13) hX dX5_placeOf_12 rfl rfl ?_
        refine V_iload_n (pc' := 14) hX dX5_placeOf_13 rfl rfl ?_
        refine V_iaddN (pc' := 15) hX dX5_placeOf_14 rfl ?_
        refine V_iconst (pc' := 16) (v := nI 1) hX dX5_placeOf_15 (by decide) rfl ?_
        refine V_iushr (pc' := 17) hX dX5_placeOf_16 rfl ?_
        refine V.eqi (pk_ushrN (by omega) (nI 1) 1 (by decide)) ?_
        obtain ⟨m, em⟩ : ∃ m, m = (lo + hi) / 2 ^ 1 := ⟨_, rfl⟩
        rw [← em]
        refine V_istore (pc' := 19) (lv' := [_, _, _, _, _]) hX dX5_placeOf_17 (Nat.le_of_ble_eq_true rfl) rfl rfl ?_
        refine V_aload_n (pc' := 20) hX dX5_placeOf_19 rfl rfl ?_
        refine V_get (pc' := 23) hX dX5_placeOf_20 h0 rfl inX5 0 (by decide) wF_X5_7 rfl rfl ?_
        refine V_iload (pc' := 25) hX dX5_placeOf_23 rfl rfl ?_
        refine V_ialdN (pc' := 26) hX dX5_placeOf_25 h1 (by omega) (by omega) rfl rfl ?_
        refine V_iload_n (pc' := 27) hX dX5_placeOf_26 rfl rfl ?_
        refine V_icmp_ge (pt := 38) (pc' := 30) hX dX5_placeOf_27 rfl rfl (fun c27 => ?_) (fun c27 => ?_)
        · have hc : v.toInt ≤ (tn m : Int) := (i32_nI' (by have := o3 m (by omega); omega)).mp c27
          have hhi : ∀ j, m ≤ j → j < sz → v.toInt ≤ (tn j : Int) := fun j q1 q2 => by
            rcases Nat.lt_or_ge m j with q | q
            · have := o4 m j q q2; omega
            · rw [show j = m by omega]; exact hc
          refine V_iload (pc' := 40) hX dX5_placeOf_38 rfl rfl ?_
          refine V_istore_n (pc' := 41) (lv' := [_, _, _, _, _]) hX dX5_placeOf_40 (Nat.le_of_ble_eq_true rfl) rfl rfl ?_
          refine V_goto (pc' := 7) hX dX5_placeOf_41 rfl ?_
          refine V.loc2 (lv' := [some _, some _, some _, some _, none]) ⟨rfl, rfl, rfl, rfl, trivial⟩ ?_
          first
            | exact ih _ _ (by omega) (by omega) hlo b4 (by omega)
            | exact ih _ _ (by omega) (by omega) b3 hhi (by omega)
        · have hc : (tn m : Int) < v.toInt := by
            have := mt (i32_nI' (x := v) (n := tn m) (by have := o3 m (by omega); omega)).mpr c27
            omega
          have hlo : ∀ j, j < m + 1 → (tn j : Int) < v.toInt := fun j q1 => by
            rcases Nat.lt_or_ge j m with q | q
            · have := o4 j m q (by omega); omega
            · rw [show j = m by omega]; exact hc
          refine V_iload (pc' := 32) hX dX5_placeOf_30 rfl rfl ?_
          refine V_iconst (pc' := 33) (v := nI 1) hX dX5_placeOf_32 (by decide) rfl ?_
          refine V_iaddN (pc' := 34) hX dX5_placeOf_33 rfl ?_
          refine V_istore_n (pc' := 35) (lv' := [_, _, _, _, _]) hX dX5_placeOf_34 (Nat.le_of_ble_eq_true rfl) rfl rfl ?_
          refine V_goto (pc' := 41) hX dX5_placeOf_35 rfl ?_
          refine V_goto (pc' := 7) hX dX5_placeOf_41 rfl ?_
          refine V.loc2 (lv' := [some _, some _, some _, some _, none]) ⟨rfl, rfl, rfl, rfl, trivial⟩ ?_
          first
            | exact ih _ _ (by omega) (by omega) hlo b4 (by omega)
            | exact ih _ _ (by omega) (by omega) b3 hhi (by omega)
  refine V.loc2 (lv' := [some _, some _, some _, some _, none]) ⟨rfl, rfl, rfl, rfl, trivial⟩ ?_
  exact lp (sz + 1) 0 sz (by omega) (by omega) (fun j hj => by omega) (fun j h1 h2 => by omega) (by omega)
set_option maxRecDepth 100000 in
set_option maxHeartbeats 4000000 in
theorem c_Table_isAt {G : Gd} {z : Nat} {h : AH} {a cap sz : Nat} {tn tv : Nat → Nat} (v : Int32) (p : Nat) (hp : p ≤ sz) (hT : tabAt G h a cap tn tv sz) (hO : tabOk cap tn sz) : Ct G yX5_isAt cX5_isAt 3 (some .boolean) 0 0 0 [.ref a, .int v, .int (nI p)] z h (fun r z' h' => r = some (.int (bI (decide (p < sz ∧ (tn p : Int) = v.toInt)))) ∧ z' = z ∧ h' = h) := by
  refine Ct.of (lv := [_, _, _]) (by decide) (Nat.le_of_ble_eq_true rfl) rfl ?_
  rintro X rfl hX hR hnm
  obtain ⟨h0, h1, h2⟩ := id hT
  obtain ⟨o1, o2, o3, o4⟩ := id hO
  refine V_iload_n (pc' := 1) hX dX5_isAt_0 rfl rfl ?_
  refine V_aload_n (pc' := 2) hX dX5_isAt_1 rfl rfl ?_
  refine V_get (pc' := 5) hX dX5_isAt_2 h0 rfl inX5 2 (by decide) wF_X5_16 rfl rfl ?_
  refine V_icmp_geN (pt := 22) (pc' := 8) hX dX5_isAt_5 (by omega) (by omega) rfl rfl (fun c5 => ?_) (fun c5 => ?_)
  · refine V_iconst (pc' := 23) (v := nI 0) hX dX5_isAt_22 (by decide) rfl ?_
    refine V_zret hX hR dX5_isAt_23 (by rfl) ?_
    exact ⟨by rw [decide_eq_false (by omega)]; rfl, rfl, rfl⟩
  · refine V_aload_n (pc' := 9) hX dX5_isAt_8 rfl rfl ?_
    refine V_get (pc' := 12) hX dX5_isAt_9 h0 rfl inX5 0 (by decide) wF_X5_7 rfl rfl ?_
    refine V_iload_n (pc' := 13) hX dX5_isAt_12 rfl rfl ?_
    refine V_ialdN (pc' := 14) hX dX5_isAt_13 h1 (by omega) (by omega) rfl rfl ?_
    refine V_iload_n (pc' := 15) hX dX5_isAt_14 rfl rfl ?_
    refine V_icmp_ne (pt := 22) (pc' := 18) hX dX5_isAt_15 rfl rfl (fun c15 => ?_) (fun c15 => ?_)
    · have hc : ¬ (tn p : Int) = v.toInt := mt (i32_nIe (by have := o3 p (by omega); omega)).mpr c15
      refine V_iconst (pc' := 23) (v := nI 0) hX dX5_isAt_22 (by decide) rfl ?_
      refine V_zret hX hR dX5_isAt_23 (by rfl) ?_
      exact ⟨by rw [decide_eq_false (by omega)]; rfl, rfl, rfl⟩
    · have hc : (tn p : Int) = v.toInt := (i32_nIe (by have := o3 p (by omega); omega)).mp c15
      refine V_iconst (pc' := 19) (v := nI 1) hX dX5_isAt_18 (by decide) rfl ?_
      refine V_goto (pc' := 23) hX dX5_isAt_19 rfl ?_
      refine V_zret hX hR dX5_isAt_23 (by rfl) ?_
      exact ⟨by rw [decide_eq_true (by omega)]; rfl, rfl, rfl⟩
set_option maxRecDepth 100000 in
set_option maxHeartbeats 4000000 in
theorem c_Table_valueOf {G : Gd} {z : Nat} {h : AH} {a cap sz : Nat} {tn tv : Nat → Nat} (v o : Int32) (hT : tabAt G h a cap tn tv sz) (hO : tabOk cap tn sz) : Ct G yX5_valueOf cX5_valueOf 4 (some .int) 1 0 0 [.ref a, .int v, .int o] z h (fun r z' h' => ∃ x, r = some (.int x) ∧ z' = z ∧ h' = h ∧ ((∃ j, j < sz ∧ (tn j : Int) = v.toInt ∧ x = nI (tv j)) ∨ ((∀ j, j < sz → (tn j : Int) ≠ v.toInt) ∧ x = o))) := by
  refine Ct.of (lv := [_, _, _, _]) (by decide) (Nat.le_of_ble_eq_true rfl) rfl ?_
  rintro X rfl hX hR hnm
  obtain ⟨h0, h1, h2⟩ := id hT
  obtain ⟨o1, o2, o3, o4⟩ := id hO
  refine V_aload_n (pc' := 1) hX dX5_valueOf_0 rfl rfl ?_
  refine V_iload_n (pc' := 2) hX dX5_valueOf_1 rfl rfl ?_
  refine V_callV (nA := 1) (pc' := 5) (k' := 0) (n' := 0) hX dX5_valueOf_2 (c_Table_placeOf v hT hO) h0 rfl wM_X5_20 wI_X5_placeOf wL_X5_placeOf wN_X5 wC_X5_placeOf rfl hy_X5_placeOf rfl (Nat.le_of_ble_eq_true rfl) (by decide) (by omega) rfl rfl (by omega) rfl (by omega) rfl ?_
  rintro _ z h ⟨p, rfl, rfl, rfl, hp⟩
  refine V.stk (st' := [_]) rfl ?_
  refine V_istore_n (pc' := 6) (lv' := [_, _, _, _]) hX dX5_valueOf_5 (Nat.le_of_ble_eq_true rfl) rfl rfl ?_
  refine V_aload_n (pc' := 7) hX dX5_valueOf_6 rfl rfl ?_
  refine V_iload_n (pc' := 8) hX dX5_valueOf_7 rfl rfl ?_
  refine V_iload_n (pc' := 9) hX dX5_valueOf_8 rfl rfl ?_
  refine V_callV (nA := 2) (pc' := 12) (k' := 0) (n' := 0) hX dX5_valueOf_9 (c_Table_isAt v p hp.1 hT hO) h0 rfl wM_X5_24 wI_X5_isAt wL_X5_isAt wN_X5 wC_X5_isAt rfl hy_X5_isAt rfl (Nat.le_of_ble_eq_true rfl) (by decide) (by omega) rfl rfl (by omega) rfl (by omega) rfl ?_
  rintro _ z h ⟨rfl, rfl, rfl⟩
  refine V.stk (st' := [_]) rfl ?_
  refine V_if_eqB (pt := 24) (pc' := 15) hX dX5_valueOf_12 rfl rfl (fun c12 => ?_) (fun c12 => ?_)
  · have hc := of_decide_eq_false c12
    refine V_iload_n (pc' := 25) hX dX5_valueOf_24 rfl rfl ?_
    refine V_iret hX hR dX5_valueOf_25 ?_
    exact ⟨_, rfl, rfl, rfl, Or.inr ⟨tabPl_no hO hp hc, rfl⟩⟩
  · have hc := of_decide_eq_true c12
    refine V_aload_n (pc' := 16) hX dX5_valueOf_15 rfl rfl ?_
    refine V_get (pc' := 19) hX dX5_valueOf_16 h0 rfl inX5 1 (by decide) wF_X5_13 rfl rfl ?_
    refine V_iload_n (pc' := 20) hX dX5_valueOf_19 rfl rfl ?_
    refine V_ialdN (pc' := 21) hX dX5_valueOf_20 h2 (by omega) (by omega) rfl rfl ?_
    refine V_goto (pc' := 25) hX dX5_valueOf_21 rfl ?_
    refine V_iret hX hR dX5_valueOf_25 ?_
    exact ⟨_, rfl, rfl, rfl, Or.inl ⟨p, hc.1, hc.2, rfl⟩⟩
set_option maxRecDepth 100000 in
set_option maxHeartbeats 4000000 in
theorem c_Table_write {G : Gd} {z : Nat} {h : AH} {a cap sz : Nat} {tn tv : Nat → Nat} (k w : Nat) (hk : k < 1000000) (hT : tabAt G h a cap tn tv sz) (hO : tabOk cap tn sz) : Ct G yX5_write cX5_write 4 (some .boolean) 1 0 0 [.ref a, .int (nI k), .int (nI w)] z h (fun r z' h' => ∃ (b : Bool) (tn' tv' : Nat → Nat) (sz' : Nat), r = some (.int (bI b)) ∧ z' = z ∧ tabAt G h' a cap tn' tv' sz' ∧ tabOk cap tn' sz' ∧ fr a (a + 3) h h' ∧ (b = true → (∀ u, tget tn' tv' sz' u = if u = k then some w else tget tn tv sz u) ∧ sz' = if tget tn tv sz k = none then sz + 1 else sz) ∧ (b = false → tget tn tv sz k = none ∧ sz = cap ∧ tn' = tn ∧ tv' = tv ∧ sz' = sz) ∧ (sz < cap → b = true)) := by
  refine Ct.of (lv := [_, _, _, _]) (by decide) (Nat.le_of_ble_eq_true rfl) rfl ?_
  rintro X rfl hX hR hnm
  obtain ⟨h0, h1, h2⟩ := id hT
  obtain ⟨o1, o2, o3, o4⟩ := id hO
  refine V_aload_n (pc' := 1) hX dX5_write_0 rfl rfl ?_
  refine V_iload_n (pc' := 2) hX dX5_write_1 rfl rfl ?_
  refine V_callV (nA := 1) (pc' := 5) (k' := 0) (n' := 0) hX dX5_write_2 (c_Table_placeOf (nI k) hT hO) h0 rfl wM_X5_20 wI_X5_placeOf wL_X5_placeOf wN_X5 wC_X5_placeOf rfl hy_X5_placeOf rfl (Nat.le_of_ble_eq_true rfl) (by decide) (by omega) rfl rfl (by omega) rfl (by omega) rfl ?_
  rintro _ z h ⟨p, rfl, rfl, rfl, hp⟩
  have hp1 := hp.1
  refine V.stk (st' := [_]) rfl ?_
  refine V_istore_n (pc' := 6) (lv' := [_, _, _, _]) hX dX5_write_5 (Nat.le_of_ble_eq_true rfl) rfl rfl ?_
  refine V_aload_n (pc' := 7) hX dX5_write_6 rfl rfl ?_
  refine V_iload_n (pc' := 8) hX dX5_write_7 rfl rfl ?_
  refine V_iload_n (pc' := 9) hX dX5_write_8 rfl rfl ?_
  have jn : ∀ (h' : AH) (tn' tv' : Nat → Nat) (sz' : Nat), tabAt X.G h' a cap tn' tv' sz' → fr a (a + 3) h h' → p < sz' → sz' ≤ cap → (tabOk cap tn' sz' ∧ (∀ u, tget tn' (va_up tv' p w) sz' u = if u = k then some w else tget tn tv sz u) ∧ sz' = if tget tn tv sz k = none then sz + 1 else sz) → V X 0 0 z h' 88 [some (.ref a), some (.int (nI k)), some (.int (nI w)), some (.int (nI p))] [] := by
    intro h' tn' tv' sz' j0 j1 j2 j3 j4
    obtain ⟨j5, j6, j7⟩ := j4
    obtain ⟨h0, h1, h2⟩ := id j0
    refine V_aload_n (pc' := 89) hX dX5_write_88 rfl rfl ?_
    refine V_get (pc' := 92) hX dX5_write_89 h0 rfl inX5 1 (by decide) wF_X5_13 rfl rfl ?_
    refine V_iload_n (pc' := 93) hX dX5_write_92 rfl rfl ?_
    refine V_iload_n (pc' := 94) hX dX5_write_93 rfl rfl ?_
    refine V_iastN (pc' := 95) hX dX5_write_94 h2 (by omega) (by omega) rfl ?_
    refine V_iconst (pc' := 96) (v := nI 1) hX dX5_write_95 (by decide) rfl ?_
    refine V_zret hX hR dX5_write_96 (by rfl) ?_
    exact ⟨true, tn', va_up tv' p w, sz', rfl, rfl, ⟨((hup_n (by omega)).trans h0), ((hup_n (by omega)).trans h1), hup_s⟩, j5, fr.up j1 (by omega) (by omega), fun _ => ⟨j6, j7⟩, (fun q => by cases q), fun _ => rfl⟩
  refine V_callV (nA := 2) (pc' := 12) (k' := 0) (n' := 0) hX dX5_write_9 (c_Table_isAt (nI k) p hp.1 hT hO) h0 rfl wM_X5_24 wI_X5_isAt wL_X5_isAt wN_X5 wC_X5_isAt rfl hy_X5_isAt rfl (Nat.le_of_ble_eq_true rfl) (by decide) (by omega) rfl rfl (by omega) rfl (by omega) rfl ?_
  rintro _ z h ⟨rfl, rfl, rfl⟩
  refine V.stk (st' := [_]) rfl ?_
  refine V_if_neB (pt := 88) (pc' := 15) hX dX5_write_12 rfl rfl (fun c12 => ?_) (fun c12 => ?_)
  · have hc := of_decide_eq_true c12
    have e : tn p = k := by have := hc.2; rw [nI_toInt (by omega)] at this; omega
    exact jn h tn tv sz hT fr.rf hc.1 o1 ⟨hO, fun u => by rw [tab_set hO hc.1 u, e], by rw [if_neg (by rw [← e, tget_at hO hc.1]; simp)]⟩
  · have hc := of_decide_eq_false c12
    have hne : ∀ j, j < sz → tn j ≠ k := fun j hj e => tabPl_no hO hp hc j hj (by rw [nI_toInt (by omega)]; omega)
    refine V_aload_n (pc' := 16) hX dX5_write_15 rfl rfl ?_
    refine V_get (pc' := 19) hX dX5_write_16 h0 rfl inX5 2 (by decide) wF_X5_16 rfl rfl ?_
    refine V_aload_n (pc' := 20) hX dX5_write_19 rfl rfl ?_
    refine V_get (pc' := 23) hX dX5_write_20 h0 rfl inX5 0 (by decide) wF_X5_7 rfl rfl ?_
    refine V_alenN (pc' := 24) hX dX5_write_23 h1 rfl ?_
    refine V_icmp_ltN (pt := 29) (pc' := 27) hX dX5_write_24 (by omega) (by omega) rfl rfl (fun c24 => ?_) (fun c24 => ?_)
    · refine V_aload_n (pc' := 30) hX dX5_write_29 rfl rfl ?_
      refine V_get (pc' := 33) hX dX5_write_30 h0 rfl inX5 0 (by decide) wF_X5_7 rfl rfl ?_
      refine V_iload_n (pc' := 34) hX dX5_write_33 rfl rfl ?_
      refine V_aload_n (pc' := 35) hX dX5_write_34 rfl rfl ?_
      refine V_get (pc' := 38) hX dX5_write_35 h0 rfl inX5 0 (by decide) wF_X5_7 rfl rfl ?_
      refine V_iload_n (pc' := 39) hX dX5_write_38 rfl rfl ?_
      refine V_iconst (pc' := 40) (v := nI 1) hX dX5_write_39 (by decide) rfl ?_
      refine V_iaddN (pc' := 41) hX dX5_write_40 rfl ?_
      refine V_aload_n (pc' := 42) hX dX5_write_41 rfl rfl ?_
      refine V_get (pc' := 45) hX dX5_write_42 h0 rfl inX5 2 (by decide) wF_X5_16 rfl rfl ?_
      refine V_iload_n (pc' := 46) hX dX5_write_45 rfl rfl ?_
      refine V_isubN (pc' := 47) hX dX5_write_46 (by omega) rfl ?_
      refine V_copyN (pc' := 50) hX dX5_write_47 wM_X5_35 h1 h1 (by omega) (by omega) (by omega) (by omega) (by omega) rfl (Nat.le_of_ble_eq_true rfl) rfl ?_
      refine V_aload_n (pc' := 51) hX dX5_write_50 rfl rfl ?_
      refine V_get (pc' := 54) hX dX5_write_51 ((hup_n (by omega)).trans h0) rfl inX5 1 (by decide) wF_X5_13 rfl rfl ?_
      refine V_iload_n (pc' := 55) hX dX5_write_54 rfl rfl ?_
      refine V_aload_n (pc' := 56) hX dX5_write_55 rfl rfl ?_
      refine V_get (pc' := 59) hX dX5_write_56 ((hup_n (by omega)).trans h0) rfl inX5 1 (by decide) wF_X5_13 rfl rfl ?_
      refine V_iload_n (pc' := 60) hX dX5_write_59 rfl rfl ?_
      refine V_iconst (pc' := 61) (v := nI 1) hX dX5_write_60 (by decide) rfl ?_
      refine V_iaddN (pc' := 62) hX dX5_write_61 rfl ?_
      refine V_aload_n (pc' := 63) hX dX5_write_62 rfl rfl ?_
      refine V_get (pc' := 66) hX dX5_write_63 ((hup_n (by omega)).trans h0) rfl inX5 2 (by decide) wF_X5_16 rfl rfl ?_
      refine V_iload_n (pc' := 67) hX dX5_write_66 rfl rfl ?_
      refine V_isubN (pc' := 68) hX dX5_write_67 (by omega) rfl ?_
      refine V_copyN (pc' := 71) hX dX5_write_68 wM_X5_35 ((hup_n (by omega)).trans h2) ((hup_n (by omega)).trans h2) (by omega) (by omega) (by omega) (by omega) (by omega) rfl (Nat.le_of_ble_eq_true rfl) rfl ?_
      refine V_aload_n (pc' := 72) hX dX5_write_71 rfl rfl ?_
      refine V_get (pc' := 75) hX dX5_write_72 ((hup_n (by omega)).trans ((hup_n (by omega)).trans h0)) rfl inX5 0 (by decide) wF_X5_7 rfl rfl ?_
      refine V_iload_n (pc' := 76) hX dX5_write_75 rfl rfl ?_
      refine V_iload_n (pc' := 77) hX dX5_write_76 rfl rfl ?_
      refine V_iastN (pc' := 78) hX dX5_write_77 ((hup_n (by omega)).trans hup_s) (by omega) (by omega) rfl ?_
      refine V_aload_n (pc' := 79) hX dX5_write_78 rfl rfl ?_
      refine V_dup (pc' := 80) hX dX5_write_79 rfl rfl ?_
      refine V_get (pc' := 83) hX dX5_write_80 ((hup_n (by omega)).trans ((hup_n (by omega)).trans ((hup_n (by omega)).trans h0))) rfl inX5 2 (by decide) wF_X5_16 rfl rfl ?_
      refine V_iconst (pc' := 84) (v := nI 1) hX dX5_write_83 (by decide) rfl ?_
      refine V_iaddN (pc' := 85) hX dX5_write_84 rfl ?_
      refine V_put (pc' := 88) (fs' := [_, _, _]) (ty0 := tyX5) hX dX5_write_85 ((hup_n (by omega)).trans ((hup_n (by omega)).trans ((hup_n (by omega)).trans h0))) rfl inX5 tyX5_ok nmX5 2 (by decide) wF_X5_16 rfl (tyX5_ok 2 (by decide)) rfl rfl (Nat.le_of_ble_eq_true rfl) rfl rfl ?_
      have q := tab_ins (tv := tv) (w := w) hO hp hne c24 hk
      refine jn _ (va_up (va_cpy tn tn p (p + 1) (sz - p)) p k) (va_cpy tv tv p (p + 1) (sz - p)) (sz + 1) ⟨hup_s, ((hup_n (by omega)).trans hup_s), ((hup_n (by omega)).trans ((hup_n (by omega)).trans hup_s))⟩ (fr.up (fr.up (fr.up (fr.up fr.rf (by omega) (by omega)) (by omega) (by omega)) (by omega) (by omega)) (by omega) (by omega)) (by have := hp.1; omega) (by omega) ⟨q.1, q.2, ?_⟩
      rw [if_pos (tget_no.mpr hne)]
    · refine V_iconst (pc' := 28) (v := nI 0) hX dX5_write_27 (by decide) rfl ?_
      refine V_zret hX hR dX5_write_28 rfl ?_
      exact ⟨false, tn, tv, sz, rfl, rfl, hT, hO, fr.rf, (fun q => by cases q), fun _ => ⟨tget_no.mpr hne, by omega, rfl, rfl, rfl⟩, fun q => by omega⟩
set_option maxRecDepth 100000 in
set_option maxHeartbeats 4000000 in
theorem c_Table_raise {G : Gd} {z : Nat} {h : AH} {a cap sz : Nat} {tn tv : Nat → Nat} (k : Nat) (hk : k < 1000000) (hroom : sz < cap) (hT : tabAt G h a cap tn tv sz) (hO : tabOk cap tn sz) : Ct G yX5_raise cX5_raise 2 none 2 0 0 [.ref a, .int (nI k)] z h (fun r z' h' => ∃ (tn' tv' : Nat → Nat) (sz' : Nat), r = none ∧ z' = z ∧ tabAt G h' a cap tn' tv' sz' ∧ tabOk cap tn' sz' ∧ fr a (a + 3) h h' ∧ (∀ u, tget tn' tv' sz' u = if u = k then some ((tget tn tv sz k).getD 0 + 1) else tget tn tv sz u) ∧ sz' = if tget tn tv sz k = none then sz + 1 else sz) := by
  refine Ct.of (lv := [_, _]) (by decide) (Nat.le_of_ble_eq_true rfl) rfl ?_
  rintro X rfl hX hR hnm
  obtain ⟨h0, h1, h2⟩ := id hT
  obtain ⟨o1, o2, o3, o4⟩ := id hO
  refine V_aload_n (pc' := 1) hX dX5_raise_0 rfl rfl ?_
  refine V_iload_n (pc' := 2) hX dX5_raise_1 rfl rfl ?_
  refine V_aload_n (pc' := 3) hX dX5_raise_2 rfl rfl ?_
  refine V_iload_n (pc' := 4) hX dX5_raise_3 rfl rfl ?_
  refine V_iconst (pc' := 5) (v := nI 0) hX dX5_raise_4 (by decide) rfl ?_
  refine V_callV (nA := 2) (pc' := 8) (k' := 0) (n' := 0) hX dX5_raise_5 (c_Table_valueOf (nI k) (nI 0) hT hO) h0 rfl wM_X5_28 wI_X5_valueOf wL_X5_valueOf wN_X5 wC_X5_valueOf rfl hy_X5_valueOf rfl (Nat.le_of_ble_eq_true rfl) (by decide) (by omega) rfl rfl (by omega) rfl (by omega) rfl ?_
  rintro _ z h ⟨x, rfl, rfl, rfl, hx⟩
  obtain ⟨y, ey, gy⟩ : ∃ y, x = nI y ∧ y = (tget tn tv sz k).getD 0 := by
    rcases hx with ⟨j, j1, j2, j3⟩ | ⟨j1, j2⟩
    · rw [nI_toInt (by omega)] at j2
      refine ⟨tv j, j3, ?_⟩
      rw [show k = tn j by omega, tget_at hO j1]; rfl
    · refine ⟨0, j2, ?_⟩
      rw [tget_no.mpr (fun j hj e => j1 j hj (by rw [nI_toInt (by omega)]; omega))]; rfl
  subst ey
  refine V.stk (st' := [_, _, _]) rfl ?_
  refine V_iconst (pc' := 9) (v := nI 1) hX dX5_raise_8 (by decide) rfl ?_
  refine V_iaddN (pc' := 10) hX dX5_raise_9 rfl ?_
  refine V_callV (nA := 2) (pc' := 13) (k' := 0) (n' := 0) hX dX5_raise_10 (c_Table_write k (y + 1) hk hT hO) h0 rfl wM_X5_32 wI_X5_write wL_X5_write wN_X5 wC_X5_write rfl hy_X5_write rfl (Nat.le_of_ble_eq_true rfl) (by decide) (by omega) rfl rfl (by omega) rfl (by omega) rfl ?_
  rintro _ z h' ⟨b, tn', tv', sz', rfl, rfl, q1, q2, q3, q4, -, q5⟩
  obtain ⟨q6, q7⟩ := q4 (q5 hroom)
  refine V.stk (st' := [_]) rfl ?_
  refine V_pop (pc' := 14) hX dX5_raise_13 rfl rfl ?_
  refine V_vret hX hR dX5_raise_14 ?_
  exact ⟨tn', tv', sz', rfl, rfl, q1, q2, q3, by rw [← gy]; exact q6, q7⟩
