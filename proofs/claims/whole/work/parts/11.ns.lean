set_option maxRecDepth 100000 in
set_option maxHeartbeats 4000000 in
theorem c_NS_init {G : Gd} {z : Nat} {h : AH} {q : Nat} (ha : h q = some (oO 3 [.null, .null, .int 0, .int 0])) (hz : z = q + 1) : Ct G yX3_init cX3_init 1 none 1 2 60 [.ref q] z h (fun r z' h' => r = none ∧ z' = q + 3 ∧ nsAt G h' q (fun _ => 0) (fun _ => 0) 0 0 ∧ fr q (q + 3) h h') := by
  refine Ct.of (lv := [_]) (by decide) (Nat.le_of_ble_eq_true rfl) rfl ?_
  rintro X rfl hX hR hnm
  subst hz
  refine V_aload_n (pc' := 1) hX dX3_init_0 rfl rfl ?_
  refine V_objInit (pc' := 4) hX dX3_init_1 wM_X3_3 wI_objInit wC_objInit (by omega) rfl rfl rfl ?_
  refine V_aload_n (pc' := 5) hX dX3_init_4 rfl rfl ?_
  refine V_bipush (pc' := 7) (v := nI 30) hX dX3_init_5 (by decide) rfl ?_
  refine V_newIN (pc' := 9) hX dX3_init_7 (by omega) (by omega) (by omega) rfl ?_
  simp only [Nat.zero_add]
  refine V_putF (pc' := 12) (fs' := [_, _, _, _]) (ty0 := tyX3) hX dX3_init_9 (hnm.trans rfl) ((hup_n (by omega)).trans ha) rfl inX3 tyX3_ok nmX3 0 (by decide) wF_X3_9 rfl rfl (tyX3_ok 0 (by decide)) rfl rfl (Nat.le_of_ble_eq_true rfl) rfl rfl ?_
  refine V_aload_n (pc' := 13) hX dX3_init_12 rfl rfl ?_
  refine V_bipush (pc' := 15) (v := nI 30) hX dX3_init_13 (by decide) rfl ?_
  refine V_newIN (pc' := 17) hX dX3_init_15 (by omega) (by omega) (by omega) rfl ?_
  simp only [Nat.reduceAdd]
  refine V_putF (pc' := 20) (fs' := [_, _, _, _]) (ty0 := tyX3) hX dX3_init_17 (hnm.trans rfl) ((hup_n (by omega)).trans hup_s) rfl inX3 tyX3_ok nmX3 1 (by decide) wF_X3_15 rfl rfl (tyX3_ok 1 (by decide)) rfl rfl (Nat.le_of_ble_eq_true rfl) rfl rfl ?_
  refine V_vret hX hR dX3_init_20 ?_
  exact ⟨rfl, rfl, ⟨hup_s, ((hup_n (by omega)).trans ((hup_n (by omega)).trans ((hup_n (by omega)).trans hup_s))), ((hup_n (by omega)).trans hup_s)⟩, (fr.up (fr.up (fr.up (fr.up fr.rf (by omega) (by omega)) (by omega) (by omega)) (by omega) (by omega)) (by omega) (by omega))⟩
set_option maxRecDepth 100000 in
set_option maxHeartbeats 4000000 in
theorem c_NS_keyOf {G : Gd} {z : Nat} {h : AH} {a cap sz : Nat} {tn tv : Nat → Nat} (k : Nat) (hk : k < 1000000) (hT : tabAt G h a cap tn tv sz) (hO : tabOk cap tn sz) : Ct G yX3_keyOf cX3_keyOf 2 (some .int) 2 0 0 [.int (nI k), .ref a] z h (fun r z' h' => r = some (.int (nI (kyF (tF tn tv sz) k))) ∧ z' = z ∧ h' = h) := by
  refine Ct.of (lv := [_, _]) (by decide) (Nat.le_of_ble_eq_true rfl) rfl ?_
  rintro X rfl hX hR hnm
  obtain ⟨h0, h1, h2⟩ := id hT
  refine V_aload_n (pc' := 1) hX dX3_keyOf_0 rfl rfl ?_
  refine V_iload_n (pc' := 2) hX dX3_keyOf_1 rfl rfl ?_
  refine V_iconst (pc' := 3) (v := nI 0) hX dX3_keyOf_2 (by decide) rfl ?_
  refine V_callV (nA := 2) (pc' := 6) (k' := 0) (n' := 0) hX dX3_keyOf_3 (c_Table_valueOf (nI k) (nI 0) hT hO) h0 rfl wM_X3_18 wI_X5_valueOf wL_X5_valueOf wN_X5 wC_X5_valueOf rfl hy_X5_valueOf rfl (Nat.le_of_ble_eq_true rfl) (by decide) (by omega) rfl rfl (by omega) rfl (by omega) rfl ?_
  rintro _ z h ⟨x, rfl, rfl, rfl, hx⟩
  obtain ⟨y, ey, gy⟩ : ∃ y, x = nI y ∧ y = (tget tn tv sz k).getD 0 := by
    rcases hx with ⟨j, j1, j2, j3⟩ | ⟨j1, j2⟩
    · rw [nI_toInt (by omega)] at j2
      refine ⟨tv j, j3, ?_⟩
      rw [show k = tn j by omega, tget_at hO j1]; rfl
    · refine ⟨0, j2, ?_⟩
      rw [tget_no.mpr (fun j hj e => j1 j hj (by rw [nI_toInt (by omega)]; omega))]; rfl
  subst ey
  refine V.stk (st' := [_]) rfl ?_
  refine V_ldcN (pc' := 8) (v' := nI 1000000) hX dX3_keyOf_6 wK_X3_24 (by decide) rfl ?_
  refine V_imulN (pc' := 9) hX dX3_keyOf_8 rfl ?_
  refine V_iload_n (pc' := 10) hX dX3_keyOf_9 rfl rfl ?_
  refine V_iaddN (pc' := 11) hX dX3_keyOf_10 rfl ?_
  refine V_iret hX hR dX3_keyOf_11 ?_
  unfold kyF tF; rw [← gy]; exact ⟨rfl, rfl, rfl⟩
set_option maxRecDepth 100000 in
set_option maxHeartbeats 4000000 in
theorem c_NS_numberAt {G : Gd} {z : Nat} {h : AH} {q sz am : Nat} {kf wf : Nat → Nat} (i : Int32) (hN : nsAt G h q kf wf sz am) (hO : nsOk kf wf sz am) : Ct G yX3_numberAt cX3_numberAt 2 (some .int) 0 0 0 [.ref q, .int i] z h (fun r z' h' => ∃ x, r = some (.int x) ∧ z' = z ∧ h' = h ∧ ((∃ j, j < sz ∧ i = nI j ∧ x = nI (kf j % 1000000)) ∨ ((i.toInt < 0 ∨ (sz : Int) ≤ i.toInt) ∧ x = -1))) := by
  refine Ct.of (lv := [_, _]) (by decide) (Nat.le_of_ble_eq_true rfl) rfl ?_
  rintro X rfl hX hR hnm
  obtain ⟨h0, h1, h2⟩ := id hN
  obtain ⟨o1, o2, o3, o4, o5⟩ := id hO
  have oam := hO.am
  refine V_iload_n (pc' := 1) hX dX3_numberAt_0 rfl rfl ?_
  refine V_if_lt (pt := 12) (pc' := 4) hX dX3_numberAt_1 rfl rfl (fun c1 => ?_) (fun c1 => ?_)
  · have hc : i.toInt < 0 := i32_lt.mp c1
    refine V_iconst (pc' := 13) (v := (-1)) hX dX3_numberAt_12 (by decide) rfl ?_
    refine V_goto (pc' := 25) hX dX3_numberAt_13 rfl ?_
    refine V_iret hX hR dX3_numberAt_25 ?_
    exact ⟨_, rfl, rfl, rfl, Or.inr ⟨Or.inl hc, rfl⟩⟩
  · obtain ⟨j, hj, rfl⟩ := nI_of c1
    refine V_iload_n (pc' := 5) hX dX3_numberAt_4 rfl rfl ?_
    refine V_aload_n (pc' := 6) hX dX3_numberAt_5 rfl rfl ?_
    refine V_get (pc' := 9) hX dX3_numberAt_6 h0 rfl inX3 2 (by decide) wF_X3_25 rfl rfl ?_
    refine V_icmp_ltN (pt := 16) (pc' := 12) hX dX3_numberAt_9 hj (by omega) rfl rfl (fun c9 => ?_) (fun c9 => ?_)
    · refine V_aload_n (pc' := 17) hX dX3_numberAt_16 rfl rfl ?_
      refine V_get (pc' := 20) hX dX3_numberAt_17 h0 rfl inX3 0 (by decide) wF_X3_9 rfl rfl ?_
      refine V_iload_n (pc' := 21) hX dX3_numberAt_20 rfl rfl ?_
      refine V_ialdN (pc' := 22) hX dX3_numberAt_21 h1 (by omega) (by omega) rfl rfl ?_
      refine V_ldcN (pc' := 24) (v' := nI 1000000) hX dX3_numberAt_22 wK_X3_24 (by decide) rfl ?_
      refine V_irem (pc' := 25) hX dX3_numberAt_24 (by decide) rfl ?_
      refine V.eqi (pk_rem (a := kf j) (d := 1000000) (by have := o2 j (by omega); omega) (by omega) (by omega)) ?_
      refine V_iret hX hR dX3_numberAt_25 ?_
      exact ⟨_, rfl, rfl, rfl, Or.inl ⟨j, c9, rfl, rfl⟩⟩
    · refine V_iconst (pc' := 13) (v := (-1)) hX dX3_numberAt_12 (by decide) rfl ?_
      refine V_goto (pc' := 25) hX dX3_numberAt_13 rfl ?_
      refine V_iret hX hR dX3_numberAt_25 ?_
      exact ⟨_, rfl, rfl, rfl, Or.inr ⟨Or.inr (by rw [nI_toInt hj]; omega), rfl⟩⟩
set_option maxRecDepth 100000 in
set_option maxHeartbeats 4000000 in
theorem c_NS_clear {G : Gd} {z : Nat} {h : AH} {q sz am : Nat} {kf wf : Nat → Nat} (hN : nsAt G h q kf wf sz am) : Ct G yX3_clear cX3_clear 1 none 0 0 0 [.ref q] z h (fun r z' h' => r = none ∧ z' = z ∧ nsAt G h' q kf wf 0 0 ∧ fr q (q + 3) h h') := by
  refine Ct.of (lv := [_]) (by decide) (Nat.le_of_ble_eq_true rfl) rfl ?_
  rintro X rfl hX hR hnm
  obtain ⟨h0, h1, h2⟩ := id hN
  refine V_aload_n (pc' := 1) hX dX3_clear_0 rfl rfl ?_
  refine V_iconst (pc' := 2) (v := nI 0) hX dX3_clear_1 (by decide) rfl ?_
  refine V_put (pc' := 5) (fs' := [_, _, _, _]) (ty0 := tyX3) hX dX3_clear_2 h0 rfl inX3 tyX3_ok nmX3 2 (by decide) wF_X3_25 rfl (tyX3_ok 2 (by decide)) rfl rfl (Nat.le_of_ble_eq_true rfl) rfl rfl ?_
  refine V_aload_n (pc' := 6) hX dX3_clear_5 rfl rfl ?_
  refine V_iconst (pc' := 7) (v := nI 0) hX dX3_clear_6 (by decide) rfl ?_
  refine V_put (pc' := 10) (fs' := [_, _, _, _]) (ty0 := tyX3) hX dX3_clear_7 hup_s rfl inX3 tyX3_ok nmX3 3 (by decide) wF_X3_29 rfl (tyX3_ok 3 (by decide)) rfl rfl (Nat.le_of_ble_eq_true rfl) rfl rfl ?_
  refine V_vret hX hR dX3_clear_10 ?_
  exact ⟨rfl, rfl, ⟨hup_s, ((hup_n (by omega)).trans ((hup_n (by omega)).trans h1)), ((hup_n (by omega)).trans ((hup_n (by omega)).trans h2))⟩, (fr.up (fr.up fr.rf (by omega) (by omega)) (by omega) (by omega))⟩
set_option maxRecDepth 100000 in
set_option maxHeartbeats 4000000 in
theorem c_NS_placeOf {G : Gd} {z : Nat} {h : AH} {q sz am : Nat} {kf wf : Nat → Nat} (k : Nat) (hk : k < 100000000) (hN : nsAt G h q kf wf sz am) (hO : nsOk kf wf sz am) : Ct G yX3_placeOf cX3_placeOf 3 (some .int) 0 0 0 [.ref q, .int (nI k)] z h (fun r z' h' => ∃ p, r = some (.int (nI p)) ∧ z' = z ∧ h' = h ∧ nsPl kf sz k p) := by
  refine Ct.of (lv := [_, _, _]) (by decide) (Nat.le_of_ble_eq_true rfl) rfl ?_
  rintro X rfl hX hR hnm
  obtain ⟨h0, h1, h2⟩ := id hN
  obtain ⟨o1, o2, o3, o4, o5⟩ := id hO
  have oam := hO.am
  refine V_iconst (pc' := 1) (v := nI 0) hX dX3_placeOf_0 (by decide) rfl ?_
  refine V_istore_n (pc' := 2) (lv' := [_, _, _]) hX dX3_placeOf_1 (Nat.le_of_ble_eq_true rfl) rfl rfl ?_
  have lp : ∀ (μ p : Nat), p ≤ sz → (∀ j, j < p → kf j < k) → sz - p < μ → V X 0 0 z h 2 [some (.ref q), some (.int (nI k)), some (.int (nI p))] [] := by
    intro μ
    induction μ with
    | zero => intros; omega
    | succ μ ih =>
      intro p b1 b2 b3
      refine V_iload_n (pc' := 3) hX dX3_placeOf_2 rfl rfl ?_
      refine V_aload_n (pc' := 4) hX dX3_placeOf_3 rfl rfl ?_
      refine V_get (pc' := 7) hX dX3_placeOf_4 h0 rfl inX3 2 (by decide) wF_X3_25 rfl rfl ?_
      refine V_icmp_geN (pt := 26) (pc' := 10) hX dX3_placeOf_7 (by omega) (by omega) rfl rfl (fun c7 => ?_) (fun c7 => ?_)
      · refine V_iload_n (pc' := 27) hX dX3_placeOf_26 rfl rfl ?_
        refine V_iret hX hR dX3_placeOf_27 ?_
        exact ⟨p, rfl, rfl, rfl, b1, b2, fun r => by omega⟩
      · refine V_aload_n (pc' := 11) hX dX3_placeOf_10 rfl rfl ?_
        refine V_get (pc' := 14) hX dX3_placeOf_11 h0 rfl inX3 0 (by decide) wF_X3_9 rfl rfl ?_
        refine V_iload_n (pc' := 15) hX dX3_placeOf_14 rfl rfl ?_
        refine V_ialdN (pc' := 16) hX dX3_placeOf_15 h1 (by omega) (by omega) rfl rfl ?_
        refine V_iload_n (pc' := 17) hX dX3_placeOf_16 rfl rfl ?_
        refine V_icmp_geN (pt := 26) (pc' := 20) hX dX3_placeOf_17 (by have := o2 p (by omega); omega) (by omega) rfl rfl (fun c17 => ?_) (fun c17 => ?_)
        · refine V_iload_n (pc' := 27) hX dX3_placeOf_26 rfl rfl ?_
          refine V_iret hX hR dX3_placeOf_27 ?_
          exact ⟨p, rfl, rfl, rfl, b1, b2, fun r => by omega⟩
        · refine V_iincN (pc' := 23) (j := 1) (lv' := [_, _, _]) hX dX3_placeOf_20 rfl rfl rfl rfl ?_
          refine V_goto (pc' := 2) hX dX3_placeOf_23 rfl ?_
          exact ih _ (by omega) (fun j hj => by
            rcases Nat.lt_or_ge j p with r | r
            · exact b2 j r
            · rw [show j = p by omega]; omega) (by omega)
  exact lp (sz + 1) 0 (by omega) (fun j hj => by omega) (by omega)
set_option maxRecDepth 100000 in
set_option maxHeartbeats 4000000 in
theorem c_NS_insert {G : Gd} {z : Nat} {h : AH} {q sz am : Nat} {kf wf : Nat → Nat} (k w : Nat) (hk : k < 100000000) (hw : w ≤ 100) (hN : nsAt G h q kf wf sz am) (hO : nsOk kf wf sz am) : Ct G yX3_insert cX3_insert 4 (some .boolean) 1 0 0 [.ref q, .int (nI k), .int (nI w)] z h (fun r z' h' => ∃ b : Bool, r = some (.int (bI b)) ∧ z' = z ∧ (b = false → h' = h ∧ (sz = 30 ∨ ∃ j, j < sz ∧ kf j = k)) ∧ (b = true → sz < 30 ∧ (∀ j, j < sz → kf j ≠ k) ∧ fr q (q + 3) h h' ∧ ∃ kf' wf' p, nsAt G h' q kf' wf' (sz + 1) (am + w) ∧ nsOk kf' wf' (sz + 1) (am + w) ∧ nsIn kf wf kf' wf' sz k w p)) := by
  refine Ct.of (lv := [_, _, _, _]) (by decide) (Nat.le_of_ble_eq_true rfl) rfl ?_
  rintro X rfl hX hR hnm
  obtain ⟨h0, h1, h2⟩ := id hN
  obtain ⟨o1, o2, o3, o4, o5⟩ := id hO
  have oam := hO.am
  refine V_aload_n (pc' := 1) hX dX3_insert_0 rfl rfl ?_
  refine V_iload_n (pc' := 2) hX dX3_insert_1 rfl rfl ?_
  refine V_callV (nA := 1) (pc' := 5) (k' := 0) (n' := 0) hX dX3_insert_2 (c_NS_placeOf k hk hN hO) h0 rfl wM_X3_32 wI_X3_placeOf wL_X3_placeOf wN_X3 wC_X3_placeOf rfl hy_X3_placeOf rfl (Nat.le_of_ble_eq_true rfl) (by decide) (by omega) rfl rfl (by omega) rfl (by omega) rfl ?_
  rintro _ z h ⟨p, rfl, rfl, rfl, hp⟩
  have hp1 := hp.1
  refine V.stk (st' := [_]) rfl ?_
  refine V_istore_n (pc' := 6) (lv' := [_, _, _, _]) hX dX3_insert_5 (Nat.le_of_ble_eq_true rfl) rfl rfl ?_
  have jn : sz < 30 → (∀ j, j < sz → kf j ≠ k) → V X 0 0 z h 35 [some (.ref q), some (.int (nI k)), some (.int (nI w)), some (.int (nI p))] [] := by
    intro hs hne
    have hI : nsIn kf wf (va_up (va_cpy kf kf p (p + 1) (sz - p)) p k) (va_up (va_cpy wf wf p (p + 1) (sz - p)) p w) sz k w p := by
      refine ⟨hp1, fun j hj => ⟨?_, ?_, hp.2.1 j hj⟩, ?_, ?_, fun j a b => ⟨?_, ?_, ?_⟩, fun j a => ⟨?_, ?_⟩⟩
      · rw [cpy_up hp1, if_pos hj]
      · rw [cpy_up hp1, if_pos hj]
      · rw [cpy_up hp1, if_neg (by omega), if_pos rfl]
      · rw [cpy_up hp1, if_neg (by omega), if_pos rfl]
      · rw [cpy_up hp1, if_neg (by omega), if_neg (by omega), if_pos (by omega)]; rfl
      · rw [cpy_up hp1, if_neg (by omega), if_neg (by omega), if_pos (by omega)]; rfl
      · have := nsPl.up hO hp j a b; have := hne j b; omega
      · rw [cpy_up hp1, if_neg (by omega), if_neg (by omega), if_neg (by omega)]
      · rw [cpy_up hp1, if_neg (by omega), if_neg (by omega), if_neg (by omega)]
    refine V_aload_n (pc' := 36) hX dX3_insert_35 rfl rfl ?_
    refine V_get (pc' := 39) hX dX3_insert_36 h0 rfl inX3 0 (by decide) wF_X3_9 rfl rfl ?_
    refine V_iload_n (pc' := 40) hX dX3_insert_39 rfl rfl ?_
    refine V_aload_n (pc' := 41) hX dX3_insert_40 rfl rfl ?_
    refine V_get (pc' := 44) hX dX3_insert_41 h0 rfl inX3 0 (by decide) wF_X3_9 rfl rfl ?_
    refine V_iload_n (pc' := 45) hX dX3_insert_44 rfl rfl ?_
    refine V_iconst (pc' := 46) (v := nI 1) hX dX3_insert_45 (by decide) rfl ?_
    refine V_iaddN (pc' := 47) hX dX3_insert_46 rfl ?_
    refine V_aload_n (pc' := 48) hX dX3_insert_47 rfl rfl ?_
    refine V_get (pc' := 51) hX dX3_insert_48 h0 rfl inX3 2 (by decide) wF_X3_25 rfl rfl ?_
    refine V_iload_n (pc' := 52) hX dX3_insert_51 rfl rfl ?_
    refine V_isubN (pc' := 53) hX dX3_insert_52 (by omega) rfl ?_
    refine V_copyN (pc' := 56) hX dX3_insert_53 wM_X3_36 h1 h1 (by omega) (by omega) (by omega) (by omega) (by omega) rfl (Nat.le_of_ble_eq_true rfl) rfl ?_
    refine V_aload_n (pc' := 57) hX dX3_insert_56 rfl rfl ?_
    refine V_get (pc' := 60) hX dX3_insert_57 ((hup_n (by omega)).trans h0) rfl inX3 1 (by decide) wF_X3_15 rfl rfl ?_
    refine V_iload_n (pc' := 61) hX dX3_insert_60 rfl rfl ?_
    refine V_aload_n (pc' := 62) hX dX3_insert_61 rfl rfl ?_
    refine V_get (pc' := 65) hX dX3_insert_62 ((hup_n (by omega)).trans h0) rfl inX3 1 (by decide) wF_X3_15 rfl rfl ?_
    refine V_iload_n (pc' := 66) hX dX3_insert_65 rfl rfl ?_
    refine V_iconst (pc' := 67) (v := nI 1) hX dX3_insert_66 (by decide) rfl ?_
    refine V_iaddN (pc' := 68) hX dX3_insert_67 rfl ?_
    refine V_aload_n (pc' := 69) hX dX3_insert_68 rfl rfl ?_
    refine V_get (pc' := 72) hX dX3_insert_69 ((hup_n (by omega)).trans h0) rfl inX3 2 (by decide) wF_X3_25 rfl rfl ?_
    refine V_iload_n (pc' := 73) hX dX3_insert_72 rfl rfl ?_
    refine V_isubN (pc' := 74) hX dX3_insert_73 (by omega) rfl ?_
    refine V_copyN (pc' := 77) hX dX3_insert_74 wM_X3_36 ((hup_n (by omega)).trans h2) ((hup_n (by omega)).trans h2) (by omega) (by omega) (by omega) (by omega) (by omega) rfl (Nat.le_of_ble_eq_true rfl) rfl ?_
    refine V_aload_n (pc' := 78) hX dX3_insert_77 rfl rfl ?_
    refine V_get (pc' := 81) hX dX3_insert_78 ((hup_n (by omega)).trans ((hup_n (by omega)).trans h0)) rfl inX3 0 (by decide) wF_X3_9 rfl rfl ?_
    refine V_iload_n (pc' := 82) hX dX3_insert_81 rfl rfl ?_
    refine V_iload_n (pc' := 83) hX dX3_insert_82 rfl rfl ?_
    refine V_iastN (pc' := 84) hX dX3_insert_83 ((hup_n (by omega)).trans hup_s) (by omega) (by omega) rfl ?_
    refine V_aload_n (pc' := 85) hX dX3_insert_84 rfl rfl ?_
    refine V_get (pc' := 88) hX dX3_insert_85 ((hup_n (by omega)).trans ((hup_n (by omega)).trans ((hup_n (by omega)).trans h0))) rfl inX3 1 (by decide) wF_X3_15 rfl rfl ?_
    refine V_iload_n (pc' := 89) hX dX3_insert_88 rfl rfl ?_
    refine V_iload_n (pc' := 90) hX dX3_insert_89 rfl rfl ?_
    refine V_iastN (pc' := 91) hX dX3_insert_90 ((hup_n (by omega)).trans hup_s) (by omega) (by omega) rfl ?_
    refine V_aload_n (pc' := 92) hX dX3_insert_91 rfl rfl ?_
    refine V_dup (pc' := 93) hX dX3_insert_92 rfl rfl ?_
    refine V_get (pc' := 96) hX dX3_insert_93 ((hup_n (by omega)).trans ((hup_n (by omega)).trans ((hup_n (by omega)).trans ((hup_n (by omega)).trans h0)))) rfl inX3 2 (by decide) wF_X3_25 rfl rfl ?_
    refine V_iconst (pc' := 97) (v := nI 1) hX dX3_insert_96 (by decide) rfl ?_
    refine V_iaddN (pc' := 98) hX dX3_insert_97 rfl ?_
    refine V_put (pc' := 101) (fs' := [_, _, _, _]) (ty0 := tyX3) hX dX3_insert_98 ((hup_n (by omega)).trans ((hup_n (by omega)).trans ((hup_n (by omega)).trans ((hup_n (by omega)).trans h0)))) rfl inX3 tyX3_ok nmX3 2 (by decide) wF_X3_25 rfl (tyX3_ok 2 (by decide)) rfl rfl (Nat.le_of_ble_eq_true rfl) rfl rfl ?_
    refine V_aload_n (pc' := 102) hX dX3_insert_101 rfl rfl ?_
    refine V_dup (pc' := 103) hX dX3_insert_102 rfl rfl ?_
    refine V_get (pc' := 106) hX dX3_insert_103 hup_s rfl inX3 3 (by decide) wF_X3_29 rfl rfl ?_
    refine V_iload_n (pc' := 107) hX dX3_insert_106 rfl rfl ?_
    refine V_iaddN (pc' := 108) hX dX3_insert_107 rfl ?_
    refine V_put (pc' := 111) (fs' := [_, _, _, _]) (ty0 := tyX3) hX dX3_insert_108 hup_s rfl inX3 tyX3_ok nmX3 3 (by decide) wF_X3_29 rfl (tyX3_ok 3 (by decide)) rfl rfl (Nat.le_of_ble_eq_true rfl) rfl rfl ?_
    refine V_iconst (pc' := 112) (v := nI 1) hX dX3_insert_111 (by decide) rfl ?_
    refine V_zret hX hR dX3_insert_112 (by rfl) ?_
    exact ⟨true, rfl, rfl, (fun r => by cases r), fun _ => ⟨hs, hne, (fr.up (fr.up (fr.up (fr.up (fr.up (fr.up fr.rf (by omega) (by omega)) (by omega) (by omega)) (by omega) (by omega)) (by omega) (by omega)) (by omega) (by omega)) (by omega) (by omega)), _, _, p, ⟨hup_s, ((hup_n (by omega)).trans ((hup_n (by omega)).trans ((hup_n (by omega)).trans hup_s))), ((hup_n (by omega)).trans ((hup_n (by omega)).trans hup_s))⟩, hI.ok hO hs hk hw, hI⟩⟩
  refine V_aload_n (pc' := 7) hX dX3_insert_6 rfl rfl ?_
  refine V_get (pc' := 10) hX dX3_insert_7 h0 rfl inX3 2 (by decide) wF_X3_25 rfl rfl ?_
  refine V_bipush (pc' := 12) (v := nI 30) hX dX3_insert_10 (by decide) rfl ?_
  refine V_icmp_geN (pt := 33) (pc' := 15) hX dX3_insert_12 (by omega) (by omega) rfl rfl (fun c12 => ?_) (fun c12 => ?_)
  · refine V_iconst (pc' := 34) (v := nI 0) hX dX3_insert_33 (by decide) rfl ?_
    refine V_zret hX hR dX3_insert_34 (by rfl) ?_
    exact ⟨false, rfl, rfl, fun _ => ⟨rfl, Or.inl (by omega)⟩, (fun r => by cases r)⟩
  · refine V_iload_n (pc' := 16) hX dX3_insert_15 rfl rfl ?_
    refine V_aload_n (pc' := 17) hX dX3_insert_16 rfl rfl ?_
    refine V_get (pc' := 20) hX dX3_insert_17 h0 rfl inX3 2 (by decide) wF_X3_25 rfl rfl ?_
    refine V_icmp_geN (pt := 35) (pc' := 23) hX dX3_insert_20 (by omega) (by omega) rfl rfl (fun c20 => ?_) (fun c20 => ?_)
    · exact jn (by omega) (fun j hj => by have := hp.2.1 j (by omega); omega)
    · refine V_aload_n (pc' := 24) hX dX3_insert_23 rfl rfl ?_
      refine V_get (pc' := 27) hX dX3_insert_24 h0 rfl inX3 0 (by decide) wF_X3_9 rfl rfl ?_
      refine V_iload_n (pc' := 28) hX dX3_insert_27 rfl rfl ?_
      refine V_ialdN (pc' := 29) hX dX3_insert_28 h1 (by omega) (by omega) rfl rfl ?_
      refine V_iload_n (pc' := 30) hX dX3_insert_29 rfl rfl ?_
      refine V_icmp_neN (pt := 35) (pc' := 33) hX dX3_insert_30 (by have := o2 p (by omega); omega) (by omega) rfl rfl (fun c30 => ?_) (fun c30 => ?_)
      · exact jn (by omega) (fun j hj => by
          rcases Nat.lt_trichotomy j p with r | r | r
          · have := hp.2.1 j r; omega
          · rw [r]; exact c30
          · have := hp.2.2 (by omega); have := o3 p j r hj; omega)
      · refine V_iconst (pc' := 34) (v := nI 0) hX dX3_insert_33 (by decide) rfl ?_
        refine V_zret hX hR dX3_insert_34 (by rfl) ?_
        exact ⟨false, rfl, rfl, fun _ => ⟨rfl, Or.inr ⟨p, by omega, c30⟩⟩, (fun r => by cases r)⟩
set_option maxRecDepth 100000 in
set_option maxHeartbeats 4000000 in
theorem c_NS_remove {G : Gd} {z : Nat} {h : AH} {q sz am : Nat} {kf wf : Nat → Nat} (k : Nat) (hk : k < 100000000) (hN : nsAt G h q kf wf sz am) (hO : nsOk kf wf sz am) : Ct G yX3_remove cX3_remove 3 (some .boolean) 1 0 0 [.ref q, .int (nI k)] z h (fun r z' h' => ∃ b : Bool, r = some (.int (bI b)) ∧ z' = z ∧ (b = false → h' = h ∧ ∀ j, j < sz → kf j ≠ k) ∧ (b = true → fr q (q + 3) h h' ∧ ∃ kf' wf' p, p < sz ∧ kf p = k ∧ nsAt G h' q kf' wf' (sz - 1) (am - wf p) ∧ (∀ j, j < p → kf' j = kf j ∧ wf' j = wf j) ∧ ∀ j, p ≤ j → j + 1 < sz → kf' j = kf (j + 1) ∧ wf' j = wf (j + 1))) := by
  refine Ct.of (lv := [_, _, _]) (by decide) (Nat.le_of_ble_eq_true rfl) rfl ?_
  rintro X rfl hX hR hnm
  obtain ⟨h0, h1, h2⟩ := id hN
  obtain ⟨o1, o2, o3, o4, o5⟩ := id hO
  have oam := hO.am
  refine V_aload_n (pc' := 1) hX dX3_remove_0 rfl rfl ?_
  refine V_iload_n (pc' := 2) hX dX3_remove_1 rfl rfl ?_
  refine V_callV (nA := 1) (pc' := 5) (k' := 0) (n' := 0) hX dX3_remove_2 (c_NS_placeOf k hk hN hO) h0 rfl wM_X3_32 wI_X3_placeOf wL_X3_placeOf wN_X3 wC_X3_placeOf rfl hy_X3_placeOf rfl (Nat.le_of_ble_eq_true rfl) (by decide) (by omega) rfl rfl (by omega) rfl (by omega) rfl ?_
  rintro _ z h ⟨p, rfl, rfl, rfl, hp⟩
  have hp1 := hp.1
  refine V.stk (st' := [_]) rfl ?_
  refine V_istore_n (pc' := 6) (lv' := [_, _, _]) hX dX3_remove_5 (Nat.le_of_ble_eq_true rfl) rfl rfl ?_
  refine V_iload_n (pc' := 7) hX dX3_remove_6 rfl rfl ?_
  refine V_aload_n (pc' := 8) hX dX3_remove_7 rfl rfl ?_
  refine V_get (pc' := 11) hX dX3_remove_8 h0 rfl inX3 2 (by decide) wF_X3_25 rfl rfl ?_
  refine V_icmp_geN (pt := 24) (pc' := 14) hX dX3_remove_11 (by omega) (by omega) rfl rfl (fun c11 => ?_) (fun c11 => ?_)
  · refine V_iconst (pc' := 25) (v := nI 0) hX dX3_remove_24 (by decide) rfl ?_
    refine V_zret hX hR dX3_remove_25 (by rfl) ?_
    exact ⟨false, rfl, rfl, fun _ => ⟨rfl, fun j hj => by have := hp.2.1 j (by omega); omega⟩, (fun r => by cases r)⟩
  · refine V_aload_n (pc' := 15) hX dX3_remove_14 rfl rfl ?_
    refine V_get (pc' := 18) hX dX3_remove_15 h0 rfl inX3 0 (by decide) wF_X3_9 rfl rfl ?_
    refine V_iload_n (pc' := 19) hX dX3_remove_18 rfl rfl ?_
    refine V_ialdN (pc' := 20) hX dX3_remove_19 h1 (by omega) (by omega) rfl rfl ?_
    refine V_iload_n (pc' := 21) hX dX3_remove_20 rfl rfl ?_
    refine V_icmp_eqN (pt := 26) (pc' := 24) hX dX3_remove_21 (by have := o2 p (by omega); omega) (by omega) rfl rfl (fun c21 => ?_) (fun c21 => ?_)
    · have hwp : wf p ≤ am := by rw [o5]; exact sm_at (by omega)
      refine V_aload_n (pc' := 27) hX dX3_remove_26 rfl rfl ?_
      refine V_dup (pc' := 28) hX dX3_remove_27 rfl rfl ?_
      refine V_get (pc' := 31) hX dX3_remove_28 h0 rfl inX3 2 (by decide) wF_X3_25 rfl rfl ?_
      refine V_iconst (pc' := 32) (v := nI 1) hX dX3_remove_31 (by decide) rfl ?_
      refine V_isubN (pc' := 33) hX dX3_remove_32 (by omega) rfl ?_
      refine V_put (pc' := 36) (fs' := [_, _, _, _]) (ty0 := tyX3) hX dX3_remove_33 h0 rfl inX3 tyX3_ok nmX3 2 (by decide) wF_X3_25 rfl (tyX3_ok 2 (by decide)) rfl rfl (Nat.le_of_ble_eq_true rfl) rfl rfl ?_
      refine V_aload_n (pc' := 37) hX dX3_remove_36 rfl rfl ?_
      refine V_dup (pc' := 38) hX dX3_remove_37 rfl rfl ?_
      refine V_get (pc' := 41) hX dX3_remove_38 hup_s rfl inX3 3 (by decide) wF_X3_29 rfl rfl ?_
      refine V_aload_n (pc' := 42) hX dX3_remove_41 rfl rfl ?_
      refine V_get (pc' := 45) hX dX3_remove_42 hup_s rfl inX3 1 (by decide) wF_X3_15 rfl rfl ?_
      refine V_iload_n (pc' := 46) hX dX3_remove_45 rfl rfl ?_
      refine V_ialdN (pc' := 47) hX dX3_remove_46 ((hup_n (by omega)).trans h2) (by omega) (by omega) rfl rfl ?_
      refine V_isubN (pc' := 48) hX dX3_remove_47 hwp rfl ?_
      refine V_put (pc' := 51) (fs' := [_, _, _, _]) (ty0 := tyX3) hX dX3_remove_48 hup_s rfl inX3 tyX3_ok nmX3 3 (by decide) wF_X3_29 rfl (tyX3_ok 3 (by decide)) rfl rfl (Nat.le_of_ble_eq_true rfl) rfl rfl ?_
      refine V_aload_n (pc' := 52) hX dX3_remove_51 rfl rfl ?_
      refine V_get (pc' := 55) hX dX3_remove_52 hup_s rfl inX3 0 (by decide) wF_X3_9 rfl rfl ?_
      refine V_iload_n (pc' := 56) hX dX3_remove_55 rfl rfl ?_
      refine V_iconst (pc' := 57) (v := nI 1) hX dX3_remove_56 (by decide) rfl ?_
      refine V_iaddN (pc' := 58) hX dX3_remove_57 rfl ?_
      refine V_aload_n (pc' := 59) hX dX3_remove_58 rfl rfl ?_
      refine V_get (pc' := 62) hX dX3_remove_59 hup_s rfl inX3 0 (by decide) wF_X3_9 rfl rfl ?_
      refine V_iload_n (pc' := 63) hX dX3_remove_62 rfl rfl ?_
      refine V_aload_n (pc' := 64) hX dX3_remove_63 rfl rfl ?_
      refine V_get (pc' := 67) hX dX3_remove_64 hup_s rfl inX3 2 (by decide) wF_X3_25 rfl rfl ?_
      refine V_iload_n (pc' := 68) hX dX3_remove_67 rfl rfl ?_
      refine V_isubN (pc' := 69) hX dX3_remove_68 (by omega) rfl ?_
      refine V_copyN (pc' := 72) hX dX3_remove_69 wM_X3_36 ((hup_n (by omega)).trans ((hup_n (by omega)).trans h1)) ((hup_n (by omega)).trans ((hup_n (by omega)).trans h1)) (by omega) (by omega) (by omega) (by omega) (by omega) rfl (Nat.le_of_ble_eq_true rfl) rfl ?_
      refine V_aload_n (pc' := 73) hX dX3_remove_72 rfl rfl ?_
      refine V_get (pc' := 76) hX dX3_remove_73 ((hup_n (by omega)).trans hup_s) rfl inX3 1 (by decide) wF_X3_15 rfl rfl ?_
      refine V_iload_n (pc' := 77) hX dX3_remove_76 rfl rfl ?_
      refine V_iconst (pc' := 78) (v := nI 1) hX dX3_remove_77 (by decide) rfl ?_
      refine V_iaddN (pc' := 79) hX dX3_remove_78 rfl ?_
      refine V_aload_n (pc' := 80) hX dX3_remove_79 rfl rfl ?_
      refine V_get (pc' := 83) hX dX3_remove_80 ((hup_n (by omega)).trans hup_s) rfl inX3 1 (by decide) wF_X3_15 rfl rfl ?_
      refine V_iload_n (pc' := 84) hX dX3_remove_83 rfl rfl ?_
      refine V_aload_n (pc' := 85) hX dX3_remove_84 rfl rfl ?_
      refine V_get (pc' := 88) hX dX3_remove_85 ((hup_n (by omega)).trans hup_s) rfl inX3 2 (by decide) wF_X3_25 rfl rfl ?_
      refine V_iload_n (pc' := 89) hX dX3_remove_88 rfl rfl ?_
      refine V_isubN (pc' := 90) hX dX3_remove_89 (by omega) rfl ?_
      refine V_copyN (pc' := 93) hX dX3_remove_90 wM_X3_36 ((hup_n (by omega)).trans ((hup_n (by omega)).trans ((hup_n (by omega)).trans h2))) ((hup_n (by omega)).trans ((hup_n (by omega)).trans ((hup_n (by omega)).trans h2))) (by omega) (by omega) (by omega) (by omega) (by omega) rfl (Nat.le_of_ble_eq_true rfl) rfl ?_
      refine V_iconst (pc' := 94) (v := nI 1) hX dX3_remove_93 (by decide) rfl ?_
      refine V_zret hX hR dX3_remove_94 (by rfl) ?_
      exact ⟨true, rfl, rfl, (fun r => by cases r), fun _ => ⟨(fr.up (fr.up (fr.up (fr.up fr.rf (by omega) (by omega)) (by omega) (by omega)) (by omega) (by omega)) (by omega) (by omega)), _, _, p, by omega, c21, ⟨((hup_n (by omega)).trans ((hup_n (by omega)).trans hup_s)), ((hup_n (by omega)).trans hup_s), hup_s⟩, fun j hj => ⟨by rw [cpy_dn, if_neg (by omega)], by rw [cpy_dn, if_neg (by omega)]⟩, fun j a b => ⟨by rw [cpy_dn, if_pos (by omega)], by rw [cpy_dn, if_pos (by omega)]⟩⟩⟩
    · refine V_iconst (pc' := 25) (v := nI 0) hX dX3_remove_24 (by decide) rfl ?_
      refine V_zret hX hR dX3_remove_25 (by rfl) ?_
      exact ⟨false, rfl, rfl, fun _ => ⟨rfl, fun j hj => by
        rcases Nat.lt_trichotomy j p with r | r | r
        · have := hp.2.1 j r; omega
        · rw [r]; exact c21
        · have := hp.2.2 (by omega); have := o3 p j r hj; omega⟩, (fun r => by cases r)⟩
set_option maxRecDepth 100000 in
set_option maxHeartbeats 4000000 in
theorem c_NS_reweigh {G : Gd} {z : Nat} {h : AH} {q sz am : Nat} {kf wf : Nat → Nat} (i w : Nat) (hi : i < sz) (hN : nsAt G h q kf wf sz am) (hO : nsOk kf wf sz am) : Ct G yX3_reweigh cX3_reweigh 3 none 0 0 0 [.ref q, .int (nI i), .int (nI w)] z h (fun r z' h' => r = none ∧ z' = z ∧ nsAt G h' q kf (va_up wf i w) sz (am + w - wf i) ∧ fr q (q + 3) h h') := by
  refine Ct.of (lv := [_, _, _]) (by decide) (Nat.le_of_ble_eq_true rfl) rfl ?_
  rintro X rfl hX hR hnm
  obtain ⟨h0, h1, h2⟩ := id hN
  obtain ⟨o1, o2, o3, o4, o5⟩ := id hO
  have oam := hO.am
  have hwi : wf i ≤ am := by rw [o5]; exact sm_at hi
  refine V_iload_n (pc' := 1) hX dX3_reweigh_0 rfl rfl ?_
  refine V_if_ltN (pt := 36) (pc' := 4) hX dX3_reweigh_1 (by omega) rfl rfl (fun c1 => ?_) (fun c1 => ?_)
  · omega
  · refine V_iload_n (pc' := 5) hX dX3_reweigh_4 rfl rfl ?_
    refine V_aload_n (pc' := 6) hX dX3_reweigh_5 rfl rfl ?_
    refine V_get (pc' := 9) hX dX3_reweigh_6 h0 rfl inX3 2 (by decide) wF_X3_25 rfl rfl ?_
    refine V_icmp_geN (pt := 36) (pc' := 12) hX dX3_reweigh_9 (by omega) (by omega) rfl rfl (fun c9 => ?_) (fun c9 => ?_)
    · omega
    · refine V_aload_n (pc' := 13) hX dX3_reweigh_12 rfl rfl ?_
      refine V_dup (pc' := 14) hX dX3_reweigh_13 rfl rfl ?_
      refine V_get (pc' := 17) hX dX3_reweigh_14 h0 rfl inX3 3 (by decide) wF_X3_29 rfl rfl ?_
      refine V_iload_n (pc' := 18) hX dX3_reweigh_17 rfl rfl ?_
      refine V_aload_n (pc' := 19) hX dX3_reweigh_18 rfl rfl ?_
      refine V_get (pc' := 22) hX dX3_reweigh_19 h0 rfl inX3 1 (by decide) wF_X3_15 rfl rfl ?_
      refine V_iload_n (pc' := 23) hX dX3_reweigh_22 rfl rfl ?_
      refine V_ialdN (pc' := 24) hX dX3_reweigh_23 h2 (by omega) (by omega) rfl rfl ?_
      refine V_isub (pc' := 25) hX dX3_reweigh_24 rfl ?_
      refine V_iadd (pc' := 26) hX dX3_reweigh_25 rfl ?_
      refine V.eqi (y := nI (am + w - wf i)) ?_ ?_
      · rw [← pk_sub (a := am + w) (b := wf i) (by omega), ← nI_add, Int32.sub_eq_add_neg, Int32.sub_eq_add_neg, Int32.add_assoc]
      refine V_put (pc' := 29) (fs' := [_, _, _, _]) (ty0 := tyX3) hX dX3_reweigh_26 h0 rfl inX3 tyX3_ok nmX3 3 (by decide) wF_X3_29 rfl (tyX3_ok 3 (by decide)) rfl rfl (Nat.le_of_ble_eq_true rfl) rfl rfl ?_
      refine V_aload_n (pc' := 30) hX dX3_reweigh_29 rfl rfl ?_
      refine V_get (pc' := 33) hX dX3_reweigh_30 hup_s rfl inX3 1 (by decide) wF_X3_15 rfl rfl ?_
      refine V_iload_n (pc' := 34) hX dX3_reweigh_33 rfl rfl ?_
      refine V_iload_n (pc' := 35) hX dX3_reweigh_34 rfl rfl ?_
      refine V_iastN (pc' := 36) hX dX3_reweigh_35 ((hup_n (by omega)).trans h2) (by omega) (by omega) rfl ?_
      refine V_vret hX hR dX3_reweigh_36 ?_
      exact ⟨rfl, rfl, ⟨((hup_n (by omega)).trans hup_s), ((hup_n (by omega)).trans ((hup_n (by omega)).trans h1)), hup_s⟩, (fr.up (fr.up fr.rf (by omega) (by omega)) (by omega) (by omega))⟩
set_option maxRecDepth 100000 in
set_option maxHeartbeats 4000000 in
theorem c_NS_countBeginning {G : Gd} {z : Nat} {h : AH} {q sz am : Nat} {kf wf : Nat → Nat} (t : Nat) (ht : t < 2 ^ 62) (hN : nsAt G h q kf wf sz am) (hO : nsOk kf wf sz am) : Ct G yX3_countBeginning cX3_countBeginning 5 (some .int) 0 0 0 [.ref q, .long (lN t)] z h (fun r z' h' => ∃ p, r = some (.int (nI p)) ∧ z' = z ∧ h' = h ∧ isBeg wf sz am t p) := by
  refine Ct.of (lv := [_, _, _, _, _]) (by decide) (Nat.le_of_ble_eq_true rfl) rfl ?_
  rintro X rfl hX hR hnm
  obtain ⟨h0, h1, h2⟩ := id hN
  obtain ⟨o1, o2, o3, o4, o5⟩ := id hO
  have oam := hO.am
  refine V_iconst (pc' := 1) (v := nI 0) hX dX3_countBeginning_0 (by decide) rfl ?_
  refine V_istore_n (pc' := 2) (lv' := [_, _, _, _, _]) hX dX3_countBeginning_1 (Nat.le_of_ble_eq_true rfl) rfl rfl ?_
  refine V_aload_n (pc' := 3) hX dX3_countBeginning_2 rfl rfl ?_
  refine V_get (pc' := 6) hX dX3_countBeginning_3 h0 rfl inX3 3 (by decide) wF_X3_29 rfl rfl ?_
  refine V_istore (pc' := 8) (lv' := [_, _, _, _, _]) hX dX3_countBeginning_6 (Nat.le_of_ble_eq_true rfl) rfl rfl ?_
  have lp : ∀ (μ p : Nat), p ≤ sz → (∀ j, j < p → t ≤ am - sm wf j) → sz - p < μ → V X 0 0 z h 8 [some (.ref q), some (.long (lN t)), none, some (.int (nI p)), some (.int (nI (am - sm wf p)))] [] := by
    intro μ
    induction μ with
    | zero => intros; omega
    | succ μ ih =>
      intro p b1 b2 b3
      have hsp : sm wf p ≤ am := by rw [o5]; exact sm_le b1
      refine V_iload_n (pc' := 9) hX dX3_countBeginning_8 rfl rfl ?_
      refine V_aload_n (pc' := 10) hX dX3_countBeginning_9 rfl rfl ?_
      refine V_get (pc' := 13) hX dX3_countBeginning_10 h0 rfl inX3 2 (by decide) wF_X3_25 rfl rfl ?_
      refine V_icmp_geN (pt := 41) (pc' := 16) hX dX3_countBeginning_13 (by omega) (by omega) rfl rfl (fun c13 => ?_) (fun c13 => ?_)
      · refine V_iload_n (pc' := 42) hX dX3_countBeginning_41 rfl rfl ?_
        refine V_iret hX hR dX3_countBeginning_42 ?_
        exact ⟨p, rfl, rfl, rfl, b1, b2, fun r => by omega⟩
      · refine V_iload (pc' := 18) hX dX3_countBeginning_16 rfl rfl ?_
        refine V_i2lN (pc' := 19) hX dX3_countBeginning_18 (by omega) rfl ?_
        refine V_lload_n (pc' := 20) hX dX3_countBeginning_19 rfl rfl ?_
        refine V_lcmp_ltN (pt := 41) (pc' := 24) hX dX3_countBeginning_20 rfl dX3_countBeginning_21 (by omega) (by omega) rfl rfl (fun c20 => ?_) (fun c20 => ?_)
        · refine V_iload_n (pc' := 42) hX dX3_countBeginning_41 rfl rfl ?_
          refine V_iret hX hR dX3_countBeginning_42 ?_
          exact ⟨p, rfl, rfl, rfl, b1, b2, fun r => by omega⟩
        · refine V_iload (pc' := 26) hX dX3_countBeginning_24 rfl rfl ?_
          refine V_aload_n (pc' := 27) hX dX3_countBeginning_26 rfl rfl ?_
          refine V_get (pc' := 30) hX dX3_countBeginning_27 h0 rfl inX3 1 (by decide) wF_X3_15 rfl rfl ?_
          refine V_iload_n (pc' := 31) hX dX3_countBeginning_30 rfl rfl ?_
          refine V_ialdN (pc' := 32) hX dX3_countBeginning_31 h2 (by omega) (by omega) rfl rfl ?_
          have hwp : wf p ≤ am - sm wf p := by
            have : sm wf (p + 1) ≤ am := by rw [o5]; exact sm_le (by omega)
            rw [sm_s] at this; omega
          refine V_isubN (pc' := 33) hX dX3_countBeginning_32 hwp rfl ?_
          refine V_istore (pc' := 35) (lv' := [_, _, _, _, _]) hX dX3_countBeginning_33 (Nat.le_of_ble_eq_true rfl) rfl rfl ?_
          refine V_iincN (pc' := 38) (j := 1) (lv' := [_, _, _, _, _]) hX dX3_countBeginning_35 rfl rfl rfl rfl ?_
          refine V_goto (pc' := 8) hX dX3_countBeginning_38 rfl ?_
          refine V.loc2 (lv' := [some _, some _, none, some _, some _]) ⟨rfl, rfl, rfl, rfl, trivial⟩ ?_
          have e : am - sm wf p - wf p = am - sm wf (p + 1) := by rw [sm_s]; omega
          rw [e]
          exact ih _ (by omega) (fun j hj => by
            rcases Nat.lt_or_ge j p with r | r
            · exact b2 j r
            · rw [show j = p by omega]; omega) (by omega)
  refine V.loc2 (lv' := [some _, some _, none, some _, some _]) ⟨rfl, rfl, rfl, rfl, trivial⟩ ?_
  exact lp (sz + 1) 0 (by omega) (fun j hj => by omega) (by omega)
set_option maxRecDepth 100000 in
set_option maxHeartbeats 4000000 in
theorem c_NS_amountBehind {G : Gd} {z : Nat} {h : AH} {q sz am : Nat} {kf wf : Nat → Nat} (i : Nat) (hi : i < sz) (hN : nsAt G h q kf wf sz am) (hO : nsOk kf wf sz am) : Ct G yX3_amountBehind cX3_amountBehind 4 (some .int) 0 0 0 [.ref q, .int (nI i)] z h (fun r z' h' => r = some (.int (nI (am - sm wf (i + 1)))) ∧ z' = z ∧ h' = h) := by
  refine Ct.of (lv := [_, _, _, _]) (by decide) (Nat.le_of_ble_eq_true rfl) rfl ?_
  rintro X rfl hX hR hnm
  obtain ⟨h0, h1, h2⟩ := id hN
  obtain ⟨o1, o2, o3, o4, o5⟩ := id hO
  have oam := hO.am
  refine V_iconst (pc' := 1) (v := nI 0) hX dX3_amountBehind_0 (by decide) rfl ?_
  refine V_istore_n (pc' := 2) (lv' := [_, _, _, _]) hX dX3_amountBehind_1 (Nat.le_of_ble_eq_true rfl) rfl rfl ?_
  refine V_iload_n (pc' := 3) hX dX3_amountBehind_2 rfl rfl ?_
  refine V_iconst (pc' := 4) (v := nI 1) hX dX3_amountBehind_3 (by decide) rfl ?_
  refine V_iaddN (pc' := 5) hX dX3_amountBehind_4 rfl ?_
  refine V_istore_n (pc' := 6) (lv' := [_, _, _, _]) hX dX3_amountBehind_5 (Nat.le_of_ble_eq_true rfl) rfl rfl ?_
  have lp : ∀ (μ j : Nat), i + 1 ≤ j → j ≤ sz → sz - j < μ → V X 0 0 z h 6 [some (.ref q), some (.int (nI i)), some (.int (nI (sm wf j - sm wf (i + 1)))), some (.int (nI j))] [] := by
    intro μ
    induction μ with
    | zero => intros; omega
    | succ μ ih =>
      intro j b1 b2 b3
      have hs1 : sm wf (i + 1) ≤ sm wf j := sm_le b1
      refine V_iload_n (pc' := 7) hX dX3_amountBehind_6 rfl rfl ?_
      refine V_aload_n (pc' := 8) hX dX3_amountBehind_7 rfl rfl ?_
      refine V_get (pc' := 11) hX dX3_amountBehind_8 h0 rfl inX3 2 (by decide) wF_X3_25 rfl rfl ?_
      refine V_icmp_geN (pt := 29) (pc' := 14) hX dX3_amountBehind_11 (by omega) (by omega) rfl rfl (fun c11 => ?_) (fun c11 => ?_)
      · refine V_iload_n (pc' := 30) hX dX3_amountBehind_29 rfl rfl ?_
        refine V_iret hX hR dX3_amountBehind_30 ?_
        rw [o5, show sz = j by omega]; exact ⟨rfl, rfl, rfl⟩
      · refine V_iload_n (pc' := 15) hX dX3_amountBehind_14 rfl rfl ?_
        refine V_aload_n (pc' := 16) hX dX3_amountBehind_15 rfl rfl ?_
        refine V_get (pc' := 19) hX dX3_amountBehind_16 h0 rfl inX3 1 (by decide) wF_X3_15 rfl rfl ?_
        refine V_iload_n (pc' := 20) hX dX3_amountBehind_19 rfl rfl ?_
        refine V_ialdN (pc' := 21) hX dX3_amountBehind_20 h2 (by omega) (by omega) rfl rfl ?_
        refine V_iaddN (pc' := 22) hX dX3_amountBehind_21 rfl ?_
        refine V_istore_n (pc' := 23) (lv' := [_, _, _, _]) hX dX3_amountBehind_22 (Nat.le_of_ble_eq_true rfl) rfl rfl ?_
        refine V_iincN (pc' := 26) (j := 1) (lv' := [_, _, _, _]) hX dX3_amountBehind_23 rfl rfl rfl rfl ?_
        refine V_goto (pc' := 6) hX dX3_amountBehind_26 rfl ?_
        have e : sm wf j - sm wf (i + 1) + wf j = sm wf (j + 1) - sm wf (i + 1) := by
          rw [sm_s wf j]; omega
        rw [e]
        exact ih (j + 1) (by omega) (by omega) (by omega)
  have e : nI 0 = nI (sm wf (i + 1) - sm wf (i + 1)) := by rw [Nat.sub_self]
  rw [e]
  exact lp (sz + 1) (i + 1) (by omega) (by omega) (by omega)
set_option maxRecDepth 100000 in
set_option maxHeartbeats 4000000 in
theorem c_NS_putInOrder {G : Gd} {z : Nat} {h : AH} {q sz am : Nat} {kf wf : Nat → Nat} {a cap tsz : Nat} {tn tv : Nat → Nat} (hT : tabAt G h a cap tn tv tsz) (hTO : tabOk cap tn tsz) (haq : a + 3 ≤ q) (hF : ∀ v, tF tn tv tsz v ≤ 60) (hdis : ∀ i j, i < j → j < sz → kf i % 1000000 ≠ kf j % 1000000) (hN : nsAt G h q kf wf sz am) (hO : nsOk kf wf sz am) : Ct G yX3_putInOrder cX3_putInOrder 4 none 3 0 0 [.ref q, .ref a] z h (fun r z' h' => r = none ∧ z' = z ∧ fr q (q + 3) h h' ∧ ∃ kf' wf', nsAt G h' q kf' wf' sz am ∧ nsOk kf' wf' sz am ∧ (prs kf' wf' sz).Perm (prs (fun j => kyF (tF tn tv tsz) (kf j % 1000000)) wf sz)) := by
  refine Ct.of (lv := [_, _, _, _]) (by decide) (Nat.le_of_ble_eq_true rfl) rfl ?_
  rintro X rfl hX hR hnm
  obtain ⟨h0, h1, h2⟩ := id hN
  obtain ⟨o1, o2, o3, o4, o5⟩ := id hO
  have oam := hO.am
  refine V_aload_n (pc' := 1) hX dX3_putInOrder_0 rfl rfl ?_
  refine V_get (pc' := 4) hX dX3_putInOrder_1 h0 rfl inX3 2 (by decide) wF_X3_25 rfl rfl ?_
  refine V_istore_n (pc' := 5) (lv' := [_, _, _, _]) hX dX3_putInOrder_4 (Nat.le_of_ble_eq_true rfl) rfl rfl ?_
  refine V_aload_n (pc' := 6) hX dX3_putInOrder_5 rfl rfl ?_
  refine V_callV (nA := 0) (pc' := 9) (k' := 0) (n' := 0) hX dX3_putInOrder_6 (c_NS_clear hN) h0 rfl wM_X3_42 wI_X3_clear wL_X3_clear wN_X3 wC_X3_clear rfl hy_X3_clear rfl (Nat.le_of_ble_eq_true rfl) (by decide) (by omega) rfl rfl (by omega) rfl (by omega) rfl ?_
  rintro _ z h' ⟨rfl, rfl, q1, q2⟩
  refine V.stk (st' := []) rfl ?_
  refine V_iconst (pc' := 10) (v := nI 0) hX dX3_putInOrder_9 (by decide) rfl ?_
  refine V_istore_n (pc' := 11) (lv' := [_, _, _, _]) hX dX3_putInOrder_10 (Nat.le_of_ble_eq_true rfl) rfl rfl ?_
  have lp : ∀ (μ i : Nat) (hc : AH) (kc wc : Nat → Nat) (ac : Nat), i ≤ sz → fr q (q + 3) h hc → nsAt X.G hc q kc wc i ac → nsOk kc wc i ac → (∀ j, i ≤ j → kc j = kf j ∧ wc j = wf j) → (prs kc wc i).Perm (prs (fun j => kyF (tF tn tv tsz) (kf j % 1000000)) wf i) → sz - i < μ → V X 0 0 z hc 11 [some (.ref q), some (.ref a), some (.int (nI sz)), some (.int (nI i))] [] := by
    intro μ
    induction μ with
    | zero => intros; omega
    | succ μ ih =>
      intro i hc kc wc ac b1 b2 b3 b4 b5 b6 b7
      obtain ⟨h0, h1, h2⟩ := id b3
      refine V_iload_n (pc' := 12) hX dX3_putInOrder_11 rfl rfl ?_
      refine V_iload_n (pc' := 13) hX dX3_putInOrder_12 rfl rfl ?_
      refine V_icmp_geN (pt := 46) (pc' := 16) hX dX3_putInOrder_13 (by omega) (by omega) rfl rfl (fun c13 => ?_) (fun c13 => ?_)
      · refine V_vret hX hR dX3_putInOrder_46 ?_
        have e : i = sz := by omega
        subst e
        have eam : ac = am := by
          rw [b4.2.2.2.2, o5]
          have := (b6.map Prod.snd).sum_nat
          have e2 : ∀ (f g : Nat → Nat) n, ((prs f g n).map Prod.snd).sum = sm g n := fun f g n => by
            induction n with
            | zero => rfl
            | succ n ih => simp only [prs, List.map_append, List.sum_append, ih]; simp [sm]
          rw [e2, e2] at this
          exact this
        subst eam
        exact ⟨rfl, rfl, b2, kc, wc, b3, b4, b6⟩
      · refine V_aload_n (pc' := 17) hX dX3_putInOrder_16 rfl rfl ?_
        refine V_aload_n (pc' := 18) hX dX3_putInOrder_17 rfl rfl ?_
        refine V_get (pc' := 21) hX dX3_putInOrder_18 h0 rfl inX3 0 (by decide) wF_X3_9 rfl rfl ?_
        refine V_iload_n (pc' := 22) hX dX3_putInOrder_21 rfl rfl ?_
        refine V_ialdN (pc' := 23) (v := nI (kf i)) hX dX3_putInOrder_22 h1 (by omega) (by omega) (congrArg nI (b5 i (by omega)).1) rfl ?_
        refine V_ldcN (pc' := 25) (v' := nI 1000000) hX dX3_putInOrder_23 wK_X3_24 (by decide) rfl ?_
        refine V_irem (pc' := 26) hX dX3_putInOrder_25 (by decide) rfl ?_
        refine V.eqi (pk_rem (a := kf i) (d := 1000000) (by have := o2 i (by omega); omega) (by omega) (by omega)) ?_
        refine V_aload_n (pc' := 27) hX dX3_putInOrder_26 rfl rfl ?_
        refine V_callS (nA := 2) (pc' := 30) (k' := 0) (n' := 0) hX dX3_putInOrder_27 (c_NS_keyOf (kf i % 1000000) (Nat.mod_lt _ (by omega)) (hT.kept b2 (by omega)) hTO) wM_X3_45 wS_X3_keyOf wN_X3 wC_X3_keyOf rfl hy_X3_keyOf rfl (Nat.le_of_ble_eq_true rfl) (by decide) (by omega) rfl rfl (by omega) rfl (by omega) rfl ?_
        rintro _ z hc ⟨rfl, rfl, rfl⟩
        refine V.stk (st' := [_, _]) rfl ?_
        refine V_aload_n (pc' := 31) hX dX3_putInOrder_30 rfl rfl ?_
        refine V_get (pc' := 34) hX dX3_putInOrder_31 h0 rfl inX3 1 (by decide) wF_X3_15 rfl rfl ?_
        refine V_iload_n (pc' := 35) hX dX3_putInOrder_34 rfl rfl ?_
        refine V_ialdN (pc' := 36) (v := nI (wf i)) hX dX3_putInOrder_35 h2 (by omega) (by omega) (congrArg nI (b5 i (by omega)).2) rfl ?_
        refine V_callV (nA := 2) (pc' := 39) (k' := 0) (n' := 0) hX dX3_putInOrder_36 (c_NS_insert (kyF (tF tn tv tsz) (kf i % 1000000)) (wf i) (by have := hF (kf i % 1000000); have := Nat.mod_lt (kf i) (show 0 < 1000000 by omega); unfold kyF; omega) (o4 i (by omega)) b3 b4) h0 rfl wM_X3_49 wI_X3_insert wL_X3_insert wN_X3 wC_X3_insert rfl hy_X3_insert rfl (Nat.le_of_ble_eq_true rfl) (by decide) (by omega) rfl rfl (by omega) rfl (by omega) rfl ?_
        rintro _ z h' ⟨b, rfl, rfl, g1, g2⟩
        have hb : b = true := by
          cases hb : b with
          | true => rfl
          | false =>
            obtain ⟨-, g | ⟨j, g3, g4⟩⟩ := g1 hb
            · omega
            · have hm : (kc j, wc j) ∈ prs (fun j => kyF (tF tn tv tsz) (kf j % 1000000)) wf i := (b6.mem_iff).mp (prs_mem.mpr ⟨j, g3, rfl⟩)
              obtain ⟨j2, e1, e2⟩ := prs_mem.mp hm
              have e3 : kc j = kyF (tF tn tv tsz) (kf j2 % 1000000) := congrArg Prod.fst e2
              rw [g4] at e3
              exact absurd (kyF_inj (Nat.mod_lt _ (by omega)) (Nat.mod_lt _ (by omega)) e3) (Ne.symm (hdis j2 i e1 (by omega)))
        obtain ⟨g3, g4, q3, kf', wf', p, q4, q5, q6⟩ := g2 hb
        refine V.stk (st' := [_]) rfl ?_
        refine V_pop (pc' := 40) hX dX3_putInOrder_39 rfl rfl ?_
        refine V_iincN (pc' := 43) (j := 1) (lv' := [_, _, _, _]) hX dX3_putInOrder_40 rfl rfl rfl rfl ?_
        refine V_goto (pc' := 11) hX dX3_putInOrder_43 rfl ?_
        exact ih (i + 1) h' kf' wf' _ (by omega) (b2.tr q3) q4 q5 (fun j hj => ⟨((q6.2.2.2.2.2 j (by omega)).1).trans (b5 j (by omega)).1, ((q6.2.2.2.2.2 j (by omega)).2).trans (b5 j (by omega)).2⟩) ((q6.perm.trans (List.Perm.cons _ b6)).trans (List.perm_append_singleton _ _).symm) (by omega)
  exact lp (sz + 1) 0 _ kf wf 0 (by omega) q2 q1 ⟨by omega, fun j hj => by omega, fun i j _ hj => by omega, fun j hj => by omega, rfl⟩ (fun j _ => ⟨rfl, rfl⟩) (List.Perm.refl _) (by omega)
