set_option maxRecDepth 100000 in
set_option maxHeartbeats 4000000 in
theorem c_Nt_init {G : Gd} {z : Nat} {h : AH} {a : Nat} (ha : h a = some (oO 2 [.null, .long 0])) (hz : z = a + 1) : Ct G yX2_init cX2_init 1 none 1 1 60 [.ref a] z h (fun r z' h' => r = none ∧ z' = a + 2 ∧ ntAt G h' a (fun _ => 0) 0 ∧ fr a (a + 2) h h') := by
  refine Ct.of (lv := [_]) (by decide) (Nat.le_of_ble_eq_true rfl) rfl ?_
  rintro X rfl hX hR hnm
  subst hz
  refine V_aload_n (pc' := 1) hX dX2_init_0 rfl rfl ?_
  refine V_objInit (pc' := 4) hX dX2_init_1 wM_X2_3 wI_objInit wC_objInit (by omega) rfl rfl rfl ?_
  refine V_aload_n (pc' := 5) hX dX2_init_4 rfl rfl ?_
  refine V_bipush (pc' := 7) (v := nI 60) hX dX2_init_5 (by decide) rfl ?_
  refine V_newJN (pc' := 9) hX dX2_init_7 (by omega) (by omega) (by omega) rfl ?_
  simp only [Nat.zero_add]
  refine V_putF (pc' := 12) (fs' := [_, _]) (ty0 := tyX2) hX dX2_init_9 (hnm.trans rfl) ((hup_n (by omega)).trans ha) rfl inX2 tyX2_ok nmX2 0 (by decide) wF_X2_9 rfl rfl (tyX2_ok 0 (by decide)) rfl rfl (Nat.le_of_ble_eq_true rfl) rfl rfl ?_
  refine V_vret hX hR dX2_init_12 ?_
  exact ⟨rfl, rfl, ⟨hup_s, ((hup_n (by omega)).trans hup_s)⟩, (fr.up (fr.up fr.rf (by omega) (by omega)) (by omega) (by omega))⟩
set_option maxRecDepth 100000 in
set_option maxHeartbeats 4000000 in
theorem c_Nt_forget {G : Gd} {z : Nat} {h : AH} {a fg : Nat} {ff : Nat → Nat} (r : Nat) (hr : r < 60) (hN : ntAt G h a ff fg) (hO : ntOk ff fg) : Ct G yX2_forget cX2_forget 2 none 0 0 0 [.ref a, .int (nI r)] z h (fun r' z' h' => r' = none ∧ z' = z ∧ ntAt G h' a ff (fg ||| 2 ^ r) ∧ fr a (a + 2) h h') := by
  refine Ct.of (lv := [_, _]) (by decide) (Nat.le_of_ble_eq_true rfl) rfl ?_
  rintro X rfl hX hR hnm
  obtain ⟨h0, h1⟩ := id hN
  obtain ⟨o1, o2⟩ := id hO
  refine V_aload_n (pc' := 1) hX dX2_forget_0 rfl rfl ?_
  refine V_dup (pc' := 2) hX dX2_forget_1 rfl rfl ?_
  refine V_get (pc' := 5) hX dX2_forget_2 h0 rfl inX2 1 (by decide) wF_X2_15 rfl rfl ?_
  refine V_lconst (pc' := 6) (v := lN 1) hX dX2_forget_5 rfl rfl ?_
  refine V_iload_n (pc' := 7) hX dX2_forget_6 rfl rfl ?_
  refine V_lshl (pc' := 8) hX dX2_forget_7 rfl ?_
  refine V.eql (lN_bit (by omega)) ?_
  refine V_lor (pc' := 9) hX dX2_forget_8 rfl ?_
  refine V.eql (lN_or _ _) ?_
  refine V_put (pc' := 12) (fs' := [_, _]) (ty0 := tyX2) hX dX2_forget_9 h0 rfl inX2 tyX2_ok nmX2 1 (by decide) wF_X2_15 rfl (tyX2_ok 1 (by decide)) rfl rfl (Nat.le_of_ble_eq_true rfl) rfl rfl ?_
  refine V_vret hX hR dX2_forget_12 ?_
  exact ⟨rfl, rfl, ⟨hup_s, ((hup_n (by omega)).trans h1)⟩, (fr.up fr.rf (by omega) (by omega))⟩
set_option maxRecDepth 100000 in
set_option maxHeartbeats 4000000 in
theorem c_Nt_isForgotten {G : Gd} {z : Nat} {h : AH} {a fg : Nat} {ff : Nat → Nat} (r : Nat) (hr : r < 60) (hN : ntAt G h a ff fg) (hO : ntOk ff fg) : Ct G yX2_isForgotten cX2_isForgotten 2 (some .boolean) 0 0 0 [.ref a, .int (nI r)] z h (fun r' z' h' => r' = some (.int (bI (fg.testBit r))) ∧ z' = z ∧ h' = h) := by
  refine Ct.of (lv := [_, _]) (by decide) (Nat.le_of_ble_eq_true rfl) rfl ?_
  rintro X rfl hX hR hnm
  obtain ⟨h0, h1⟩ := id hN
  obtain ⟨o1, o2⟩ := id hO
  refine V_aload_n (pc' := 1) hX dX2_isForgotten_0 rfl rfl ?_
  refine V_get (pc' := 4) hX dX2_isForgotten_1 h0 rfl inX2 1 (by decide) wF_X2_15 rfl rfl ?_
  refine V_lconst (pc' := 5) (v := lN 1) hX dX2_isForgotten_4 rfl rfl ?_
  refine V_iload_n (pc' := 6) hX dX2_isForgotten_5 rfl rfl ?_
  refine V_lshl (pc' := 7) hX dX2_isForgotten_6 rfl ?_
  refine V.eql (lN_bit (by omega)) ?_
  refine V_land (pc' := 8) hX dX2_isForgotten_7 rfl ?_
  refine V.eql (lN_and _ _) ?_
  refine V_lconst (pc' := 9) (v := lN 0) hX dX2_isForgotten_8 rfl rfl ?_
  refine V_lcmp_eqN (pt := 17) (pc' := 13) hX dX2_isForgotten_9 rfl dX2_isForgotten_10 (by have := and_bit_le fg r; have := pow_lt60 hr; omega) (by omega) rfl rfl (fun c9 => ?_) (fun c9 => ?_)
  · refine V_iconst (pc' := 18) (v := nI 0) hX dX2_isForgotten_17 (by decide) rfl ?_
    refine V_zret hX hR dX2_isForgotten_18 (by first | rfl | exact bI_n _) ?_
    rw [(and_bit fg r).mp c9]; exact ⟨rfl, rfl, rfl⟩
  · refine V_iconst (pc' := 14) (v := nI 1) hX dX2_isForgotten_13 (by decide) rfl ?_
    refine V_goto (pc' := 18) hX dX2_isForgotten_14 rfl ?_
    refine V_zret hX hR dX2_isForgotten_18 (by first | rfl | exact bI_n _) ?_
    have e : fg.testBit r = true := by
      cases hx : fg.testBit r with
      | true => rfl
      | false => exact absurd ((and_bit fg r).mpr hx) c9
    rw [e]; exact ⟨rfl, rfl, rfl⟩
set_option maxRecDepth 100000 in
set_option maxHeartbeats 4000000 in
theorem c_Nt_know {G : Gd} {z : Nat} {h : AH} {a fg : Nat} {ff : Nat → Nat} (r : Nat) (hr : r < 60) (hN : ntAt G h a ff fg) (hO : ntOk ff fg) : Ct G yX2_know cX2_know 2 none 0 0 0 [.ref a, .int (nI r)] z h (fun r' z' h' => r' = none ∧ z' = z ∧ ntAt G h' a ff (nD fg (2 ^ r)) ∧ fr a (a + 2) h h') := by
  refine Ct.of (lv := [_, _]) (by decide) (Nat.le_of_ble_eq_true rfl) rfl ?_
  rintro X rfl hX hR hnm
  obtain ⟨h0, h1⟩ := id hN
  obtain ⟨o1, o2⟩ := id hO
  refine V_aload_n (pc' := 1) hX dX2_know_0 rfl rfl ?_
  refine V_dup (pc' := 2) hX dX2_know_1 rfl rfl ?_
  refine V_get (pc' := 5) hX dX2_know_2 h0 rfl inX2 1 (by decide) wF_X2_15 rfl rfl ?_
  refine V_lconst (pc' := 6) (v := lN 1) hX dX2_know_5 rfl rfl ?_
  refine V_iload_n (pc' := 7) hX dX2_know_6 rfl rfl ?_
  refine V_lshl (pc' := 8) hX dX2_know_7 rfl ?_
  refine V.eql (lN_bit (by omega)) ?_
  refine V_ldc2N (pc' := 11) (v' := (-1)) hX dX2_know_8 wK_X2_19 (by decide) rfl ?_
  refine V_lxor (pc' := 12) hX dX2_know_11 rfl ?_
  refine V_land (pc' := 13) hX dX2_know_12 rfl ?_
  refine V.eql (lN_nD _ _) ?_
  refine V_put (pc' := 16) (fs' := [_, _]) (ty0 := tyX2) hX dX2_know_13 h0 rfl inX2 tyX2_ok nmX2 1 (by decide) wF_X2_15 rfl (tyX2_ok 1 (by decide)) rfl rfl (Nat.le_of_ble_eq_true rfl) rfl rfl ?_
  refine V_vret hX hR dX2_know_16 ?_
  exact ⟨rfl, rfl, ⟨hup_s, ((hup_n (by omega)).trans h1)⟩, (fr.up fr.rf (by omega) (by omega))⟩
set_option maxRecDepth 100000 in
set_option maxHeartbeats 4000000 in
theorem c_Nt_tie {G : Gd} {z : Nat} {h : AH} {a fg : Nat} {ff : Nat → Nat} (r s : Nat) (b : Bool) (hr : r < 60) (hs : s < 60) (hne : r ≠ s) (hN : ntAt G h a ff fg) (hO : ntOk ff fg) : Ct G yX2_tie cX2_tie 4 none 0 0 0 [.ref a, .int (nI r), .int (nI s), .int (bI b)] z h (fun r' z' h' => r' = none ∧ z' = z ∧ ntAt G h' a (va_up (va_up ff r (if b = true then ff r ||| 2 ^ s else nD (ff r) (2 ^ s))) s (if b = true then ff s ||| 2 ^ r else nD (ff s) (2 ^ r))) fg ∧ fr a (a + 2) h h') := by
  refine Ct.of (lv := [_, _, _, _]) (by decide) (Nat.le_of_ble_eq_true rfl) rfl ?_
  rintro X rfl hX hR hnm
  obtain ⟨h0, h1⟩ := id hN
  obtain ⟨o1, o2⟩ := id hO
  refine V_aload_n (pc' := 1) hX dX2_tie_0 rfl rfl ?_
  refine V_get (pc' := 4) hX dX2_tie_1 h0 rfl inX2 0 (by decide) wF_X2_9 rfl rfl ?_
  refine V_iload_n (pc' := 5) hX dX2_tie_4 rfl rfl ?_
  refine V_iload_n (pc' := 6) hX dX2_tie_5 rfl rfl ?_
  refine V_if_eqB (pt := 22) (pc' := 9) hX dX2_tie_6 rfl rfl (fun c6 => ?_) (fun c6 => ?_)
  · refine V_aload_n (pc' := 23) hX dX2_tie_22 rfl rfl ?_
    refine V_get (pc' := 26) hX dX2_tie_23 h0 rfl inX2 0 (by decide) wF_X2_9 rfl rfl ?_
    refine V_iload_n (pc' := 27) hX dX2_tie_26 rfl rfl ?_
    refine V_laldN (pc' := 28) hX dX2_tie_27 h1 (by omega) (by omega) rfl rfl ?_
    refine V_lconst (pc' := 29) (v := lN 1) hX dX2_tie_28 rfl rfl ?_
    refine V_iload_n (pc' := 30) hX dX2_tie_29 rfl rfl ?_
    refine V_lshl (pc' := 31) hX dX2_tie_30 rfl ?_
    refine V.eql (lN_bit (by omega)) ?_
    refine V_ldc2N (pc' := 34) (v' := (-1)) hX dX2_tie_31 wK_X2_19 (by decide) rfl ?_
    refine V_lxor (pc' := 35) hX dX2_tie_34 rfl ?_
    refine V_land (pc' := 36) hX dX2_tie_35 rfl ?_
    refine V.eql (lN_nD _ _) ?_
    refine V_lastNN (pc' := 37) hX dX2_tie_36 h1 (by omega) (by omega) rfl ?_
    refine V_aload_n (pc' := 38) hX dX2_tie_37 rfl rfl ?_
    refine V_get (pc' := 41) hX dX2_tie_38 ((hup_n (by omega)).trans h0) rfl inX2 0 (by decide) wF_X2_9 rfl rfl ?_
    refine V_iload_n (pc' := 42) hX dX2_tie_41 rfl rfl ?_
    refine V_iload_n (pc' := 43) hX dX2_tie_42 rfl rfl ?_
    refine V_if_eqB (pt := 59) (pc' := 46) hX dX2_tie_43 rfl rfl (fun c43 => ?_) (fun c43 => ?_)
    · refine V_aload_n (pc' := 60) hX dX2_tie_59 rfl rfl ?_
      refine V_get (pc' := 63) hX dX2_tie_60 ((hup_n (by omega)).trans h0) rfl inX2 0 (by decide) wF_X2_9 rfl rfl ?_
      refine V_iload_n (pc' := 64) hX dX2_tie_63 rfl rfl ?_
      refine V_laldN (pc' := 65) (v := lN (ff s)) hX dX2_tie_64 hup_s (by omega) (by omega) (by show lN (va_up _ _ _ s) = _; unfold va_up; rw [if_neg (Ne.symm hne)]) rfl ?_
      refine V_lconst (pc' := 66) (v := lN 1) hX dX2_tie_65 rfl rfl ?_
      refine V_iload_n (pc' := 67) hX dX2_tie_66 rfl rfl ?_
      refine V_lshl (pc' := 68) hX dX2_tie_67 rfl ?_
      refine V.eql (lN_bit (by omega)) ?_
      refine V_ldc2N (pc' := 71) (v' := (-1)) hX dX2_tie_68 wK_X2_19 (by decide) rfl ?_
      refine V_lxor (pc' := 72) hX dX2_tie_71 rfl ?_
      refine V_land (pc' := 73) hX dX2_tie_72 rfl ?_
      refine V.eql (lN_nD _ _) ?_
      refine V_lastNN (pc' := 74) hX dX2_tie_73 hup_s (by omega) (by omega) rfl ?_
      refine V_vret hX hR dX2_tie_74 ?_
      subst c6
      exact ⟨rfl, rfl, ⟨((hup_n (by omega)).trans ((hup_n (by omega)).trans h0)), hup_s⟩, (fr.up (fr.up fr.rf (by omega) (by omega)) (by omega) (by omega))⟩
    · rw [c6] at c43; cases c43
  · refine V_aload_n (pc' := 10) hX dX2_tie_9 rfl rfl ?_
    refine V_get (pc' := 13) hX dX2_tie_10 h0 rfl inX2 0 (by decide) wF_X2_9 rfl rfl ?_
    refine V_iload_n (pc' := 14) hX dX2_tie_13 rfl rfl ?_
    refine V_laldN (pc' := 15) hX dX2_tie_14 h1 (by omega) (by omega) rfl rfl ?_
    refine V_lconst (pc' := 16) (v := lN 1) hX dX2_tie_15 rfl rfl ?_
    refine V_iload_n (pc' := 17) hX dX2_tie_16 rfl rfl ?_
    refine V_lshl (pc' := 18) hX dX2_tie_17 rfl ?_
    refine V.eql (lN_bit (by omega)) ?_
    refine V_lor (pc' := 19) hX dX2_tie_18 rfl ?_
    refine V.eql (lN_or _ _) ?_
    refine V_goto (pc' := 36) hX dX2_tie_19 rfl ?_
    refine V_lastNN (pc' := 37) hX dX2_tie_36 h1 (by omega) (by omega) rfl ?_
    refine V_aload_n (pc' := 38) hX dX2_tie_37 rfl rfl ?_
    refine V_get (pc' := 41) hX dX2_tie_38 ((hup_n (by omega)).trans h0) rfl inX2 0 (by decide) wF_X2_9 rfl rfl ?_
    refine V_iload_n (pc' := 42) hX dX2_tie_41 rfl rfl ?_
    refine V_iload_n (pc' := 43) hX dX2_tie_42 rfl rfl ?_
    refine V_if_eqB (pt := 59) (pc' := 46) hX dX2_tie_43 rfl rfl (fun c43 => ?_) (fun c43 => ?_)
    · rw [c6] at c43; cases c43
    · refine V_aload_n (pc' := 47) hX dX2_tie_46 rfl rfl ?_
      refine V_get (pc' := 50) hX dX2_tie_47 ((hup_n (by omega)).trans h0) rfl inX2 0 (by decide) wF_X2_9 rfl rfl ?_
      refine V_iload_n (pc' := 51) hX dX2_tie_50 rfl rfl ?_
      refine V_laldN (pc' := 52) (v := lN (ff s)) hX dX2_tie_51 hup_s (by omega) (by omega) (by show lN (va_up _ _ _ s) = _; unfold va_up; rw [if_neg (Ne.symm hne)]) rfl ?_
      refine V_lconst (pc' := 53) (v := lN 1) hX dX2_tie_52 rfl rfl ?_
      refine V_iload_n (pc' := 54) hX dX2_tie_53 rfl rfl ?_
      refine V_lshl (pc' := 55) hX dX2_tie_54 rfl ?_
      refine V.eql (lN_bit (by omega)) ?_
      refine V_lor (pc' := 56) hX dX2_tie_55 rfl ?_
      refine V.eql (lN_or _ _) ?_
      refine V_goto (pc' := 73) hX dX2_tie_56 rfl ?_
      refine V_lastNN (pc' := 74) hX dX2_tie_73 hup_s (by omega) (by omega) rfl ?_
      refine V_vret hX hR dX2_tie_74 ?_
      rw [if_pos c6, if_pos c6]
      exact ⟨rfl, rfl, ⟨((hup_n (by omega)).trans ((hup_n (by omega)).trans h0)), hup_s⟩, (fr.up (fr.up fr.rf (by omega) (by omega)) (by omega) (by omega))⟩
set_option maxRecDepth 100000 in
set_option maxHeartbeats 4000000 in
theorem c_Nt_leastOf {G : Gd} {z : Nat} {h : AH} (n : Nat) (hn : n < 2 ^ 60) : Ct G yX2_leastOf cX2_leastOf 2 (some .int) 1 0 0 [.long (lN n)] z h (fun r z' h' => ∃ x, r = some (.int x) ∧ z' = z ∧ h' = h ∧ leastP n x) := by
  refine Ct.of (lv := [_, _]) (by decide) (Nat.le_of_ble_eq_true rfl) rfl ?_
  rintro X rfl hX hR hnm
  refine V_lload_n (pc' := 1) hX dX2_leastOf_0 rfl rfl ?_
  refine V_lconst (pc' := 2) (v := lN 0) hX dX2_leastOf_1 rfl rfl ?_
  refine V_lcmp_neN (pt := 10) (pc' := 6) hX dX2_leastOf_2 rfl dX2_leastOf_3 (by omega) (by omega) rfl rfl (fun c2 => ?_) (fun c2 => ?_)
  · obtain ⟨i, m, en⟩ := low_form n (by omega)
    have hi : i < 60 := bit_lt hn (by rw [en, odd_bit, if_neg (by omega), if_pos rfl])
    have hpi := pow_lt60 hi
    have hpi0 := Nat.two_pow_pos i
    refine V_lload_n (pc' := 11) hX dX2_leastOf_10 rfl rfl ?_
    refine V_lload_n (pc' := 12) hX dX2_leastOf_11 rfl rfl ?_
    refine V_lneg (pc' := 13) hX dX2_leastOf_12 rfl ?_
    refine V_land (pc' := 14) hX dX2_leastOf_13 rfl ?_
    refine V.eql (y := lN (2 ^ i)) ?_ ?_
    · rw [en]; exact low_neg i m (by rw [← en]; omega)
    refine V_lconst (pc' := 15) (v := lN 1) hX dX2_leastOf_14 rfl rfl ?_
    refine V_lsubN (pc' := 16) hX dX2_leastOf_15 (by omega) rfl ?_
    refine V_callS (nA := 1) (pc' := 19) (k' := 0) (n' := 0) hX dX2_leastOf_16 (c_bitCount (2 ^ i - 1) (by omega)) wM_X2_21 wS_J13_bitCount_95d88 wN_J13 wC_J13_bitCount_95d88 rfl hy_J13_bitCount_95d88 rfl (Nat.le_of_ble_eq_true rfl) (by decide) (by omega) rfl rfl (by omega) rfl (by omega) rfl ?_
    rintro _ z h ⟨rfl, rfl, rfl⟩
    refine V.stk (st' := [_]) rfl ?_
    refine V_iret hX hR dX2_leastOf_19 ?_
    rw [popN_ones (by omega)]
    exact ⟨_, rfl, rfl, rfl, Or.inr ⟨i, m, en, hi, rfl⟩⟩
  · refine V_iconst (pc' := 7) (v := (-1)) hX dX2_leastOf_6 (by decide) rfl ?_
    refine V_goto (pc' := 19) hX dX2_leastOf_7 rfl ?_
    refine V_iret hX hR dX2_leastOf_19 ?_
    exact ⟨_, rfl, rfl, rfl, Or.inl ⟨c2, rfl⟩⟩
set_option maxRecDepth 100000 in
set_option maxHeartbeats 4000000 in
theorem c_Nt_friendsOf {G : Gd} {z : Nat} {h : AH} {a fg : Nat} {ff : Nat → Nat} (n : Nat) (hn : n < 2 ^ 60) (hN : ntAt G h a ff fg) (hO : ntOk ff fg) : Ct G yX2_friendsOf cX2_friendsOf 6 (some .long) 0 0 0 [.ref a, .long (lN n)] z h (fun r z' h' => r = some (.long (lN (fo ff n))) ∧ z' = z ∧ h' = h) := by
  refine Ct.of (lv := [_, _, _, _, _, _]) (by decide) (Nat.le_of_ble_eq_true rfl) rfl ?_
  rintro X rfl hX hR hnm
  obtain ⟨h0, h1⟩ := id hN
  obtain ⟨o1, o2⟩ := id hO
  refine V_lconst (pc' := 1) (v := lN 0) hX dX2_friendsOf_0 rfl rfl ?_
  refine V_lstore_n (pc' := 2) (lv' := [_, _, _, _, _, _]) hX dX2_friendsOf_1 (Nat.le_of_ble_eq_true rfl) rfl rfl ?_
  refine V_iconst (pc' := 3) (v := nI 0) hX dX2_friendsOf_2 (by decide) rfl ?_
  refine V_istore (pc' := 5) (lv' := [_, _, _, _, _, _]) hX dX2_friendsOf_3 (Nat.le_of_ble_eq_true rfl) rfl rfl ?_
  have lp : ∀ (μ j : Nat), j ≤ 60 → 60 - j < μ → V X 0 0 z h 5 [some (.ref a), some (.long (lN n)), none, some (.long (lN (foN ff n j))), none, some (.int (nI j))] [] := by
    intro μ
    induction μ with
    | zero => intros; omega
    | succ μ ih =>
      intro j b1 b2
      refine V_iload (pc' := 7) hX dX2_friendsOf_5 rfl rfl ?_
      refine V_bipush (pc' := 9) (v := nI 60) hX dX2_friendsOf_7 (by decide) rfl ?_
      refine V_icmp_geN (pt := 39) (pc' := 12) hX dX2_friendsOf_9 (by omega) (by omega) rfl rfl (fun c9 => ?_) (fun c9 => ?_)
      · refine V_lload_n (pc' := 40) hX dX2_friendsOf_39 rfl rfl ?_
        refine V_lret hX hR dX2_friendsOf_40 ?_
        have e : j = 60 := by omega
        subst e
        exact ⟨rfl, rfl, rfl⟩
      · refine V_lload_n (pc' := 13) hX dX2_friendsOf_12 rfl rfl ?_
        refine V_lconst (pc' := 14) (v := lN 1) hX dX2_friendsOf_13 rfl rfl ?_
        refine V_iload (pc' := 16) hX dX2_friendsOf_14 rfl rfl ?_
        refine V_lshl (pc' := 17) hX dX2_friendsOf_16 rfl ?_
        refine V.eql (lN_bit (by omega)) ?_
        refine V_land (pc' := 18) hX dX2_friendsOf_17 rfl ?_
        refine V.eql (lN_and _ _) ?_
        refine V_lconst (pc' := 19) (v := lN 0) hX dX2_friendsOf_18 rfl rfl ?_
        refine V_lcmp_eqN (pt := 33) (pc' := 23) hX dX2_friendsOf_19 rfl dX2_friendsOf_20 (by have := and_bit_le n j; have := pow_lt60 (r := j) (by omega); omega) (by omega) rfl rfl (fun c19 => ?_) (fun c19 => ?_)
        · have hb : ¬ n.testBit j = true := by rw [(and_bit n j).mp c19]; decide
          refine V_iincN (pc' := 36) (j := 1) (lv' := [_, _, _, _, _, _]) hX dX2_friendsOf_33 rfl rfl rfl rfl ?_
          refine V_goto (pc' := 5) hX dX2_friendsOf_36 rfl ?_
          refine V.loc2 (lv' := [some _, some _, none, some _, none, some _]) ⟨rfl, rfl, rfl, rfl, trivial⟩ ?_
          first
            | (have e : foN ff n j ||| ff j = foN ff n (j + 1) := by
                 show _ = if n.testBit j = true then _ else _
                 rw [if_pos hb]
               rw [e]; exact ih (j + 1) (by omega) (by omega))
            | (have e : foN ff n j = foN ff n (j + 1) := by
                 show _ = if n.testBit j = true then _ else _
                 rw [if_neg hb]
               rw [e]; exact ih (j + 1) (by omega) (by omega))
        · have hb : n.testBit j = true := by
            cases hx : n.testBit j with
            | true => rfl
            | false => exact absurd ((and_bit n j).mpr hx) c19
          refine V_lload_n (pc' := 24) hX dX2_friendsOf_23 rfl rfl ?_
          refine V_aload_n (pc' := 25) hX dX2_friendsOf_24 rfl rfl ?_
          refine V_get (pc' := 28) hX dX2_friendsOf_25 h0 rfl inX2 0 (by decide) wF_X2_9 rfl rfl ?_
          refine V_iload (pc' := 30) hX dX2_friendsOf_28 rfl rfl ?_
          refine V_laldN (pc' := 31) hX dX2_friendsOf_30 h1 (by omega) (by omega) rfl rfl ?_
          refine V_lor (pc' := 32) hX dX2_friendsOf_31 rfl ?_
          refine V.eql (lN_or _ _) ?_
          refine V_lstore_n (pc' := 33) (lv' := [_, _, _, _, _, _]) hX dX2_friendsOf_32 (Nat.le_of_ble_eq_true rfl) rfl rfl ?_
          refine V_iincN (pc' := 36) (j := 1) (lv' := [_, _, _, _, _, _]) hX dX2_friendsOf_33 rfl rfl rfl rfl ?_
          refine V_goto (pc' := 5) hX dX2_friendsOf_36 rfl ?_
          refine V.loc2 (lv' := [some _, some _, none, some _, none, some _]) ⟨rfl, rfl, rfl, rfl, trivial⟩ ?_
          first
            | (have e : foN ff n j ||| ff j = foN ff n (j + 1) := by
                 show _ = if n.testBit j = true then _ else _
                 rw [if_pos hb]
               rw [e]; exact ih (j + 1) (by omega) (by omega))
            | (have e : foN ff n j = foN ff n (j + 1) := by
                 show _ = if n.testBit j = true then _ else _
                 rw [if_neg hb]
               rw [e]; exact ih (j + 1) (by omega) (by omega))
  refine V.loc2 (lv' := [some _, some _, none, some _, none, some _]) ⟨rfl, rfl, rfl, rfl, trivial⟩ ?_
  exact lp 61 0 (by omega) (by omega)
set_option maxRecDepth 100000 in
set_option maxHeartbeats 4000000 in
theorem c_Nt_familyOf {G : Gd} {z : Nat} {h : AH} {a fg : Nat} {ff : Nat → Nat} (r : Nat) (hr : r < 60) (hN : ntAt G h a ff fg) (hO : ntOk ff fg) : Ct G yX2_familyOf cX2_familyOf 7 (some .long) 1 0 0 [.ref a, .int (nI r)] z h (fun r' z' h' => r' = some (.long (lN (famN ff 60 (2 ^ r) (2 ^ r)))) ∧ z' = z ∧ h' = h) := by
  refine Ct.of (lv := [_, _, _, _, _, _, _]) (by decide) (Nat.le_of_ble_eq_true rfl) rfl ?_
  rintro X rfl hX hR hnm
  obtain ⟨h0, h1⟩ := id hN
  obtain ⟨o1, o2⟩ := id hO
  refine V_lconst (pc' := 1) (v := lN 1) hX dX2_familyOf_0 rfl rfl ?_
  refine V_iload_n (pc' := 2) hX dX2_familyOf_1 rfl rfl ?_
  refine V_lshl (pc' := 3) hX dX2_familyOf_2 rfl ?_
  refine V.eql (lN_bit (by omega)) ?_
  refine V_lstore_n (pc' := 4) (lv' := [_, _, _, _, _, _, _]) hX dX2_familyOf_3 (Nat.le_of_ble_eq_true rfl) rfl rfl ?_
  refine V_lload_n (pc' := 5) hX dX2_familyOf_4 rfl rfl ?_
  refine V_lstore (pc' := 7) (lv' := [_, _, _, _, _, _, _]) hX dX2_familyOf_5 (Nat.le_of_ble_eq_true rfl) rfl rfl ?_
  refine V_iconst (pc' := 8) (v := nI 0) hX dX2_familyOf_7 (by decide) rfl ?_
  refine V_istore (pc' := 10) (lv' := [_, _, _, _, _, _, _]) hX dX2_familyOf_8 (Nat.le_of_ble_eq_true rfl) rfl rfl ?_
  have lp : ∀ (μ t fam ed : Nat), t ≤ 60 → fam < 2 ^ 60 → ed < 2 ^ 60 → famN ff (60 - t) fam ed = famN ff 60 (2 ^ r) (2 ^ r) → 60 - t < μ → V X 0 0 z h 10 [some (.ref a), some (.int (nI r)), some (.long (lN fam)), none, some (.long (lN ed)), none, some (.int (nI t))] [] := by
    intro μ
    induction μ with
    | zero => intros; omega
    | succ μ ih =>
      intro t fam ed b1 b2 b3 b4 b5
      refine V_iload (pc' := 12) hX dX2_familyOf_10 rfl rfl ?_
      refine V_bipush (pc' := 14) (v := nI 60) hX dX2_familyOf_12 (by decide) rfl ?_
      refine V_icmp_geN (pt := 49) (pc' := 17) hX dX2_familyOf_14 (by omega) (by omega) rfl rfl (fun c14 => ?_) (fun c14 => ?_)
      · refine V_lload_n (pc' := 50) hX dX2_familyOf_49 rfl rfl ?_
        refine V_lret hX hR dX2_familyOf_50 ?_
        rw [← b4, show 60 - t = 0 by omega]; exact ⟨rfl, rfl, rfl⟩
      · refine V_lload (pc' := 19) hX dX2_familyOf_17 rfl rfl ?_
        refine V_lconst (pc' := 20) (v := lN 0) hX dX2_familyOf_19 rfl rfl ?_
        refine V_lcmp_eqN (pt := 49) (pc' := 24) hX dX2_familyOf_20 rfl dX2_familyOf_21 (by omega) (by omega) rfl rfl (fun c20 => ?_) (fun c20 => ?_)
        · refine V_lload_n (pc' := 50) hX dX2_familyOf_49 rfl rfl ?_
          refine V_lret hX hR dX2_familyOf_50 ?_
          rw [← b4]
          have e : famN ff (60 - t) fam ed = fam := by
            cases hk : 60 - t with
            | zero => rfl
            | succ k => exact if_pos c20
          rw [e]; exact ⟨rfl, rfl, rfl⟩
        · refine V_aload_n (pc' := 25) hX dX2_familyOf_24 rfl rfl ?_
          refine V_lload (pc' := 27) hX dX2_familyOf_25 rfl rfl ?_
          refine V_callV (nA := 1) (pc' := 30) (k' := 0) (n' := 0) hX dX2_familyOf_27 (c_Nt_friendsOf ed b3 hN hO) h0 rfl wM_X2_27 wI_X2_friendsOf wL_X2_friendsOf wN_X2 wC_X2_friendsOf rfl hy_X2_friendsOf rfl (Nat.le_of_ble_eq_true rfl) (by decide) (by omega) rfl rfl (by omega) rfl (by omega) rfl ?_
          rintro _ z h ⟨rfl, rfl, rfl⟩
          refine V.stk (st' := [_]) rfl ?_
          refine V_lload_n (pc' := 31) hX dX2_familyOf_30 rfl rfl ?_
          refine V_ldc2N (pc' := 34) (v' := (-1)) hX dX2_familyOf_31 wK_X2_19 (by decide) rfl ?_
          refine V_lxor (pc' := 35) hX dX2_familyOf_34 rfl ?_
          refine V_land (pc' := 36) hX dX2_familyOf_35 rfl ?_
          refine V.eql (lN_nD _ _) ?_
          refine V_lstore (pc' := 38) (lv' := [_, _, _, _, _, _, _]) hX dX2_familyOf_36 (Nat.le_of_ble_eq_true rfl) rfl rfl ?_
          refine V_lload_n (pc' := 39) hX dX2_familyOf_38 rfl rfl ?_
          refine V_lload (pc' := 41) hX dX2_familyOf_39 rfl rfl ?_
          refine V_lor (pc' := 42) hX dX2_familyOf_41 rfl ?_
          refine V.eql (lN_or _ _) ?_
          refine V_lstore_n (pc' := 43) (lv' := [_, _, _, _, _, _, _]) hX dX2_familyOf_42 (Nat.le_of_ble_eq_true rfl) rfl rfl ?_
          refine V_iincN (pc' := 46) (j := 1) (lv' := [_, _, _, _, _, _, _]) hX dX2_familyOf_43 rfl rfl rfl rfl ?_
          refine V_goto (pc' := 10) hX dX2_familyOf_46 rfl ?_
          refine V.loc2 (lv' := [some _, some _, some _, none, some _, none, some _]) ⟨rfl, rfl, rfl, rfl, rfl, trivial⟩ ?_
          exact ih (t + 1) _ _ (by omega) (Nat.or_lt_two_pow b2 (nD_lt (foN_bd o1))) (nD_lt (foN_bd o1)) (by
            rw [← b4, show 60 - t = (60 - (t + 1)) + 1 by omega]
            show _ = if ed = 0 then _ else _
            rw [if_neg c20]) (by omega)
  refine V.loc2 (lv' := [some _, some _, some _, none, some _, none, some _]) ⟨rfl, rfl, rfl, rfl, rfl, trivial⟩ ?_
  exact lp 61 0 _ _ (by omega) (pow_lt60 hr) (pow_lt60 hr) rfl (by omega)
set_option maxRecDepth 100000 in
set_option maxHeartbeats 4000000 in
theorem c_Nt_steps {G : Gd} {z : Nat} {h : AH} {a fg : Nat} {ff : Nat → Nat} (r s : Nat) (hr : r < 60) (hs : s < 60) (hN : ntAt G h a ff fg) (hO : ntOk ff fg) : Ct G yX2_stepsBetween cX2_stepsBetween 8 (some .int) 1 0 0 [.ref a, .int (nI r), .int (nI s)] z h (fun r' z' h' => r' = some (.int (optI (stpN ff r 60 0 (2 ^ s) (2 ^ s)))) ∧ z' = z ∧ h' = h) := by
  refine Ct.of (lv := [_, _, _, _, _, _, _, _]) (by decide) (Nat.le_of_ble_eq_true rfl) rfl ?_
  rintro X rfl hX hR hnm
  obtain ⟨h0, h1⟩ := id hN
  obtain ⟨o1, o2⟩ := id hO
  refine V_lconst (pc' := 1) (v := lN 1) hX dX2_stepsBetween_0 rfl rfl ?_
  refine V_iload_n (pc' := 2) hX dX2_stepsBetween_1 rfl rfl ?_
  refine V_lshl (pc' := 3) hX dX2_stepsBetween_2 rfl ?_
  refine V.eql (lN_bit (by omega)) ?_
  refine V_lstore_n (pc' := 4) (lv' := [_, _, _, _, _, _, _, _]) hX dX2_stepsBetween_3 (Nat.le_of_ble_eq_true rfl) rfl rfl ?_
  refine V_lload_n (pc' := 5) hX dX2_stepsBetween_4 rfl rfl ?_
  refine V_lstore (pc' := 7) (lv' := [_, _, _, _, _, _, _, _]) hX dX2_stepsBetween_5 (Nat.le_of_ble_eq_true rfl) rfl rfl ?_
  refine V_iconst (pc' := 8) (v := nI 0) hX dX2_stepsBetween_7 (by decide) rfl ?_
  refine V_istore (pc' := 10) (lv' := [_, _, _, _, _, _, _, _]) hX dX2_stepsBetween_8 (Nat.le_of_ble_eq_true rfl) rfl rfl ?_
  have lp : ∀ (μ t seen ed : Nat), t ≤ 60 → seen < 2 ^ 60 → ed < 2 ^ 60 → stpN ff r (60 - t) t seen ed = stpN ff r 60 0 (2 ^ s) (2 ^ s) → 60 - t < μ → V X 0 0 z h 10 [some (.ref a), some (.int (nI r)), some (.int (nI s)), some (.long (lN seen)), none, some (.long (lN ed)), none, some (.int (nI t))] [] := by
    intro μ
    induction μ with
    | zero => intros; omega
    | succ μ ih =>
      intro t seen ed b1 b2 b3 b4 b5
      refine V_iload (pc' := 12) hX dX2_stepsBetween_10 rfl rfl ?_
      refine V_bipush (pc' := 14) (v := nI 60) hX dX2_stepsBetween_12 (by decide) rfl ?_
      refine V_icmp_geN (pt := 63) (pc' := 17) hX dX2_stepsBetween_14 (by omega) (by omega) rfl rfl (fun c14 => ?_) (fun c14 => ?_)
      · refine V_iconst (pc' := 64) (v := (-1)) hX dX2_stepsBetween_63 (by decide) rfl ?_
        refine V_iret hX hR dX2_stepsBetween_64 ?_
        rw [← b4, show 60 - t = 0 by omega]; exact ⟨rfl, rfl, rfl⟩
      · refine V_lload (pc' := 19) hX dX2_stepsBetween_17 rfl rfl ?_
        refine V_lconst (pc' := 20) (v := lN 0) hX dX2_stepsBetween_19 rfl rfl ?_
        refine V_lcmp_eqN (pt := 63) (pc' := 24) hX dX2_stepsBetween_20 rfl dX2_stepsBetween_21 (by omega) (by omega) rfl rfl (fun c20 => ?_) (fun c20 => ?_)
        · refine V_iconst (pc' := 64) (v := (-1)) hX dX2_stepsBetween_63 (by decide) rfl ?_
          refine V_iret hX hR dX2_stepsBetween_64 ?_
          rw [← b4]
          have e : stpN ff r (60 - t) t seen ed = none := by
            cases hk : 60 - t with
            | zero => rfl
            | succ k => exact if_pos c20
          rw [e]; exact ⟨rfl, rfl, rfl⟩
        · refine V_lload (pc' := 26) hX dX2_stepsBetween_24 rfl rfl ?_
          refine V_lconst (pc' := 27) (v := lN 1) hX dX2_stepsBetween_26 rfl rfl ?_
          refine V_iload_n (pc' := 28) hX dX2_stepsBetween_27 rfl rfl ?_
          refine V_lshl (pc' := 29) hX dX2_stepsBetween_28 rfl ?_
          refine V.eql (lN_bit (by omega)) ?_
          refine V_land (pc' := 30) hX dX2_stepsBetween_29 rfl ?_
          refine V.eql (lN_and _ _) ?_
          refine V_lconst (pc' := 31) (v := lN 0) hX dX2_stepsBetween_30 rfl rfl ?_
          refine V_lcmp_eqN (pt := 38) (pc' := 35) hX dX2_stepsBetween_31 rfl dX2_stepsBetween_32 (by have := and_bit_le ed r; have := pow_lt60 hr; omega) (by omega) rfl rfl (fun c31 => ?_) (fun c31 => ?_)
          · have hb : ¬ ed.testBit r = true := by rw [(and_bit ed r).mp c31]; decide
            refine V_aload_n (pc' := 39) hX dX2_stepsBetween_38 rfl rfl ?_
            refine V_lload (pc' := 41) hX dX2_stepsBetween_39 rfl rfl ?_
            refine V_callV (nA := 1) (pc' := 44) (k' := 0) (n' := 0) hX dX2_stepsBetween_41 (c_Nt_friendsOf ed b3 hN hO) h0 rfl wM_X2_27 wI_X2_friendsOf wL_X2_friendsOf wN_X2 wC_X2_friendsOf rfl hy_X2_friendsOf rfl (Nat.le_of_ble_eq_true rfl) (by decide) (by omega) rfl rfl (by omega) rfl (by omega) rfl ?_
            rintro _ z h ⟨rfl, rfl, rfl⟩
            refine V.stk (st' := [_]) rfl ?_
            refine V_lload_n (pc' := 45) hX dX2_stepsBetween_44 rfl rfl ?_
            refine V_ldc2N (pc' := 48) (v' := (-1)) hX dX2_stepsBetween_45 wK_X2_19 (by decide) rfl ?_
            refine V_lxor (pc' := 49) hX dX2_stepsBetween_48 rfl ?_
            refine V_land (pc' := 50) hX dX2_stepsBetween_49 rfl ?_
            refine V.eql (lN_nD _ _) ?_
            refine V_lstore (pc' := 52) (lv' := [_, _, _, _, _, _, _, _]) hX dX2_stepsBetween_50 (Nat.le_of_ble_eq_true rfl) rfl rfl ?_
            refine V_lload_n (pc' := 53) hX dX2_stepsBetween_52 rfl rfl ?_
            refine V_lload (pc' := 55) hX dX2_stepsBetween_53 rfl rfl ?_
            refine V_lor (pc' := 56) hX dX2_stepsBetween_55 rfl ?_
            refine V.eql (lN_or _ _) ?_
            refine V_lstore_n (pc' := 57) (lv' := [_, _, _, _, _, _, _, _]) hX dX2_stepsBetween_56 (Nat.le_of_ble_eq_true rfl) rfl rfl ?_
            refine V_iincN (pc' := 60) (j := 1) (lv' := [_, _, _, _, _, _, _, _]) hX dX2_stepsBetween_57 rfl rfl rfl rfl ?_
            refine V_goto (pc' := 10) hX dX2_stepsBetween_60 rfl ?_
            refine V.loc2 (lv' := [some _, some _, some _, some _, none, some _, none, some _]) ⟨rfl, rfl, rfl, rfl, rfl, rfl, trivial⟩ ?_
            exact ih (t + 1) _ _ (by omega) (Nat.or_lt_two_pow b2 (nD_lt (foN_bd o1))) (nD_lt (foN_bd o1)) (by
              rw [← b4, show 60 - t = (60 - (t + 1)) + 1 by omega]
              show _ = if ed = 0 then _ else if ed.testBit r = true then _ else _
              rw [if_neg c20, if_neg hb]) (by omega)
          · have hb : ed.testBit r = true := by
              cases hx : ed.testBit r with
              | true => rfl
              | false => exact absurd ((and_bit ed r).mpr hx) c31
            refine V_iload (pc' := 37) hX dX2_stepsBetween_35 rfl rfl ?_
            refine V_iret hX hR dX2_stepsBetween_37 ?_
            rw [← b4, show 60 - t = (60 - (t + 1)) + 1 by omega]
            have e : stpN ff r ((60 - (t + 1)) + 1) t seen ed = some t := by
              show (if ed = 0 then _ else if ed.testBit r = true then _ else _) = _
              rw [if_neg c20, if_pos hb]
            rw [e]; exact ⟨rfl, rfl, rfl⟩
  refine V.loc2 (lv' := [some _, some _, some _, some _, none, some _, none, some _]) ⟨rfl, rfl, rfl, rfl, rfl, rfl, trivial⟩ ?_
  exact lp 61 0 _ _ (by omega) (pow_lt60 hs) (pow_lt60 hs) rfl (by omega)
set_option maxRecDepth 100000 in
set_option maxHeartbeats 4000000 in
theorem c_Nt_firstStep {G : Gd} {z : Nat} {h : AH} {a fg : Nat} {ff : Nat → Nat} (r s t : Nat) (hr : r < 60) (hs : s < 60) (ht1 : 1 ≤ t) (ht : t ≤ 60) (hN : ntAt G h a ff fg) (hO : ntOk ff fg) : Ct G yX2_firstStep cX2_firstStep 7 (some .int) 2 0 0 [.ref a, .int (nI r), .int (nI s), .int (nI t)] z h (fun r' z' h' => ∃ x, r' = some (.int x) ∧ z' = z ∧ h' = h ∧ leastP (itN ff (t - 1) (2 ^ s) &&& ff r) x) := by
  refine Ct.of (lv := [_, _, _, _, _, _, _]) (by decide) (Nat.le_of_ble_eq_true rfl) rfl ?_
  rintro X rfl hX hR hnm
  obtain ⟨h0, h1⟩ := id hN
  obtain ⟨o1, o2⟩ := id hO
  refine V_lconst (pc' := 1) (v := lN 1) hX dX2_firstStep_0 rfl rfl ?_
  refine V_iload_n (pc' := 2) hX dX2_firstStep_1 rfl rfl ?_
  refine V_lshl (pc' := 3) hX dX2_firstStep_2 rfl ?_
  refine V.eql (lN_bit (by omega)) ?_
  refine V_lstore (pc' := 5) (lv' := [_, _, _, _, _, _, _]) hX dX2_firstStep_3 (Nat.le_of_ble_eq_true rfl) rfl rfl ?_
  refine V_iconst (pc' := 6) (v := nI 1) hX dX2_firstStep_5 (by decide) rfl ?_
  refine V_istore (pc' := 8) (lv' := [_, _, _, _, _, _, _]) hX dX2_firstStep_6 (Nat.le_of_ble_eq_true rfl) rfl rfl ?_
  have lp : ∀ (μ i : Nat), 1 ≤ i → i ≤ t → t - i < μ → V X 0 0 z h 8 [some (.ref a), some (.int (nI r)), some (.int (nI s)), some (.int (nI t)), some (.long (lN (itN ff (i - 1) (2 ^ s)))), none, some (.int (nI i))] [] := by
    intro μ
    induction μ with
    | zero => intros; omega
    | succ μ ih =>
      intro i b1 b2 b3
      refine V_iload (pc' := 10) hX dX2_firstStep_8 rfl rfl ?_
      refine V_iload_n (pc' := 11) hX dX2_firstStep_10 rfl rfl ?_
      refine V_icmp_geN (pt := 28) (pc' := 14) hX dX2_firstStep_11 (by omega) (by omega) rfl rfl (fun c11 => ?_) (fun c11 => ?_)
      · refine V_lload (pc' := 30) hX dX2_firstStep_28 rfl rfl ?_
        refine V_aload_n (pc' := 31) hX dX2_firstStep_30 rfl rfl ?_
        refine V_get (pc' := 34) hX dX2_firstStep_31 h0 rfl inX2 0 (by decide) wF_X2_9 rfl rfl ?_
        refine V_iload_n (pc' := 35) hX dX2_firstStep_34 rfl rfl ?_
        refine V_laldN (pc' := 36) hX dX2_firstStep_35 h1 (by omega) (by omega) rfl rfl ?_
        refine V_land (pc' := 37) hX dX2_firstStep_36 rfl ?_
        refine V.eql (lN_and _ _) ?_
        refine V_callS (nA := 1) (pc' := 40) (k' := 0) (n' := 0) hX dX2_firstStep_37 (c_Nt_leastOf _ (Nat.lt_of_le_of_lt Nat.and_le_left (itN_bd o1 (pow_lt60 hs) _))) wM_X2_31 wS_X2_leastOf wN_X2 wC_X2_leastOf rfl hy_X2_leastOf rfl (Nat.le_of_ble_eq_true rfl) (by decide) (by omega) rfl rfl (by omega) rfl (by omega) rfl ?_
        rintro _ z h ⟨x, rfl, rfl, rfl, hx⟩
        refine V.stk (st' := [_]) rfl ?_
        refine V_iret hX hR dX2_firstStep_40 ?_
        have e : i = t := by omega
        subst e
        exact ⟨x, rfl, rfl, rfl, hx⟩
      · refine V_aload_n (pc' := 15) hX dX2_firstStep_14 rfl rfl ?_
        refine V_lload (pc' := 17) hX dX2_firstStep_15 rfl rfl ?_
        refine V_callV (nA := 1) (pc' := 20) (k' := 0) (n' := 0) hX dX2_firstStep_17 (c_Nt_friendsOf _ (itN_bd o1 (pow_lt60 hs) _) hN hO) h0 rfl wM_X2_27 wI_X2_friendsOf wL_X2_friendsOf wN_X2 wC_X2_friendsOf rfl hy_X2_friendsOf rfl (Nat.le_of_ble_eq_true rfl) (by decide) (by omega) rfl rfl (by omega) rfl (by omega) rfl ?_
        rintro _ z h ⟨rfl, rfl, rfl⟩
        refine V.stk (st' := [_]) rfl ?_
        refine V_lstore (pc' := 22) (lv' := [_, _, _, _, _, _, _]) hX dX2_firstStep_20 (Nat.le_of_ble_eq_true rfl) rfl rfl ?_
        refine V_iincN (pc' := 25) (j := 1) (lv' := [_, _, _, _, _, _, _]) hX dX2_firstStep_22 rfl rfl rfl rfl ?_
        refine V_goto (pc' := 8) hX dX2_firstStep_25 rfl ?_
        refine V.loc2 (lv' := [some _, some _, some _, some _, some _, none, some _]) ⟨rfl, rfl, rfl, rfl, rfl, rfl, trivial⟩ ?_
        have e : fo ff (itN ff (i - 1) (2 ^ s)) = itN ff (i + 1 - 1) (2 ^ s) := by
          obtain ⟨k, rfl⟩ : ∃ k, i = k + 1 := ⟨i - 1, by omega⟩
          rfl
        rw [e]; exact ih (i + 1) (by omega) (by omega) (by omega)
  refine V.loc2 (lv' := [some _, some _, some _, some _, some _, none, some _]) ⟨rfl, rfl, rfl, rfl, rfl, rfl, trivial⟩ ?_
  exact lp 61 1 (by omega) (by omega) (by omega)
