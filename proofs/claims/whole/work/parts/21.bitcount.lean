set_option maxRecDepth 100000 in
set_option maxHeartbeats 4000000 in
theorem c_bitCount {G : Gd} {z : Nat} {h : AH} (n : Nat) (hn : n < 2 ^ 64) : Ct G yJ13_bitCount_95d88 cJ13_bitCount_95d88 2 (some .int) 0 0 0 [.long (lN n)] z h (fun r z' h' => r = some (.int (nI (popN n 64))) ∧ z' = z ∧ h' = h) := by
  refine Ct.of (lv := [_, _]) (by decide) (Nat.le_of_ble_eq_true rfl) rfl ?_
  rintro X rfl hX hR hnm
  obtain ⟨x1, x2, x3, e1, b1, b1p, e2, b2, e3, b3, e4⟩ := swar64 hn
  refine V_lload_n (pc' := 1) hX dJ13_bitCount_95d88_0 rfl rfl ?_
  refine V_lload_n (pc' := 2) hX dJ13_bitCount_95d88_1 rfl rfl ?_
  refine V_iconst (pc' := 3) (v := nI 1) hX dJ13_bitCount_95d88_2 (by decide) rfl ?_
  refine V_lushr (pc' := 4) hX dJ13_bitCount_95d88_3 rfl ?_
  refine V.eql (wb_shr (hn) (by omega)) ?_
  refine V_ldc2N (pc' := 7) (v' := lN 6148914691236517205) hX dJ13_bitCount_95d88_4 wK_J13_314 (by decide) rfl ?_
  refine V_land (pc' := 8) hX dJ13_bitCount_95d88_7 rfl ?_
  refine V.eql (lN_and _ _) ?_
  refine V_lsubN (pc' := 9) hX dJ13_bitCount_95d88_8 b1p rfl ?_
  rw [← e1]
  refine V_lstore_n (pc' := 10) (lv' := [_, _]) hX dJ13_bitCount_95d88_9 (Nat.le_of_ble_eq_true rfl) rfl rfl ?_
  refine V_lload_n (pc' := 11) hX dJ13_bitCount_95d88_10 rfl rfl ?_
  refine V_ldc2N (pc' := 14) (v' := lN 3689348814741910323) hX dJ13_bitCount_95d88_11 wK_J13_316 (by decide) rfl ?_
  refine V_land (pc' := 15) hX dJ13_bitCount_95d88_14 rfl ?_
  refine V.eql (lN_and _ _) ?_
  refine V_lload_n (pc' := 16) hX dJ13_bitCount_95d88_15 rfl rfl ?_
  refine V_iconst (pc' := 17) (v := nI 2) hX dJ13_bitCount_95d88_16 (by decide) rfl ?_
  refine V_lushr (pc' := 18) hX dJ13_bitCount_95d88_17 rfl ?_
  refine V.eql (wb_shr (b1) (by omega)) ?_
  refine V_ldc2N (pc' := 21) (v' := lN 3689348814741910323) hX dJ13_bitCount_95d88_18 wK_J13_316 (by decide) rfl ?_
  refine V_land (pc' := 22) hX dJ13_bitCount_95d88_21 rfl ?_
  refine V.eql (lN_and _ _) ?_
  refine V_laddN (pc' := 23) hX dJ13_bitCount_95d88_22 rfl ?_
  rw [← e2]
  refine V_lstore_n (pc' := 24) (lv' := [_, _]) hX dJ13_bitCount_95d88_23 (Nat.le_of_ble_eq_true rfl) rfl rfl ?_
  refine V_lload_n (pc' := 25) hX dJ13_bitCount_95d88_24 rfl rfl ?_
  refine V_lload_n (pc' := 26) hX dJ13_bitCount_95d88_25 rfl rfl ?_
  refine V_iconst (pc' := 27) (v := nI 4) hX dJ13_bitCount_95d88_26 (by decide) rfl ?_
  refine V_lushr (pc' := 28) hX dJ13_bitCount_95d88_27 rfl ?_
  refine V.eql (wb_shr (b2) (by omega)) ?_
  refine V_laddN (pc' := 29) hX dJ13_bitCount_95d88_28 rfl ?_
  refine V_ldc2N (pc' := 32) (v' := lN 1085102592571150095) hX dJ13_bitCount_95d88_29 wK_J13_318 (by decide) rfl ?_
  refine V_land (pc' := 33) hX dJ13_bitCount_95d88_32 rfl ?_
  refine V.eql (lN_and _ _) ?_
  rw [← e3]
  refine V_lstore_n (pc' := 34) (lv' := [_, _]) hX dJ13_bitCount_95d88_33 (Nat.le_of_ble_eq_true rfl) rfl rfl ?_
  refine V_lload_n (pc' := 35) hX dJ13_bitCount_95d88_34 rfl rfl ?_
  refine V_lload_n (pc' := 36) hX dJ13_bitCount_95d88_35 rfl rfl ?_
  refine V_bipush (pc' := 38) (v := nI 8) hX dJ13_bitCount_95d88_36 (by decide) rfl ?_
  refine V_lushr (pc' := 39) hX dJ13_bitCount_95d88_38 rfl ?_
  refine V.eql (wb_shr (by omega) (by omega)) ?_
  refine V_laddN (pc' := 40) hX dJ13_bitCount_95d88_39 rfl ?_
  obtain ⟨x4, e5⟩ : ∃ x4, x4 = x3 + x3 / 2 ^ 8 := ⟨_, rfl⟩
  rw [← e5] at e4 ⊢
  refine V_lstore_n (pc' := 41) (lv' := [_, _]) hX dJ13_bitCount_95d88_40 (Nat.le_of_ble_eq_true rfl) rfl rfl ?_
  refine V_lload_n (pc' := 42) hX dJ13_bitCount_95d88_41 rfl rfl ?_
  refine V_lload_n (pc' := 43) hX dJ13_bitCount_95d88_42 rfl rfl ?_
  refine V_bipush (pc' := 45) (v := nI 16) hX dJ13_bitCount_95d88_43 (by decide) rfl ?_
  refine V_lushr (pc' := 46) hX dJ13_bitCount_95d88_45 rfl ?_
  refine V.eql (wb_shr (by omega) (by omega)) ?_
  refine V_laddN (pc' := 47) hX dJ13_bitCount_95d88_46 rfl ?_
  obtain ⟨x5, e6⟩ : ∃ x5, x5 = x4 + x4 / 2 ^ 16 := ⟨_, rfl⟩
  rw [← e6] at e4 ⊢
  refine V_lstore_n (pc' := 48) (lv' := [_, _]) hX dJ13_bitCount_95d88_47 (Nat.le_of_ble_eq_true rfl) rfl rfl ?_
  refine V_lload_n (pc' := 49) hX dJ13_bitCount_95d88_48 rfl rfl ?_
  refine V_lload_n (pc' := 50) hX dJ13_bitCount_95d88_49 rfl rfl ?_
  refine V_bipush (pc' := 52) (v := nI 32) hX dJ13_bitCount_95d88_50 (by decide) rfl ?_
  refine V_lushr (pc' := 53) hX dJ13_bitCount_95d88_52 rfl ?_
  refine V.eql (wb_shr (by omega) (by omega)) ?_
  refine V_laddN (pc' := 54) hX dJ13_bitCount_95d88_53 rfl ?_
  refine V_lstore_n (pc' := 55) (lv' := [_, _]) hX dJ13_bitCount_95d88_54 (Nat.le_of_ble_eq_true rfl) rfl rfl ?_
  refine V_lload_n (pc' := 56) hX dJ13_bitCount_95d88_55 rfl rfl ?_
  refine V_l2i (pc' := 57) hX dJ13_bitCount_95d88_56 rfl ?_
  refine V.eqi (lN_i _) ?_
  refine V_bipush (pc' := 59) (v := nI 127) hX dJ13_bitCount_95d88_57 (by decide) rfl ?_
  refine V_iand (pc' := 60) hX dJ13_bitCount_95d88_59 rfl ?_
  refine V.eqi (y := nI (popN n 64)) ?_ ?_
  · rw [nI_and, show (127 : Nat) = 2 ^ 7 - 1 by decide, Nat.and_two_pow_sub_one_eq_mod, ← e4]
  refine V_iret hX hR dJ13_bitCount_95d88_60 ?_
  exact ⟨rfl, rfl, rfl⟩
set_option maxRecDepth 100000 in
set_option maxHeartbeats 4000000 in
theorem c_bitCountI {G : Gd} {z : Nat} {h : AH} (n : Nat) (hn : n < 2 ^ 32) : Ct G yJ6_bitCount_0f7a4 cJ6_bitCount_0f7a4 1 (some .int) 0 0 0 [.int (nI n)] z h (fun r z' h' => r = some (.int (nI (popN n 32))) ∧ z' = z ∧ h' = h) := by
  refine Ct.of (lv := [_]) (by decide) (Nat.le_of_ble_eq_true rfl) rfl ?_
  rintro X rfl hX hR hnm
  obtain ⟨x1, x2, x3, e1, b1, b1p, e2, b2, e3, b3, e4⟩ := swar32 hn
  refine V_iload_n (pc' := 1) hX dJ6_bitCount_0f7a4_0 rfl rfl ?_
  refine V_iload_n (pc' := 2) hX dJ6_bitCount_0f7a4_1 rfl rfl ?_
  refine V_iconst (pc' := 3) (v := nI 1) hX dJ6_bitCount_0f7a4_2 (by decide) rfl ?_
  refine V_iushr (pc' := 4) hX dJ6_bitCount_0f7a4_3 rfl ?_
  refine V.eqi (pk_ushrN (hn) (nI 1) 1 (by decide)) ?_
  refine V_ldcwN (pc' := 7) (v' := nI 1431655765) hX dJ6_bitCount_0f7a4_4 wK_J6_265 (by decide) rfl ?_
  refine V_iand (pc' := 8) hX dJ6_bitCount_0f7a4_7 rfl ?_
  refine V.eqi (nI_and _ _) ?_
  refine V_isubN (pc' := 9) hX dJ6_bitCount_0f7a4_8 b1p rfl ?_
  rw [← e1]
  refine V_istore_n (pc' := 10) (lv' := [_]) hX dJ6_bitCount_0f7a4_9 (Nat.le_of_ble_eq_true rfl) rfl rfl ?_
  refine V_iload_n (pc' := 11) hX dJ6_bitCount_0f7a4_10 rfl rfl ?_
  refine V_ldcwN (pc' := 14) (v' := nI 858993459) hX dJ6_bitCount_0f7a4_11 wK_J6_266 (by decide) rfl ?_
  refine V_iand (pc' := 15) hX dJ6_bitCount_0f7a4_14 rfl ?_
  refine V.eqi (nI_and _ _) ?_
  refine V_iload_n (pc' := 16) hX dJ6_bitCount_0f7a4_15 rfl rfl ?_
  refine V_iconst (pc' := 17) (v := nI 2) hX dJ6_bitCount_0f7a4_16 (by decide) rfl ?_
  refine V_iushr (pc' := 18) hX dJ6_bitCount_0f7a4_17 rfl ?_
  refine V.eqi (pk_ushrN (b1) (nI 2) 2 (by decide)) ?_
  refine V_ldcwN (pc' := 21) (v' := nI 858993459) hX dJ6_bitCount_0f7a4_18 wK_J6_266 (by decide) rfl ?_
  refine V_iand (pc' := 22) hX dJ6_bitCount_0f7a4_21 rfl ?_
  refine V.eqi (nI_and _ _) ?_
  refine V_iaddN (pc' := 23) hX dJ6_bitCount_0f7a4_22 rfl ?_
  rw [← e2]
  refine V_istore_n (pc' := 24) (lv' := [_]) hX dJ6_bitCount_0f7a4_23 (Nat.le_of_ble_eq_true rfl) rfl rfl ?_
  refine V_iload_n (pc' := 25) hX dJ6_bitCount_0f7a4_24 rfl rfl ?_
  refine V_iload_n (pc' := 26) hX dJ6_bitCount_0f7a4_25 rfl rfl ?_
  refine V_iconst (pc' := 27) (v := nI 4) hX dJ6_bitCount_0f7a4_26 (by decide) rfl ?_
  refine V_iushr (pc' := 28) hX dJ6_bitCount_0f7a4_27 rfl ?_
  refine V.eqi (pk_ushrN (b2) (nI 4) 4 (by decide)) ?_
  refine V_iaddN (pc' := 29) hX dJ6_bitCount_0f7a4_28 rfl ?_
  refine V_ldcwN (pc' := 32) (v' := nI 252645135) hX dJ6_bitCount_0f7a4_29 wK_J6_267 (by decide) rfl ?_
  refine V_iand (pc' := 33) hX dJ6_bitCount_0f7a4_32 rfl ?_
  refine V.eqi (nI_and _ _) ?_
  rw [← e3]
  refine V_istore_n (pc' := 34) (lv' := [_]) hX dJ6_bitCount_0f7a4_33 (Nat.le_of_ble_eq_true rfl) rfl rfl ?_
  refine V_iload_n (pc' := 35) hX dJ6_bitCount_0f7a4_34 rfl rfl ?_
  refine V_iload_n (pc' := 36) hX dJ6_bitCount_0f7a4_35 rfl rfl ?_
  refine V_bipush (pc' := 38) (v := nI 8) hX dJ6_bitCount_0f7a4_36 (by decide) rfl ?_
  refine V_iushr (pc' := 39) hX dJ6_bitCount_0f7a4_38 rfl ?_
  refine V.eqi (pk_ushrN (by omega) (nI 8) 8 (by decide)) ?_
  refine V_iaddN (pc' := 40) hX dJ6_bitCount_0f7a4_39 rfl ?_
  obtain ⟨x4, e5⟩ : ∃ x4, x4 = x3 + x3 / 2 ^ 8 := ⟨_, rfl⟩
  rw [← e5] at e4 ⊢
  refine V_istore_n (pc' := 41) (lv' := [_]) hX dJ6_bitCount_0f7a4_40 (Nat.le_of_ble_eq_true rfl) rfl rfl ?_
  refine V_iload_n (pc' := 42) hX dJ6_bitCount_0f7a4_41 rfl rfl ?_
  refine V_iload_n (pc' := 43) hX dJ6_bitCount_0f7a4_42 rfl rfl ?_
  refine V_bipush (pc' := 45) (v := nI 16) hX dJ6_bitCount_0f7a4_43 (by decide) rfl ?_
  refine V_iushr (pc' := 46) hX dJ6_bitCount_0f7a4_45 rfl ?_
  refine V.eqi (pk_ushrN (by omega) (nI 16) 16 (by decide)) ?_
  refine V_iaddN (pc' := 47) hX dJ6_bitCount_0f7a4_46 rfl ?_
  refine V_istore_n (pc' := 48) (lv' := [_]) hX dJ6_bitCount_0f7a4_47 (Nat.le_of_ble_eq_true rfl) rfl rfl ?_
  refine V_iload_n (pc' := 49) hX dJ6_bitCount_0f7a4_48 rfl rfl ?_
  refine V_bipush (pc' := 51) (v := nI 63) hX dJ6_bitCount_0f7a4_49 (by decide) rfl ?_
  refine V_iand (pc' := 52) hX dJ6_bitCount_0f7a4_51 rfl ?_
  refine V.eqi (y := nI (popN n 32)) ?_ ?_
  · rw [nI_and, show (63 : Nat) = 2 ^ 6 - 1 by decide, Nat.and_two_pow_sub_one_eq_mod, ← e4]
  refine V_iret hX hR dJ6_bitCount_0f7a4_52 ?_
  exact ⟨rfl, rfl, rfl⟩
