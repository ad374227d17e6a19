set_option maxRecDepth 100000 in
set_option maxHeartbeats 4000000 in
theorem c_Md_init {G : Gd} {h : AH} {z y : Nat} (ha : h y = some (oO 8 [.int 0, .int 0, .null, .null, .null, .int 0, .null, .null, .int 0, .null, .null, .int 0, .int 0, .int 0, .null, .null, .null, .int 0, .int 0, .null, .null, .null, .null, .null, .int 0, .int 0, .null, .null, .null, .int 0])) (hz : z = y + 1) : Ct G yX8_init cX8_init 1 none 1 18 11586 [.ref y] z h (fun r' z' h' => r' = none ∧ z' = y + 19 ∧ fr y (y + 19) h h' ∧ mdC G h' y (0) (0) (0) (0) (1) (1) (2) (0) (0) (0) (0) (0) (fun _ => false) (fun _ => 0) (fun _ => 0) (fun _ => 0) (fun _ => 0) (fun _ => 0) (fun _ => 0) (fun _ => 0) (fun _ => 0) (fun _ => 0) (fun _ => 0) (fun _ => 0) (fun _ => 0) (fun _ => 0) (fun _ => nI 0) (fun _ => 0) (fun _ => 0) (fun _ => 0)) := by
  refine Ct.of (lv := [_]) (by decide) (Nat.le_of_ble_eq_true rfl) rfl ?_
  rintro X rfl hX hR hnm
  subst hz
  refine V_aload_n (pc' := 1) hX dX8_init_0 rfl rfl ?_
  refine V_objInit (pc' := 4) hX dX8_init_1 wM_X8_1 wI_objInit wC_objInit (by omega) rfl rfl rfl ?_
  have hy := ha
  have ft : fr y (y + 19) h h := fr.rf
  refine V_aload_n (pc' := 5) hX dX8_init_4 rfl rfl ?_
  refine V_bipush (pc' := 7) (v := nI 60) hX dX8_init_5 (by decide) rfl ?_
  refine V_newZN (pc' := 9) hX dX8_init_7 (by omega) (by omega) (by omega) rfl ?_
  refine V.eqz (z' := y + 2) (by omega) ?_
  refine V.gen (fun h9 eh9 => ?_)
  have fm := fr.of_up eh9
  have a1 := up_at eh9
  
  have hy := (fm _ (by omega)).trans hy
  have ft := ft.tr (fm.mono (lo' := y) (hi' := y + 19) (by omega) (by omega))
  clear eh9
  refine V_putF (pc' := 12) (fs' := [_, _, _, _, _, _, _, _, _, _, _, _, _, _, _, _, _, _, _, _, _, _, _, _, _, _, _, _, _, _]) (ty0 := tyX8) hX dX8_init_9 (hnm.trans rfl) hy rfl inX8 tyX8_ok nmX8 2 (by decide) wF_X8_9 rfl rfl (tyX8_ok 2 (by decide)) rfl rfl (Nat.le_of_ble_eq_true rfl) rfl rfl ?_
  refine V.gen (fun hN ehN => ?_)
  have fp := fr.of_up ehN
  have hy := up_at ehN
  have ft := ft.tr (fp.mono (lo' := y) (hi' := y + 19) (by omega) (by omega))
  have a1 := (fp _ (by omega)).trans a1
  clear ehN
  refine V_aload_n (pc' := 13) hX dX8_init_12 rfl rfl ?_
  refine V_bipush (pc' := 15) (v := nI 60) hX dX8_init_13 (by decide) rfl ?_
  refine V_newIN (pc' := 17) hX dX8_init_15 (by omega) (by omega) (by omega) rfl ?_
  refine V.eqz (z' := y + 3) (by omega) ?_
  refine V.gen (fun h9 eh9 => ?_)
  have fm := fr.of_up eh9
  have a2 := up_at eh9
  have a1 := (fm _ (by omega)).trans a1
  have hy := (fm _ (by omega)).trans hy
  have ft := ft.tr (fm.mono (lo' := y) (hi' := y + 19) (by omega) (by omega))
  clear eh9
  refine V_putF (pc' := 20) (fs' := [_, _, _, _, _, _, _, _, _, _, _, _, _, _, _, _, _, _, _, _, _, _, _, _, _, _, _, _, _, _]) (ty0 := tyX8) hX dX8_init_17 (hnm.trans rfl) hy rfl inX8 tyX8_ok nmX8 3 (by decide) wF_X8_13 rfl rfl (tyX8_ok 3 (by decide)) rfl rfl (Nat.le_of_ble_eq_true rfl) rfl rfl ?_
  refine V.gen (fun hN ehN => ?_)
  have fp := fr.of_up ehN
  have hy := up_at ehN
  have ft := ft.tr (fp.mono (lo' := y) (hi' := y + 19) (by omega) (by omega))
  have a1 := (fp _ (by omega)).trans a1
  have a2 := (fp _ (by omega)).trans a2
  clear ehN
  refine V_aload_n (pc' := 21) hX dX8_init_20 rfl rfl ?_
  refine V_sipush (pc' := 24) (v := nI 1800) hX dX8_init_21 (by decide) rfl ?_
  refine V_newIN (pc' := 26) hX dX8_init_24 (by omega) (by omega) (by omega) rfl ?_
  refine V.eqz (z' := y + 4) (by omega) ?_
  refine V.gen (fun h9 eh9 => ?_)
  have fm := fr.of_up eh9
  have a3 := up_at eh9
  have a1 := (fm _ (by omega)).trans a1
  have a2 := (fm _ (by omega)).trans a2
  have hy := (fm _ (by omega)).trans hy
  have ft := ft.tr (fm.mono (lo' := y) (hi' := y + 19) (by omega) (by omega))
  clear eh9
  refine V_putF (pc' := 29) (fs' := [_, _, _, _, _, _, _, _, _, _, _, _, _, _, _, _, _, _, _, _, _, _, _, _, _, _, _, _, _, _]) (ty0 := tyX8) hX dX8_init_26 (hnm.trans rfl) hy rfl inX8 tyX8_ok nmX8 4 (by decide) wF_X8_17 rfl rfl (tyX8_ok 4 (by decide)) rfl rfl (Nat.le_of_ble_eq_true rfl) rfl rfl ?_
  refine V.gen (fun hN ehN => ?_)
  have fp := fr.of_up ehN
  have hy := up_at ehN
  have ft := ft.tr (fp.mono (lo' := y) (hi' := y + 19) (by omega) (by omega))
  have a1 := (fp _ (by omega)).trans a1
  have a2 := (fp _ (by omega)).trans a2
  have a3 := (fp _ (by omega)).trans a3
  clear ehN
  refine V_aload_n (pc' := 30) hX dX8_init_29 rfl rfl ?_
  refine V_sipush (pc' := 33) (v := nI 200) hX dX8_init_30 (by decide) rfl ?_
  refine V_newIN (pc' := 35) hX dX8_init_33 (by omega) (by omega) (by omega) rfl ?_
  refine V.eqz (z' := y + 5) (by omega) ?_
  refine V.gen (fun h9 eh9 => ?_)
  have fm := fr.of_up eh9
  have a4 := up_at eh9
  have a1 := (fm _ (by omega)).trans a1
  have a2 := (fm _ (by omega)).trans a2
  have a3 := (fm _ (by omega)).trans a3
  have hy := (fm _ (by omega)).trans hy
  have ft := ft.tr (fm.mono (lo' := y) (hi' := y + 19) (by omega) (by omega))
  clear eh9
  refine V_putF (pc' := 38) (fs' := [_, _, _, _, _, _, _, _, _, _, _, _, _, _, _, _, _, _, _, _, _, _, _, _, _, _, _, _, _, _]) (ty0 := tyX8) hX dX8_init_35 (hnm.trans rfl) hy rfl inX8 tyX8_ok nmX8 6 (by decide) wF_X8_20 rfl rfl (tyX8_ok 6 (by decide)) rfl rfl (Nat.le_of_ble_eq_true rfl) rfl rfl ?_
  refine V.gen (fun hN ehN => ?_)
  have fp := fr.of_up ehN
  have hy := up_at ehN
  have ft := ft.tr (fp.mono (lo' := y) (hi' := y + 19) (by omega) (by omega))
  have a1 := (fp _ (by omega)).trans a1
  have a2 := (fp _ (by omega)).trans a2
  have a3 := (fp _ (by omega)).trans a3
  have a4 := (fp _ (by omega)).trans a4
  clear ehN
  refine V_aload_n (pc' := 39) hX dX8_init_38 rfl rfl ?_
  refine V_sipush (pc' := 42) (v := nI 200) hX dX8_init_39 (by decide) rfl ?_
  refine V_newIN (pc' := 44) hX dX8_init_42 (by omega) (by omega) (by omega) rfl ?_
  refine V.eqz (z' := y + 6) (by omega) ?_
  refine V.gen (fun h9 eh9 => ?_)
  have fm := fr.of_up eh9
  have a5 := up_at eh9
  have a1 := (fm _ (by omega)).trans a1
  have a2 := (fm _ (by omega)).trans a2
  have a3 := (fm _ (by omega)).trans a3
  have a4 := (fm _ (by omega)).trans a4
  have hy := (fm _ (by omega)).trans hy
  have ft := ft.tr (fm.mono (lo' := y) (hi' := y + 19) (by omega) (by omega))
  clear eh9
  refine V_putF (pc' := 47) (fs' := [_, _, _, _, _, _, _, _, _, _, _, _, _, _, _, _, _, _, _, _, _, _, _, _, _, _, _, _, _, _]) (ty0 := tyX8) hX dX8_init_44 (hnm.trans rfl) hy rfl inX8 tyX8_ok nmX8 7 (by decide) wF_X8_23 rfl rfl (tyX8_ok 7 (by decide)) rfl rfl (Nat.le_of_ble_eq_true rfl) rfl rfl ?_
  refine V.gen (fun hN ehN => ?_)
  have fp := fr.of_up ehN
  have hy := up_at ehN
  have ft := ft.tr (fp.mono (lo' := y) (hi' := y + 19) (by omega) (by omega))
  have a1 := (fp _ (by omega)).trans a1
  have a2 := (fp _ (by omega)).trans a2
  have a3 := (fp _ (by omega)).trans a3
  have a4 := (fp _ (by omega)).trans a4
  have a5 := (fp _ (by omega)).trans a5
  clear ehN
  refine V_aload_n (pc' := 48) hX dX8_init_47 rfl rfl ?_
  refine V_sipush (pc' := 51) (v := nI 1800) hX dX8_init_48 (by decide) rfl ?_
  refine V_newIN (pc' := 53) hX dX8_init_51 (by omega) (by omega) (by omega) rfl ?_
  refine V.eqz (z' := y + 7) (by omega) ?_
  refine V.gen (fun h9 eh9 => ?_)
  have fm := fr.of_up eh9
  have a6 := up_at eh9
  have a1 := (fm _ (by omega)).trans a1
  have a2 := (fm _ (by omega)).trans a2
  have a3 := (fm _ (by omega)).trans a3
  have a4 := (fm _ (by omega)).trans a4
  have a5 := (fm _ (by omega)).trans a5
  have hy := (fm _ (by omega)).trans hy
  have ft := ft.tr (fm.mono (lo' := y) (hi' := y + 19) (by omega) (by omega))
  clear eh9
  refine V_putF (pc' := 56) (fs' := [_, _, _, _, _, _, _, _, _, _, _, _, _, _, _, _, _, _, _, _, _, _, _, _, _, _, _, _, _, _]) (ty0 := tyX8) hX dX8_init_53 (hnm.trans rfl) hy rfl inX8 tyX8_ok nmX8 9 (by decide) wF_X8_26 rfl rfl (tyX8_ok 9 (by decide)) rfl rfl (Nat.le_of_ble_eq_true rfl) rfl rfl ?_
  refine V.gen (fun hN ehN => ?_)
  have fp := fr.of_up ehN
  have hy := up_at ehN
  have ft := ft.tr (fp.mono (lo' := y) (hi' := y + 19) (by omega) (by omega))
  have a1 := (fp _ (by omega)).trans a1
  have a2 := (fp _ (by omega)).trans a2
  have a3 := (fp _ (by omega)).trans a3
  have a4 := (fp _ (by omega)).trans a4
  have a5 := (fp _ (by omega)).trans a5
  have a6 := (fp _ (by omega)).trans a6
  clear ehN
  refine V_aload_n (pc' := 57) hX dX8_init_56 rfl rfl ?_
  refine V_sipush (pc' := 60) (v := nI 1800) hX dX8_init_57 (by decide) rfl ?_
  refine V_newIN (pc' := 62) hX dX8_init_60 (by omega) (by omega) (by omega) rfl ?_
  refine V.eqz (z' := y + 8) (by omega) ?_
  refine V.gen (fun h9 eh9 => ?_)
  have fm := fr.of_up eh9
  have a7 := up_at eh9
  have a1 := (fm _ (by omega)).trans a1
  have a2 := (fm _ (by omega)).trans a2
  have a3 := (fm _ (by omega)).trans a3
  have a4 := (fm _ (by omega)).trans a4
  have a5 := (fm _ (by omega)).trans a5
  have a6 := (fm _ (by omega)).trans a6
  have hy := (fm _ (by omega)).trans hy
  have ft := ft.tr (fm.mono (lo' := y) (hi' := y + 19) (by omega) (by omega))
  clear eh9
  refine V_putF (pc' := 65) (fs' := [_, _, _, _, _, _, _, _, _, _, _, _, _, _, _, _, _, _, _, _, _, _, _, _, _, _, _, _, _, _]) (ty0 := tyX8) hX dX8_init_62 (hnm.trans rfl) hy rfl inX8 tyX8_ok nmX8 10 (by decide) wF_X8_29 rfl rfl (tyX8_ok 10 (by decide)) rfl rfl (Nat.le_of_ble_eq_true rfl) rfl rfl ?_
  refine V.gen (fun hN ehN => ?_)
  have fp := fr.of_up ehN
  have hy := up_at ehN
  have ft := ft.tr (fp.mono (lo' := y) (hi' := y + 19) (by omega) (by omega))
  have a1 := (fp _ (by omega)).trans a1
  have a2 := (fp _ (by omega)).trans a2
  have a3 := (fp _ (by omega)).trans a3
  have a4 := (fp _ (by omega)).trans a4
  have a5 := (fp _ (by omega)).trans a5
  have a6 := (fp _ (by omega)).trans a6
  have a7 := (fp _ (by omega)).trans a7
  clear ehN
  refine V_aload_n (pc' := 66) hX dX8_init_65 rfl rfl ?_
  refine V_iconst (pc' := 67) (v := nI 1) hX dX8_init_66 (by decide) rfl ?_
  refine V_put (pc' := 70) (fs' := [_, _, _, _, _, _, _, _, _, _, _, _, _, _, _, _, _, _, _, _, _, _, _, _, _, _, _, _, _, _]) (ty0 := tyX8) hX dX8_init_67 hy rfl inX8 tyX8_ok nmX8 11 (by decide) wF_X8_32 rfl (tyX8_ok 11 (by decide)) rfl rfl (Nat.le_of_ble_eq_true rfl) rfl rfl ?_
  refine V.gen (fun hN ehN => ?_)
  have fp := fr.of_up ehN
  have hy := up_at ehN
  have ft := ft.tr (fp.mono (lo' := y) (hi' := y + 19) (by omega) (by omega))
  have a1 := (fp _ (by omega)).trans a1
  have a2 := (fp _ (by omega)).trans a2
  have a3 := (fp _ (by omega)).trans a3
  have a4 := (fp _ (by omega)).trans a4
  have a5 := (fp _ (by omega)).trans a5
  have a6 := (fp _ (by omega)).trans a6
  have a7 := (fp _ (by omega)).trans a7
  clear ehN
  refine V_aload_n (pc' := 71) hX dX8_init_70 rfl rfl ?_
  refine V_iconst (pc' := 72) (v := nI 1) hX dX8_init_71 (by decide) rfl ?_
  refine V_put (pc' := 75) (fs' := [_, _, _, _, _, _, _, _, _, _, _, _, _, _, _, _, _, _, _, _, _, _, _, _, _, _, _, _, _, _]) (ty0 := tyX8) hX dX8_init_72 hy rfl inX8 tyX8_ok nmX8 12 (by decide) wF_X8_36 rfl (tyX8_ok 12 (by decide)) rfl rfl (Nat.le_of_ble_eq_true rfl) rfl rfl ?_
  refine V.gen (fun hN ehN => ?_)
  have fp := fr.of_up ehN
  have hy := up_at ehN
  have ft := ft.tr (fp.mono (lo' := y) (hi' := y + 19) (by omega) (by omega))
  have a1 := (fp _ (by omega)).trans a1
  have a2 := (fp _ (by omega)).trans a2
  have a3 := (fp _ (by omega)).trans a3
  have a4 := (fp _ (by omega)).trans a4
  have a5 := (fp _ (by omega)).trans a5
  have a6 := (fp _ (by omega)).trans a6
  have a7 := (fp _ (by omega)).trans a7
  clear ehN
  refine V_aload_n (pc' := 76) hX dX8_init_75 rfl rfl ?_
  refine V_iconst (pc' := 77) (v := nI 2) hX dX8_init_76 (by decide) rfl ?_
  refine V_put (pc' := 80) (fs' := [_, _, _, _, _, _, _, _, _, _, _, _, _, _, _, _, _, _, _, _, _, _, _, _, _, _, _, _, _, _]) (ty0 := tyX8) hX dX8_init_77 hy rfl inX8 tyX8_ok nmX8 13 (by decide) wF_X8_39 rfl (tyX8_ok 13 (by decide)) rfl rfl (Nat.le_of_ble_eq_true rfl) rfl rfl ?_
  refine V.gen (fun hN ehN => ?_)
  have fp := fr.of_up ehN
  have hy := up_at ehN
  have ft := ft.tr (fp.mono (lo' := y) (hi' := y + 19) (by omega) (by omega))
  have a1 := (fp _ (by omega)).trans a1
  have a2 := (fp _ (by omega)).trans a2
  have a3 := (fp _ (by omega)).trans a3
  have a4 := (fp _ (by omega)).trans a4
  have a5 := (fp _ (by omega)).trans a5
  have a6 := (fp _ (by omega)).trans a6
  have a7 := (fp _ (by omega)).trans a7
  clear ehN
  refine V_aload_n (pc' := 81) hX dX8_init_80 rfl rfl ?_
  refine V_bipush (pc' := 83) (v := nI 30) hX dX8_init_81 (by decide) rfl ?_
  refine V_newIN (pc' := 85) hX dX8_init_83 (by omega) (by omega) (by omega) rfl ?_
  refine V.eqz (z' := y + 9) (by omega) ?_
  refine V.gen (fun h9 eh9 => ?_)
  have fm := fr.of_up eh9
  have a8 := up_at eh9
  have a1 := (fm _ (by omega)).trans a1
  have a2 := (fm _ (by omega)).trans a2
  have a3 := (fm _ (by omega)).trans a3
  have a4 := (fm _ (by omega)).trans a4
  have a5 := (fm _ (by omega)).trans a5
  have a6 := (fm _ (by omega)).trans a6
  have a7 := (fm _ (by omega)).trans a7
  have hy := (fm _ (by omega)).trans hy
  have ft := ft.tr (fm.mono (lo' := y) (hi' := y + 19) (by omega) (by omega))
  clear eh9
  refine V_putF (pc' := 88) (fs' := [_, _, _, _, _, _, _, _, _, _, _, _, _, _, _, _, _, _, _, _, _, _, _, _, _, _, _, _, _, _]) (ty0 := tyX8) hX dX8_init_85 (hnm.trans rfl) hy rfl inX8 tyX8_ok nmX8 14 (by decide) wF_X8_42 rfl rfl (tyX8_ok 14 (by decide)) rfl rfl (Nat.le_of_ble_eq_true rfl) rfl rfl ?_
  refine V.gen (fun hN ehN => ?_)
  have fp := fr.of_up ehN
  have hy := up_at ehN
  have ft := ft.tr (fp.mono (lo' := y) (hi' := y + 19) (by omega) (by omega))
  have a1 := (fp _ (by omega)).trans a1
  have a2 := (fp _ (by omega)).trans a2
  have a3 := (fp _ (by omega)).trans a3
  have a4 := (fp _ (by omega)).trans a4
  have a5 := (fp _ (by omega)).trans a5
  have a6 := (fp _ (by omega)).trans a6
  have a7 := (fp _ (by omega)).trans a7
  have a8 := (fp _ (by omega)).trans a8
  clear ehN
  refine V_aload_n (pc' := 89) hX dX8_init_88 rfl rfl ?_
  refine V_bipush (pc' := 91) (v := nI 30) hX dX8_init_89 (by decide) rfl ?_
  refine V_newIN (pc' := 93) hX dX8_init_91 (by omega) (by omega) (by omega) rfl ?_
  refine V.eqz (z' := y + 10) (by omega) ?_
  refine V.gen (fun h9 eh9 => ?_)
  have fm := fr.of_up eh9
  have a9 := up_at eh9
  have a1 := (fm _ (by omega)).trans a1
  have a2 := (fm _ (by omega)).trans a2
  have a3 := (fm _ (by omega)).trans a3
  have a4 := (fm _ (by omega)).trans a4
  have a5 := (fm _ (by omega)).trans a5
  have a6 := (fm _ (by omega)).trans a6
  have a7 := (fm _ (by omega)).trans a7
  have a8 := (fm _ (by omega)).trans a8
  have hy := (fm _ (by omega)).trans hy
  have ft := ft.tr (fm.mono (lo' := y) (hi' := y + 19) (by omega) (by omega))
  clear eh9
  refine V_putF (pc' := 96) (fs' := [_, _, _, _, _, _, _, _, _, _, _, _, _, _, _, _, _, _, _, _, _, _, _, _, _, _, _, _, _, _]) (ty0 := tyX8) hX dX8_init_93 (hnm.trans rfl) hy rfl inX8 tyX8_ok nmX8 15 (by decide) wF_X8_45 rfl rfl (tyX8_ok 15 (by decide)) rfl rfl (Nat.le_of_ble_eq_true rfl) rfl rfl ?_
  refine V.gen (fun hN ehN => ?_)
  have fp := fr.of_up ehN
  have hy := up_at ehN
  have ft := ft.tr (fp.mono (lo' := y) (hi' := y + 19) (by omega) (by omega))
  have a1 := (fp _ (by omega)).trans a1
  have a2 := (fp _ (by omega)).trans a2
  have a3 := (fp _ (by omega)).trans a3
  have a4 := (fp _ (by omega)).trans a4
  have a5 := (fp _ (by omega)).trans a5
  have a6 := (fp _ (by omega)).trans a6
  have a7 := (fp _ (by omega)).trans a7
  have a8 := (fp _ (by omega)).trans a8
  have a9 := (fp _ (by omega)).trans a9
  clear ehN
  refine V_aload_n (pc' := 97) hX dX8_init_96 rfl rfl ?_
  refine V_bipush (pc' := 99) (v := nI 80) hX dX8_init_97 (by decide) rfl ?_
  refine V_newIN (pc' := 101) hX dX8_init_99 (by omega) (by omega) (by omega) rfl ?_
  refine V.eqz (z' := y + 11) (by omega) ?_
  refine V.gen (fun h9 eh9 => ?_)
  have fm := fr.of_up eh9
  have a10 := up_at eh9
  have a1 := (fm _ (by omega)).trans a1
  have a2 := (fm _ (by omega)).trans a2
  have a3 := (fm _ (by omega)).trans a3
  have a4 := (fm _ (by omega)).trans a4
  have a5 := (fm _ (by omega)).trans a5
  have a6 := (fm _ (by omega)).trans a6
  have a7 := (fm _ (by omega)).trans a7
  have a8 := (fm _ (by omega)).trans a8
  have a9 := (fm _ (by omega)).trans a9
  have hy := (fm _ (by omega)).trans hy
  have ft := ft.tr (fm.mono (lo' := y) (hi' := y + 19) (by omega) (by omega))
  clear eh9
  refine V_putF (pc' := 104) (fs' := [_, _, _, _, _, _, _, _, _, _, _, _, _, _, _, _, _, _, _, _, _, _, _, _, _, _, _, _, _, _]) (ty0 := tyX8) hX dX8_init_101 (hnm.trans rfl) hy rfl inX8 tyX8_ok nmX8 16 (by decide) wF_X8_48 rfl rfl (tyX8_ok 16 (by decide)) rfl rfl (Nat.le_of_ble_eq_true rfl) rfl rfl ?_
  refine V.gen (fun hN ehN => ?_)
  have fp := fr.of_up ehN
  have hy := up_at ehN
  have ft := ft.tr (fp.mono (lo' := y) (hi' := y + 19) (by omega) (by omega))
  have a1 := (fp _ (by omega)).trans a1
  have a2 := (fp _ (by omega)).trans a2
  have a3 := (fp _ (by omega)).trans a3
  have a4 := (fp _ (by omega)).trans a4
  have a5 := (fp _ (by omega)).trans a5
  have a6 := (fp _ (by omega)).trans a6
  have a7 := (fp _ (by omega)).trans a7
  have a8 := (fp _ (by omega)).trans a8
  have a9 := (fp _ (by omega)).trans a9
  have a10 := (fp _ (by omega)).trans a10
  clear ehN
  refine V_aload_n (pc' := 105) hX dX8_init_104 rfl rfl ?_
  refine V_sipush (pc' := 108) (v := nI 1800) hX dX8_init_105 (by decide) rfl ?_
  refine V_newIN (pc' := 110) hX dX8_init_108 (by omega) (by omega) (by omega) rfl ?_
  refine V.eqz (z' := y + 12) (by omega) ?_
  refine V.gen (fun h9 eh9 => ?_)
  have fm := fr.of_up eh9
  have a11 := up_at eh9
  have a1 := (fm _ (by omega)).trans a1
  have a2 := (fm _ (by omega)).trans a2
  have a3 := (fm _ (by omega)).trans a3
  have a4 := (fm _ (by omega)).trans a4
  have a5 := (fm _ (by omega)).trans a5
  have a6 := (fm _ (by omega)).trans a6
  have a7 := (fm _ (by omega)).trans a7
  have a8 := (fm _ (by omega)).trans a8
  have a9 := (fm _ (by omega)).trans a9
  have a10 := (fm _ (by omega)).trans a10
  have hy := (fm _ (by omega)).trans hy
  have ft := ft.tr (fm.mono (lo' := y) (hi' := y + 19) (by omega) (by omega))
  clear eh9
  refine V_putF (pc' := 113) (fs' := [_, _, _, _, _, _, _, _, _, _, _, _, _, _, _, _, _, _, _, _, _, _, _, _, _, _, _, _, _, _]) (ty0 := tyX8) hX dX8_init_110 (hnm.trans rfl) hy rfl inX8 tyX8_ok nmX8 19 (by decide) wF_X8_51 rfl rfl (tyX8_ok 19 (by decide)) rfl rfl (Nat.le_of_ble_eq_true rfl) rfl rfl ?_
  refine V.gen (fun hN ehN => ?_)
  have fp := fr.of_up ehN
  have hy := up_at ehN
  have ft := ft.tr (fp.mono (lo' := y) (hi' := y + 19) (by omega) (by omega))
  have a1 := (fp _ (by omega)).trans a1
  have a2 := (fp _ (by omega)).trans a2
  have a3 := (fp _ (by omega)).trans a3
  have a4 := (fp _ (by omega)).trans a4
  have a5 := (fp _ (by omega)).trans a5
  have a6 := (fp _ (by omega)).trans a6
  have a7 := (fp _ (by omega)).trans a7
  have a8 := (fp _ (by omega)).trans a8
  have a9 := (fp _ (by omega)).trans a9
  have a10 := (fp _ (by omega)).trans a10
  have a11 := (fp _ (by omega)).trans a11
  clear ehN
  refine V_aload_n (pc' := 114) hX dX8_init_113 rfl rfl ?_
  refine V_sipush (pc' := 117) (v := nI 1800) hX dX8_init_114 (by decide) rfl ?_
  refine V_newIN (pc' := 119) hX dX8_init_117 (by omega) (by omega) (by omega) rfl ?_
  refine V.eqz (z' := y + 13) (by omega) ?_
  refine V.gen (fun h9 eh9 => ?_)
  have fm := fr.of_up eh9
  have a12 := up_at eh9
  have a1 := (fm _ (by omega)).trans a1
  have a2 := (fm _ (by omega)).trans a2
  have a3 := (fm _ (by omega)).trans a3
  have a4 := (fm _ (by omega)).trans a4
  have a5 := (fm _ (by omega)).trans a5
  have a6 := (fm _ (by omega)).trans a6
  have a7 := (fm _ (by omega)).trans a7
  have a8 := (fm _ (by omega)).trans a8
  have a9 := (fm _ (by omega)).trans a9
  have a10 := (fm _ (by omega)).trans a10
  have a11 := (fm _ (by omega)).trans a11
  have hy := (fm _ (by omega)).trans hy
  have ft := ft.tr (fm.mono (lo' := y) (hi' := y + 19) (by omega) (by omega))
  clear eh9
  refine V_putF (pc' := 122) (fs' := [_, _, _, _, _, _, _, _, _, _, _, _, _, _, _, _, _, _, _, _, _, _, _, _, _, _, _, _, _, _]) (ty0 := tyX8) hX dX8_init_119 (hnm.trans rfl) hy rfl inX8 tyX8_ok nmX8 20 (by decide) wF_X8_54 rfl rfl (tyX8_ok 20 (by decide)) rfl rfl (Nat.le_of_ble_eq_true rfl) rfl rfl ?_
  refine V.gen (fun hN ehN => ?_)
  have fp := fr.of_up ehN
  have hy := up_at ehN
  have ft := ft.tr (fp.mono (lo' := y) (hi' := y + 19) (by omega) (by omega))
  have a1 := (fp _ (by omega)).trans a1
  have a2 := (fp _ (by omega)).trans a2
  have a3 := (fp _ (by omega)).trans a3
  have a4 := (fp _ (by omega)).trans a4
  have a5 := (fp _ (by omega)).trans a5
  have a6 := (fp _ (by omega)).trans a6
  have a7 := (fp _ (by omega)).trans a7
  have a8 := (fp _ (by omega)).trans a8
  have a9 := (fp _ (by omega)).trans a9
  have a10 := (fp _ (by omega)).trans a10
  have a11 := (fp _ (by omega)).trans a11
  have a12 := (fp _ (by omega)).trans a12
  clear ehN
  refine V_aload_n (pc' := 123) hX dX8_init_122 rfl rfl ?_
  refine V_sipush (pc' := 126) (v := nI 1800) hX dX8_init_123 (by decide) rfl ?_
  refine V_newIN (pc' := 128) hX dX8_init_126 (by omega) (by omega) (by omega) rfl ?_
  refine V.eqz (z' := y + 14) (by omega) ?_
  refine V.gen (fun h9 eh9 => ?_)
  have fm := fr.of_up eh9
  have a13 := up_at eh9
  have a1 := (fm _ (by omega)).trans a1
  have a2 := (fm _ (by omega)).trans a2
  have a3 := (fm _ (by omega)).trans a3
  have a4 := (fm _ (by omega)).trans a4
  have a5 := (fm _ (by omega)).trans a5
  have a6 := (fm _ (by omega)).trans a6
  have a7 := (fm _ (by omega)).trans a7
  have a8 := (fm _ (by omega)).trans a8
  have a9 := (fm _ (by omega)).trans a9
  have a10 := (fm _ (by omega)).trans a10
  have a11 := (fm _ (by omega)).trans a11
  have a12 := (fm _ (by omega)).trans a12
  have hy := (fm _ (by omega)).trans hy
  have ft := ft.tr (fm.mono (lo' := y) (hi' := y + 19) (by omega) (by omega))
  clear eh9
  refine V_putF (pc' := 131) (fs' := [_, _, _, _, _, _, _, _, _, _, _, _, _, _, _, _, _, _, _, _, _, _, _, _, _, _, _, _, _, _]) (ty0 := tyX8) hX dX8_init_128 (hnm.trans rfl) hy rfl inX8 tyX8_ok nmX8 21 (by decide) wF_X8_57 rfl rfl (tyX8_ok 21 (by decide)) rfl rfl (Nat.le_of_ble_eq_true rfl) rfl rfl ?_
  refine V.gen (fun hN ehN => ?_)
  have fp := fr.of_up ehN
  have hy := up_at ehN
  have ft := ft.tr (fp.mono (lo' := y) (hi' := y + 19) (by omega) (by omega))
  have a1 := (fp _ (by omega)).trans a1
  have a2 := (fp _ (by omega)).trans a2
  have a3 := (fp _ (by omega)).trans a3
  have a4 := (fp _ (by omega)).trans a4
  have a5 := (fp _ (by omega)).trans a5
  have a6 := (fp _ (by omega)).trans a6
  have a7 := (fp _ (by omega)).trans a7
  have a8 := (fp _ (by omega)).trans a8
  have a9 := (fp _ (by omega)).trans a9
  have a10 := (fp _ (by omega)).trans a10
  have a11 := (fp _ (by omega)).trans a11
  have a12 := (fp _ (by omega)).trans a12
  have a13 := (fp _ (by omega)).trans a13
  clear ehN
  refine V_aload_n (pc' := 132) hX dX8_init_131 rfl rfl ?_
  refine V_bipush (pc' := 134) (v := nI 6) hX dX8_init_132 (by decide) rfl ?_
  refine V_newIN (pc' := 136) hX dX8_init_134 (by omega) (by omega) (by omega) rfl ?_
  refine V.eqz (z' := y + 15) (by omega) ?_
  refine V.gen (fun h9 eh9 => ?_)
  have fm := fr.of_up eh9
  have a14 := up_at eh9
  have a1 := (fm _ (by omega)).trans a1
  have a2 := (fm _ (by omega)).trans a2
  have a3 := (fm _ (by omega)).trans a3
  have a4 := (fm _ (by omega)).trans a4
  have a5 := (fm _ (by omega)).trans a5
  have a6 := (fm _ (by omega)).trans a6
  have a7 := (fm _ (by omega)).trans a7
  have a8 := (fm _ (by omega)).trans a8
  have a9 := (fm _ (by omega)).trans a9
  have a10 := (fm _ (by omega)).trans a10
  have a11 := (fm _ (by omega)).trans a11
  have a12 := (fm _ (by omega)).trans a12
  have a13 := (fm _ (by omega)).trans a13
  have hy := (fm _ (by omega)).trans hy
  have ft := ft.tr (fm.mono (lo' := y) (hi' := y + 19) (by omega) (by omega))
  clear eh9
  refine V_putF (pc' := 139) (fs' := [_, _, _, _, _, _, _, _, _, _, _, _, _, _, _, _, _, _, _, _, _, _, _, _, _, _, _, _, _, _]) (ty0 := tyX8) hX dX8_init_136 (hnm.trans rfl) hy rfl inX8 tyX8_ok nmX8 22 (by decide) wF_X8_60 rfl rfl (tyX8_ok 22 (by decide)) rfl rfl (Nat.le_of_ble_eq_true rfl) rfl rfl ?_
  refine V.gen (fun hN ehN => ?_)
  have fp := fr.of_up ehN
  have hy := up_at ehN
  have ft := ft.tr (fp.mono (lo' := y) (hi' := y + 19) (by omega) (by omega))
  have a1 := (fp _ (by omega)).trans a1
  have a2 := (fp _ (by omega)).trans a2
  have a3 := (fp _ (by omega)).trans a3
  have a4 := (fp _ (by omega)).trans a4
  have a5 := (fp _ (by omega)).trans a5
  have a6 := (fp _ (by omega)).trans a6
  have a7 := (fp _ (by omega)).trans a7
  have a8 := (fp _ (by omega)).trans a8
  have a9 := (fp _ (by omega)).trans a9
  have a10 := (fp _ (by omega)).trans a10
  have a11 := (fp _ (by omega)).trans a11
  have a12 := (fp _ (by omega)).trans a12
  have a13 := (fp _ (by omega)).trans a13
  have a14 := (fp _ (by omega)).trans a14
  clear ehN
  refine V_aload_n (pc' := 140) hX dX8_init_139 rfl rfl ?_
  refine V_bipush (pc' := 142) (v := nI 60) hX dX8_init_140 (by decide) rfl ?_
  refine V_newIN (pc' := 144) hX dX8_init_142 (by omega) (by omega) (by omega) rfl ?_
  refine V.eqz (z' := y + 16) (by omega) ?_
  refine V.gen (fun h9 eh9 => ?_)
  have fm := fr.of_up eh9
  have a15 := up_at eh9
  have a1 := (fm _ (by omega)).trans a1
  have a2 := (fm _ (by omega)).trans a2
  have a3 := (fm _ (by omega)).trans a3
  have a4 := (fm _ (by omega)).trans a4
  have a5 := (fm _ (by omega)).trans a5
  have a6 := (fm _ (by omega)).trans a6
  have a7 := (fm _ (by omega)).trans a7
  have a8 := (fm _ (by omega)).trans a8
  have a9 := (fm _ (by omega)).trans a9
  have a10 := (fm _ (by omega)).trans a10
  have a11 := (fm _ (by omega)).trans a11
  have a12 := (fm _ (by omega)).trans a12
  have a13 := (fm _ (by omega)).trans a13
  have a14 := (fm _ (by omega)).trans a14
  have hy := (fm _ (by omega)).trans hy
  have ft := ft.tr (fm.mono (lo' := y) (hi' := y + 19) (by omega) (by omega))
  clear eh9
  refine V_putF (pc' := 147) (fs' := [_, _, _, _, _, _, _, _, _, _, _, _, _, _, _, _, _, _, _, _, _, _, _, _, _, _, _, _, _, _]) (ty0 := tyX8) hX dX8_init_144 (hnm.trans rfl) hy rfl inX8 tyX8_ok nmX8 23 (by decide) wF_X8_63 rfl rfl (tyX8_ok 23 (by decide)) rfl rfl (Nat.le_of_ble_eq_true rfl) rfl rfl ?_
  refine V.gen (fun hN ehN => ?_)
  have fp := fr.of_up ehN
  have hy := up_at ehN
  have ft := ft.tr (fp.mono (lo' := y) (hi' := y + 19) (by omega) (by omega))
  have a1 := (fp _ (by omega)).trans a1
  have a2 := (fp _ (by omega)).trans a2
  have a3 := (fp _ (by omega)).trans a3
  have a4 := (fp _ (by omega)).trans a4
  have a5 := (fp _ (by omega)).trans a5
  have a6 := (fp _ (by omega)).trans a6
  have a7 := (fp _ (by omega)).trans a7
  have a8 := (fp _ (by omega)).trans a8
  have a9 := (fp _ (by omega)).trans a9
  have a10 := (fp _ (by omega)).trans a10
  have a11 := (fp _ (by omega)).trans a11
  have a12 := (fp _ (by omega)).trans a12
  have a13 := (fp _ (by omega)).trans a13
  have a14 := (fp _ (by omega)).trans a14
  have a15 := (fp _ (by omega)).trans a15
  clear ehN
  refine V_aload_n (pc' := 148) hX dX8_init_147 rfl rfl ?_
  refine V_bipush (pc' := 150) (v := nI 20) hX dX8_init_148 (by decide) rfl ?_
  refine V_newIN (pc' := 152) hX dX8_init_150 (by omega) (by omega) (by omega) rfl ?_
  refine V.eqz (z' := y + 17) (by omega) ?_
  refine V.gen (fun h9 eh9 => ?_)
  have fm := fr.of_up eh9
  have a16 := up_at eh9
  have a1 := (fm _ (by omega)).trans a1
  have a2 := (fm _ (by omega)).trans a2
  have a3 := (fm _ (by omega)).trans a3
  have a4 := (fm _ (by omega)).trans a4
  have a5 := (fm _ (by omega)).trans a5
  have a6 := (fm _ (by omega)).trans a6
  have a7 := (fm _ (by omega)).trans a7
  have a8 := (fm _ (by omega)).trans a8
  have a9 := (fm _ (by omega)).trans a9
  have a10 := (fm _ (by omega)).trans a10
  have a11 := (fm _ (by omega)).trans a11
  have a12 := (fm _ (by omega)).trans a12
  have a13 := (fm _ (by omega)).trans a13
  have a14 := (fm _ (by omega)).trans a14
  have a15 := (fm _ (by omega)).trans a15
  have hy := (fm _ (by omega)).trans hy
  have ft := ft.tr (fm.mono (lo' := y) (hi' := y + 19) (by omega) (by omega))
  clear eh9
  refine V_putF (pc' := 155) (fs' := [_, _, _, _, _, _, _, _, _, _, _, _, _, _, _, _, _, _, _, _, _, _, _, _, _, _, _, _, _, _]) (ty0 := tyX8) hX dX8_init_152 (hnm.trans rfl) hy rfl inX8 tyX8_ok nmX8 26 (by decide) wF_X8_66 rfl rfl (tyX8_ok 26 (by decide)) rfl rfl (Nat.le_of_ble_eq_true rfl) rfl rfl ?_
  refine V.gen (fun hN ehN => ?_)
  have fp := fr.of_up ehN
  have hy := up_at ehN
  have ft := ft.tr (fp.mono (lo' := y) (hi' := y + 19) (by omega) (by omega))
  have a1 := (fp _ (by omega)).trans a1
  have a2 := (fp _ (by omega)).trans a2
  have a3 := (fp _ (by omega)).trans a3
  have a4 := (fp _ (by omega)).trans a4
  have a5 := (fp _ (by omega)).trans a5
  have a6 := (fp _ (by omega)).trans a6
  have a7 := (fp _ (by omega)).trans a7
  have a8 := (fp _ (by omega)).trans a8
  have a9 := (fp _ (by omega)).trans a9
  have a10 := (fp _ (by omega)).trans a10
  have a11 := (fp _ (by omega)).trans a11
  have a12 := (fp _ (by omega)).trans a12
  have a13 := (fp _ (by omega)).trans a13
  have a14 := (fp _ (by omega)).trans a14
  have a15 := (fp _ (by omega)).trans a15
  have a16 := (fp _ (by omega)).trans a16
  clear ehN
  refine V_aload_n (pc' := 156) hX dX8_init_155 rfl rfl ?_
  refine V_bipush (pc' := 158) (v := nI 20) hX dX8_init_156 (by decide) rfl ?_
  refine V_newIN (pc' := 160) hX dX8_init_158 (by omega) (by omega) (by omega) rfl ?_
  refine V.eqz (z' := y + 18) (by omega) ?_
  refine V.gen (fun h9 eh9 => ?_)
  have fm := fr.of_up eh9
  have a17 := up_at eh9
  have a1 := (fm _ (by omega)).trans a1
  have a2 := (fm _ (by omega)).trans a2
  have a3 := (fm _ (by omega)).trans a3
  have a4 := (fm _ (by omega)).trans a4
  have a5 := (fm _ (by omega)).trans a5
  have a6 := (fm _ (by omega)).trans a6
  have a7 := (fm _ (by omega)).trans a7
  have a8 := (fm _ (by omega)).trans a8
  have a9 := (fm _ (by omega)).trans a9
  have a10 := (fm _ (by omega)).trans a10
  have a11 := (fm _ (by omega)).trans a11
  have a12 := (fm _ (by omega)).trans a12
  have a13 := (fm _ (by omega)).trans a13
  have a14 := (fm _ (by omega)).trans a14
  have a15 := (fm _ (by omega)).trans a15
  have a16 := (fm _ (by omega)).trans a16
  have hy := (fm _ (by omega)).trans hy
  have ft := ft.tr (fm.mono (lo' := y) (hi' := y + 19) (by omega) (by omega))
  clear eh9
  refine V_putF (pc' := 163) (fs' := [_, _, _, _, _, _, _, _, _, _, _, _, _, _, _, _, _, _, _, _, _, _, _, _, _, _, _, _, _, _]) (ty0 := tyX8) hX dX8_init_160 (hnm.trans rfl) hy rfl inX8 tyX8_ok nmX8 27 (by decide) wF_X8_69 rfl rfl (tyX8_ok 27 (by decide)) rfl rfl (Nat.le_of_ble_eq_true rfl) rfl rfl ?_
  refine V.gen (fun hN ehN => ?_)
  have fp := fr.of_up ehN
  have hy := up_at ehN
  have ft := ft.tr (fp.mono (lo' := y) (hi' := y + 19) (by omega) (by omega))
  have a1 := (fp _ (by omega)).trans a1
  have a2 := (fp _ (by omega)).trans a2
  have a3 := (fp _ (by omega)).trans a3
  have a4 := (fp _ (by omega)).trans a4
  have a5 := (fp _ (by omega)).trans a5
  have a6 := (fp _ (by omega)).trans a6
  have a7 := (fp _ (by omega)).trans a7
  have a8 := (fp _ (by omega)).trans a8
  have a9 := (fp _ (by omega)).trans a9
  have a10 := (fp _ (by omega)).trans a10
  have a11 := (fp _ (by omega)).trans a11
  have a12 := (fp _ (by omega)).trans a12
  have a13 := (fp _ (by omega)).trans a13
  have a14 := (fp _ (by omega)).trans a14
  have a15 := (fp _ (by omega)).trans a15
  have a16 := (fp _ (by omega)).trans a16
  have a17 := (fp _ (by omega)).trans a17
  clear ehN
  refine V_aload_n (pc' := 164) hX dX8_init_163 rfl rfl ?_
  refine V_bipush (pc' := 166) (v := nI 20) hX dX8_init_164 (by decide) rfl ?_
  refine V_newIN (pc' := 168) hX dX8_init_166 (by omega) (by omega) (by omega) rfl ?_
  refine V.eqz (z' := y + 19) (by omega) ?_
  refine V.gen (fun h9 eh9 => ?_)
  have fm := fr.of_up eh9
  have a18 := up_at eh9
  have a1 := (fm _ (by omega)).trans a1
  have a2 := (fm _ (by omega)).trans a2
  have a3 := (fm _ (by omega)).trans a3
  have a4 := (fm _ (by omega)).trans a4
  have a5 := (fm _ (by omega)).trans a5
  have a6 := (fm _ (by omega)).trans a6
  have a7 := (fm _ (by omega)).trans a7
  have a8 := (fm _ (by omega)).trans a8
  have a9 := (fm _ (by omega)).trans a9
  have a10 := (fm _ (by omega)).trans a10
  have a11 := (fm _ (by omega)).trans a11
  have a12 := (fm _ (by omega)).trans a12
  have a13 := (fm _ (by omega)).trans a13
  have a14 := (fm _ (by omega)).trans a14
  have a15 := (fm _ (by omega)).trans a15
  have a16 := (fm _ (by omega)).trans a16
  have a17 := (fm _ (by omega)).trans a17
  have hy := (fm _ (by omega)).trans hy
  have ft := ft.tr (fm.mono (lo' := y) (hi' := y + 19) (by omega) (by omega))
  clear eh9
  refine V_putF (pc' := 171) (fs' := [_, _, _, _, _, _, _, _, _, _, _, _, _, _, _, _, _, _, _, _, _, _, _, _, _, _, _, _, _, _]) (ty0 := tyX8) hX dX8_init_168 (hnm.trans rfl) hy rfl inX8 tyX8_ok nmX8 28 (by decide) wF_X8_72 rfl rfl (tyX8_ok 28 (by decide)) rfl rfl (Nat.le_of_ble_eq_true rfl) rfl rfl ?_
  refine V.gen (fun hN ehN => ?_)
  have fp := fr.of_up ehN
  have hy := up_at ehN
  have ft := ft.tr (fp.mono (lo' := y) (hi' := y + 19) (by omega) (by omega))
  have a1 := (fp _ (by omega)).trans a1
  have a2 := (fp _ (by omega)).trans a2
  have a3 := (fp _ (by omega)).trans a3
  have a4 := (fp _ (by omega)).trans a4
  have a5 := (fp _ (by omega)).trans a5
  have a6 := (fp _ (by omega)).trans a6
  have a7 := (fp _ (by omega)).trans a7
  have a8 := (fp _ (by omega)).trans a8
  have a9 := (fp _ (by omega)).trans a9
  have a10 := (fp _ (by omega)).trans a10
  have a11 := (fp _ (by omega)).trans a11
  have a12 := (fp _ (by omega)).trans a12
  have a13 := (fp _ (by omega)).trans a13
  have a14 := (fp _ (by omega)).trans a14
  have a15 := (fp _ (by omega)).trans a15
  have a16 := (fp _ (by omega)).trans a16
  have a17 := (fp _ (by omega)).trans a17
  have a18 := (fp _ (by omega)).trans a18
  clear ehN
  refine V.widen (k' := 18) (n' := 11586) (by omega) (by omega) ?_
  refine V_vret hX hR dX8_init_171 ?_
  exact ⟨rfl, rfl, ft, hy, a1, a2, a3, a4, a5, a6, a7, a8, a9, a10, a11, a12, a13, a14, a15, a16, a17, a18⟩
