theorem V.eqz {X : CX} {k n z z' pc : Nat} {h : AH} {lv : List (Option Value)} {st : List Value} (e : z = z') (kk : V X k n z' h pc lv st) : V X k n z h pc lv st := by rw [e]; exact kk
set_option maxRecDepth 100000 in
set_option maxHeartbeats 4000000 in
theorem c_PS_init {G : Gd} {h : AH} {z x : Nat} {Fr Wr : Nat → Nat → Nat} (ha : h x = some (oO 7 [.null, .int 0, .null, .null, .null, .null, .null, .null, .null, .int 0, .null, .null, .long 0])) (hz : z = x + 1) : Ct G yX7_init cX7_init 1 none 3 22 9828 [.ref x] z h (fun r' z' h' => r' = none ∧ z' = x + 23 ∧ fr x (x + 23) h h' ∧ psAt G h' (x + 23) x 0 (fun _ => none) (fun _ => []) Fr Wr (fun _ => 0) (fun _ => 0) 0 (fun _ => 0) (fun _ => 0) 0 1 1 2 (fun _ => 0) 0 (fun _ => 0) 0 (fun _ => 0) (fun _ => 0) (fun _ => 0) 0 (fun _ => 0) 0 0) := by
  refine Ct.of (lv := [_]) (by decide) (Nat.le_of_ble_eq_true rfl) rfl ?_
  rintro X rfl hX hR hnm
  subst hz
  refine V_aload_n (pc' := 1) hX dX7_init_0 rfl rfl ?_
  refine V_objInit (pc' := 4) hX dX7_init_1 wM_X7_3 wI_objInit wC_objInit (by omega) rfl rfl rfl ?_
  have hx := ha
  have ft : fr x (x + 23) h h := fr.rf
  refine V_aload_n (pc' := 5) hX dX7_init_4 rfl rfl ?_
  refine V_bipush (pc' := 7) (v := nI 60) hX dX7_init_5 (by decide) rfl ?_
  refine V_newNN (pc' := 10) hX dX7_init_7 wE_X7_9 (by omega) (by omega) (by omega) rfl ?_
  refine V.eqz (z' := x + 2) (by omega) ?_
  refine V.gen (fun hm1 eh9 => ?_)
  have fm := fr.of_up eh9
  have hsa := up_at eh9
  
  have hx := (fm _ (by omega)).trans hx
  have ft := ft.tr (fm.mono (lo' := x) (hi' := x + 23) (by omega) (by omega))
  clear eh9
  refine V_putF (pc' := 13) (fs' := [_, _, _, _, _, _, _, _, _, _, _, _, _]) (ty0 := tyX7) hX dX7_init_10 (hnm.trans rfl) hx rfl inX7 tyX7_ok nmX7 0 (by decide) wF_X7_11 rfl rfl (tyX7_ok 0 (by decide)) rfl rfl (Nat.le_of_ble_eq_true rfl) rfl rfl ?_
  refine V.gen (fun hn2 ehN => ?_)
  have fp := fr.of_up ehN
  have hx := up_at ehN
  have ft := ft.tr (fp.mono (lo' := x) (hi' := x + 23) (by omega) (by omega))
  have hsa := (fp _ (by omega)).trans hsa
  clear ehN
  refine V_aload_n (pc' := 14) hX dX7_init_13 rfl rfl ?_
  refine V_new (pc' := 17) (ci := 5) (ty0 := tyX5) (fs := [.null, .null, .int 0]) hX dX7_init_14 rfl inX5 tyX5_ok wE_X7_15 wB_X5 wN_X5 (fun j hj => by rcases (show j = 0 ∨ j = 1 ∨ j = 2 by omega) with rfl | rfl | rfl <;> rfl) (by omega) (by omega) rfl ?_
  refine V_dup (pc' := 18) hX dX7_init_17 rfl rfl ?_
  refine V_sipush (pc' := 21) (v := nI 1800) hX dX7_init_18 (by decide) rfl ?_
  refine V_callI (nA := 1) (pc' := 24) (k' := 4) (n' := 3663) hX dX7_init_21 (c_Table_init (a := x + 2) hup_s rfl (by omega)) wM_X7_17 wI_X5_init wN_X5 wC_X5_init rfl hy_X5_init rfl (Nat.le_of_ble_eq_true rfl) (by decide) (by omega) rfl rfl (by omega) rfl (by omega) rfl ?_
  rintro _ z9 hm3 ⟨rfl, ez, q1, q2⟩
  have ez : z9 = x + 5 := by omega
  subst ez
  have hF := q1
  have fm : fr (x + 2) (x + 5) hn2 hm3 := fun q9 hq9 => (q2 q9 hq9).trans (hup_n (by omega))
  have hsa := (fm _ (by omega)).trans hsa
  have hx := (fm _ (by omega)).trans hx
  have ft := ft.tr (fm.mono (lo' := x) (hi' := x + 23) (by omega) (by omega))
  refine V.stk (st' := [_, _]) rfl ?_
  refine V_putF (pc' := 27) (fs' := [_, _, _, _, _, _, _, _, _, _, _, _, _]) (ty0 := tyX7) hX dX7_init_24 (hnm.trans rfl) hx rfl inX7 tyX7_ok nmX7 2 (by decide) wF_X7_20 rfl rfl (tyX7_ok 2 (by decide)) rfl rfl (Nat.le_of_ble_eq_true rfl) rfl rfl ?_
  refine V.gen (fun hn4 ehN => ?_)
  have fp := fr.of_up ehN
  have hx := up_at ehN
  have ft := ft.tr (fp.mono (lo' := x) (hi' := x + 23) (by omega) (by omega))
  have hsa := (fp _ (by omega)).trans hsa
  have hF := hF.kept fp (by omega)
  clear ehN
  refine V_aload_n (pc' := 28) hX dX7_init_27 rfl rfl ?_
  refine V_new (pc' := 31) (ci := 5) (ty0 := tyX5) (fs := [.null, .null, .int 0]) hX dX7_init_28 rfl inX5 tyX5_ok wE_X7_15 wB_X5 wN_X5 (fun j hj => by rcases (show j = 0 ∨ j = 1 ∨ j = 2 by omega) with rfl | rfl | rfl <;> rfl) (by omega) (by omega) rfl ?_
  refine V_dup (pc' := 32) hX dX7_init_31 rfl rfl ?_
  refine V_sipush (pc' := 35) (v := nI 200) hX dX7_init_32 (by decide) rfl ?_
  refine V_callI (nA := 1) (pc' := 38) (k' := 7) (n' := 4066) hX dX7_init_35 (c_Table_init (a := x + 5) hup_s rfl (by omega)) wM_X7_17 wI_X5_init wN_X5 wC_X5_init rfl hy_X5_init rfl (Nat.le_of_ble_eq_true rfl) (by decide) (by omega) rfl rfl (by omega) rfl (by omega) rfl ?_
  rintro _ z9 hm5 ⟨rfl, ez, q1, q2⟩
  have ez : z9 = x + 8 := by omega
  subst ez
  have hT := q1
  have fm : fr (x + 5) (x + 8) hn4 hm5 := fun q9 hq9 => (q2 q9 hq9).trans (hup_n (by omega))
  have hsa := (fm _ (by omega)).trans hsa
  have hF := hF.kept fm (by omega)
  have hx := (fm _ (by omega)).trans hx
  have ft := ft.tr (fm.mono (lo' := x) (hi' := x + 23) (by omega) (by omega))
  refine V.stk (st' := [_, _]) rfl ?_
  refine V_putF (pc' := 41) (fs' := [_, _, _, _, _, _, _, _, _, _, _, _, _]) (ty0 := tyX7) hX dX7_init_38 (hnm.trans rfl) hx rfl inX7 tyX7_ok nmX7 3 (by decide) wF_X7_24 rfl rfl (tyX7_ok 3 (by decide)) rfl rfl (Nat.le_of_ble_eq_true rfl) rfl rfl ?_
  refine V.gen (fun hn6 ehN => ?_)
  have fp := fr.of_up ehN
  have hx := up_at ehN
  have ft := ft.tr (fp.mono (lo' := x) (hi' := x + 23) (by omega) (by omega))
  have hsa := (fp _ (by omega)).trans hsa
  have hF := hF.kept fp (by omega)
  have hT := hT.kept fp (by omega)
  clear ehN
  refine V_aload_n (pc' := 42) hX dX7_init_41 rfl rfl ?_
  refine V_new (pc' := 45) (ci := 1) (ty0 := tyX1) (fs := [.int 0, .int 0, .int 0]) hX dX7_init_42 rfl inX1 tyX1_ok wE_X7_27 wB_X1 wN_X1 (fun j hj => by rcases (show j = 0 ∨ j = 1 ∨ j = 2 by omega) with rfl | rfl | rfl <;> rfl) (by omega) (by omega) rfl ?_
  refine V_dup (pc' := 46) hX dX7_init_45 rfl rfl ?_
  refine V_callIN (nA := 0) (pc' := 49) (k' := 8) (n' := 4069) hX dX7_init_46 (c_Ms_init (m := x + 8) hup_s) wMn_X7_29 wI_X1_init wN_X1 wC_X1_init rfl hy_X1_init rfl (Nat.le_of_ble_eq_true rfl) (by decide) (by omega) rfl rfl (by omega) rfl (by omega) rfl ?_
  rintro _ z9 hm7 ⟨rfl, ez, q1, q2⟩
  have ez : z9 = x + 9 := by omega
  subst ez
  have hm := q1
  have fm : fr (x + 8) (x + 9) hn6 hm7 := fun q9 hq9 => (q2 q9 hq9).trans (hup_n (by omega))
  have hsa := (fm _ (by omega)).trans hsa
  have hF := hF.kept fm (by omega)
  have hT := hT.kept fm (by omega)
  have hx := (fm _ (by omega)).trans hx
  have ft := ft.tr (fm.mono (lo' := x) (hi' := x + 23) (by omega) (by omega))
  refine V.stk (st' := [_, _]) rfl ?_
  refine V_putF (pc' := 52) (fs' := [_, _, _, _, _, _, _, _, _, _, _, _, _]) (ty0 := tyX7) hX dX7_init_49 (hnm.trans rfl) hx rfl inX7 tyX7_ok nmX7 4 (by decide) wF_X7_30 rfl rfl (tyX7_ok 4 (by decide)) rfl rfl (Nat.le_of_ble_eq_true rfl) rfl rfl ?_
  refine V.gen (fun hn8 ehN => ?_)
  have fp := fr.of_up ehN
  have hx := up_at ehN
  have ft := ft.tr (fp.mono (lo' := x) (hi' := x + 23) (by omega) (by omega))
  have hsa := (fp _ (by omega)).trans hsa
  have hF := hF.kept fp (by omega)
  have hT := hT.kept fp (by omega)
  have hm := (fp _ (by omega)).trans hm
  clear ehN
  refine V_aload_n (pc' := 53) hX dX7_init_52 rfl rfl ?_
  refine V_new (pc' := 56) (ci := 6) (ty0 := tyX6) (fs := [.null, .int 0, .null]) hX dX7_init_53 rfl inX6 tyX6_ok wE_X7_34 wB_X6 wN_X6 (fun j hj => by rcases (show j = 0 ∨ j = 1 ∨ j = 2 by omega) with rfl | rfl | rfl <;> rfl) (by omega) (by omega) rfl ?_
  refine V_dup (pc' := 57) hX dX7_init_56 rfl rfl ?_
  refine V_callIN (nA := 0) (pc' := 60) (k' := 11) (n' := 4182) hX dX7_init_57 (c_Tp_init (t := x + 9) hup_s rfl) wMn_X7_36 wI_X6_init wN_X6 wC_X6_init rfl hy_X6_init rfl (Nat.le_of_ble_eq_true rfl) (by decide) (by omega) rfl rfl (by omega) rfl (by omega) rfl ?_
  rintro _ z9 hm9 ⟨rfl, ez, q1, q2⟩
  have ez : z9 = x + 12 := by omega
  subst ez
  have hp := q1
  have fm : fr (x + 9) (x + 12) hn8 hm9 := fun q9 hq9 => (q2 q9 hq9).trans (hup_n (by omega))
  have hsa := (fm _ (by omega)).trans hsa
  have hF := hF.kept fm (by omega)
  have hT := hT.kept fm (by omega)
  have hm := (fm _ (by omega)).trans hm
  have hx := (fm _ (by omega)).trans hx
  have ft := ft.tr (fm.mono (lo' := x) (hi' := x + 23) (by omega) (by omega))
  refine V.stk (st' := [_, _]) rfl ?_
  refine V_putF (pc' := 63) (fs' := [_, _, _, _, _, _, _, _, _, _, _, _, _]) (ty0 := tyX7) hX dX7_init_60 (hnm.trans rfl) hx rfl inX7 tyX7_ok nmX7 5 (by decide) wF_X7_37 rfl rfl (tyX7_ok 5 (by decide)) rfl rfl (Nat.le_of_ble_eq_true rfl) rfl rfl ?_
  refine V.gen (fun hn10 ehN => ?_)
  have fp := fr.of_up ehN
  have hx := up_at ehN
  have ft := ft.tr (fp.mono (lo' := x) (hi' := x + 23) (by omega) (by omega))
  have hsa := (fp _ (by omega)).trans hsa
  have hF := hF.kept fp (by omega)
  have hT := hT.kept fp (by omega)
  have hm := (fp _ (by omega)).trans hm
  have hp := hp.kept fp (by omega)
  clear ehN
  refine V_aload_n (pc' := 64) hX dX7_init_63 rfl rfl ?_
  refine V_new (pc' := 67) (ci := 4) (ty0 := tyX4) (fs := [.int 0, .int 0, .int 0]) hX dX7_init_64 rfl inX4 tyX4_ok wE_X7_41 wB_X4 wN_X4 (fun j hj => by rcases (show j = 0 ∨ j = 1 ∨ j = 2 by omega) with rfl | rfl | rfl <;> rfl) (by omega) (by omega) rfl ?_
  refine V_dup (pc' := 68) hX dX7_init_67 rfl rfl ?_
  refine V_callIN (nA := 0) (pc' := 71) (k' := 12) (n' := 4185) hX dX7_init_68 (c_Ov_init (o := x + 12)) wMn_X7_43 wI_X4_init wN_X4 wC_X4_init rfl hy_X4_init rfl (Nat.le_of_ble_eq_true rfl) (by decide) (by omega) rfl rfl (by omega) rfl (by omega) rfl ?_
  rintro _ z9 hm11 ⟨rfl, ez, rfl⟩
  have ez : z9 = x + 13 := by omega
  subst ez
  have fm : fr (x + 12) (x + 13) hn10 (hup hn10 (x + 12) (oO 4 [.int 0, .int 0, .int 0])) := fr.up fr.rf (by omega) (by omega)
  have ho : (hup hn10 (x + 12) (oO 4 [.int 0, .int 0, .int 0])) (x + 12) = some (oO 4 [.int 0, .int 0, .int 0]) := hup_s
  have hsa := (fm _ (by omega)).trans hsa
  have hF := hF.kept fm (by omega)
  have hT := hT.kept fm (by omega)
  have hm := (fm _ (by omega)).trans hm
  have hp := hp.kept fm (by omega)
  have hx := (fm _ (by omega)).trans hx
  have ft := ft.tr (fm.mono (lo' := x) (hi' := x + 23) (by omega) (by omega))
  refine V.stk (st' := [_, _]) rfl ?_
  refine V_putF (pc' := 74) (fs' := [_, _, _, _, _, _, _, _, _, _, _, _, _]) (ty0 := tyX7) hX dX7_init_71 (hnm.trans rfl) hx rfl inX7 tyX7_ok nmX7 6 (by decide) wF_X7_44 rfl rfl (tyX7_ok 6 (by decide)) rfl rfl (Nat.le_of_ble_eq_true rfl) rfl rfl ?_
  refine V.gen (fun hn12 ehN => ?_)
  have fp := fr.of_up ehN
  have hx := up_at ehN
  have ft := ft.tr (fp.mono (lo' := x) (hi' := x + 23) (by omega) (by omega))
  have hsa := (fp _ (by omega)).trans hsa
  have hF := hF.kept fp (by omega)
  have hT := hT.kept fp (by omega)
  have hm := (fp _ (by omega)).trans hm
  have hp := hp.kept fp (by omega)
  have ho := (fp _ (by omega)).trans ho
  clear ehN
  refine V_aload_n (pc' := 75) hX dX7_init_74 rfl rfl ?_
  refine V_bipush (pc' := 77) (v := nI 60) hX dX7_init_75 (by decide) rfl ?_
  refine V_newIN (pc' := 79) hX dX7_init_77 (by omega) (by omega) (by omega) rfl ?_
  refine V.eqz (z' := x + 14) (by omega) ?_
  refine V.gen (fun hm13 eh9 => ?_)
  have fm := fr.of_up eh9
  have hbg := up_at eh9
  have hsa := (fm _ (by omega)).trans hsa
  have hF := hF.kept fm (by omega)
  have hT := hT.kept fm (by omega)
  have hm := (fm _ (by omega)).trans hm
  have hp := hp.kept fm (by omega)
  have ho := (fm _ (by omega)).trans ho
  have hx := (fm _ (by omega)).trans hx
  have ft := ft.tr (fm.mono (lo' := x) (hi' := x + 23) (by omega) (by omega))
  clear eh9
  refine V_putF (pc' := 82) (fs' := [_, _, _, _, _, _, _, _, _, _, _, _, _]) (ty0 := tyX7) hX dX7_init_79 (hnm.trans rfl) hx rfl inX7 tyX7_ok nmX7 7 (by decide) wF_X7_48 rfl rfl (tyX7_ok 7 (by decide)) rfl rfl (Nat.le_of_ble_eq_true rfl) rfl rfl ?_
  refine V.gen (fun hn14 ehN => ?_)
  have fp := fr.of_up ehN
  have hx := up_at ehN
  have ft := ft.tr (fp.mono (lo' := x) (hi' := x + 23) (by omega) (by omega))
  have hsa := (fp _ (by omega)).trans hsa
  have hF := hF.kept fp (by omega)
  have hT := hT.kept fp (by omega)
  have hm := (fp _ (by omega)).trans hm
  have hp := hp.kept fp (by omega)
  have ho := (fp _ (by omega)).trans ho
  have hbg := (fp _ (by omega)).trans hbg
  clear ehN
  refine V_aload_n (pc' := 83) hX dX7_init_82 rfl rfl ?_
  refine V_iconst (pc' := 84) (v := nI 5) hX dX7_init_83 (by decide) rfl ?_
  refine V_newIN (pc' := 86) hX dX7_init_84 (by omega) (by omega) (by omega) rfl ?_
  refine V.eqz (z' := x + 15) (by omega) ?_
  refine V.gen (fun hm15 eh9 => ?_)
  have fm := fr.of_up eh9
  have hta := up_at eh9
  have hsa := (fm _ (by omega)).trans hsa
  have hF := hF.kept fm (by omega)
  have hT := hT.kept fm (by omega)
  have hm := (fm _ (by omega)).trans hm
  have hp := hp.kept fm (by omega)
  have ho := (fm _ (by omega)).trans ho
  have hbg := (fm _ (by omega)).trans hbg
  have hx := (fm _ (by omega)).trans hx
  have ft := ft.tr (fm.mono (lo' := x) (hi' := x + 23) (by omega) (by omega))
  clear eh9
  refine V_putF (pc' := 89) (fs' := [_, _, _, _, _, _, _, _, _, _, _, _, _]) (ty0 := tyX7) hX dX7_init_86 (hnm.trans rfl) hx rfl inX7 tyX7_ok nmX7 8 (by decide) wF_X7_52 rfl rfl (tyX7_ok 8 (by decide)) rfl rfl (Nat.le_of_ble_eq_true rfl) rfl rfl ?_
  refine V.gen (fun hn16 ehN => ?_)
  have fp := fr.of_up ehN
  have hx := up_at ehN
  have ft := ft.tr (fp.mono (lo' := x) (hi' := x + 23) (by omega) (by omega))
  have hsa := (fp _ (by omega)).trans hsa
  have hF := hF.kept fp (by omega)
  have hT := hT.kept fp (by omega)
  have hm := (fp _ (by omega)).trans hm
  have hp := hp.kept fp (by omega)
  have ho := (fp _ (by omega)).trans ho
  have hbg := (fp _ (by omega)).trans hbg
  have hta := (fp _ (by omega)).trans hta
  clear ehN
  refine V_aload_n (pc' := 90) hX dX7_init_89 rfl rfl ?_
  refine V_new (pc' := 93) (ci := 0) (ty0 := tyX0) (fs := [.null, .null, .null, .null, .null, .int 0]) hX dX7_init_90 rfl inX0 tyX0_ok wE_X7_55 wB_X0 wN_X0 (fun j hj => by rcases (show j = 0 ∨ j = 1 ∨ j = 2 ∨ j = 3 ∨ j = 4 ∨ j = 5 by omega) with rfl | rfl | rfl | rfl | rfl | rfl <;> rfl) (by omega) (by omega) rfl ?_
  refine V_dup (pc' := 94) hX dX7_init_93 rfl rfl ?_
  refine V_callIN (nA := 0) (pc' := 97) (k' := 20) (n' := 9766) hX dX7_init_94 (c_Kp_init (c := x + 15) hup_s rfl) wMn_X7_57 wI_X0_init wN_X0 wC_X0_init rfl hy_X0_init rfl (Nat.le_of_ble_eq_true rfl) (by decide) (by omega) rfl rfl (by omega) rfl (by omega) rfl ?_
  rintro _ z9 hm17 ⟨rfl, ez, q1, q2⟩
  have ez : z9 = x + 21 := by omega
  subst ez
  have hk := q1
  have fm : fr (x + 15) (x + 21) hn16 hm17 := fun q9 hq9 => (q2 q9 hq9).trans (hup_n (by omega))
  have hsa := (fm _ (by omega)).trans hsa
  have hF := hF.kept fm (by omega)
  have hT := hT.kept fm (by omega)
  have hm := (fm _ (by omega)).trans hm
  have hp := hp.kept fm (by omega)
  have ho := (fm _ (by omega)).trans ho
  have hbg := (fm _ (by omega)).trans hbg
  have hta := (fm _ (by omega)).trans hta
  have hx := (fm _ (by omega)).trans hx
  have ft := ft.tr (fm.mono (lo' := x) (hi' := x + 23) (by omega) (by omega))
  refine V.stk (st' := [_, _]) rfl ?_
  refine V_putF (pc' := 100) (fs' := [_, _, _, _, _, _, _, _, _, _, _, _, _]) (ty0 := tyX7) hX dX7_init_97 (hnm.trans rfl) hx rfl inX7 tyX7_ok nmX7 10 (by decide) wF_X7_58 rfl rfl (tyX7_ok 10 (by decide)) rfl rfl (Nat.le_of_ble_eq_true rfl) rfl rfl ?_
  refine V.gen (fun hn18 ehN => ?_)
  have fp := fr.of_up ehN
  have hx := up_at ehN
  have ft := ft.tr (fp.mono (lo' := x) (hi' := x + 23) (by omega) (by omega))
  have hsa := (fp _ (by omega)).trans hsa
  have hF := hF.kept fp (by omega)
  have hT := hT.kept fp (by omega)
  have hm := (fp _ (by omega)).trans hm
  have hp := hp.kept fp (by omega)
  have ho := (fp _ (by omega)).trans ho
  have hbg := (fp _ (by omega)).trans hbg
  have hta := (fp _ (by omega)).trans hta
  have hk := hk.kept fp (by omega)
  clear ehN
  refine V_aload_n (pc' := 101) hX dX7_init_100 rfl rfl ?_
  refine V_new (pc' := 104) (ci := 2) (ty0 := tyX2) (fs := [.null, .long 0]) hX dX7_init_101 rfl inX2 tyX2_ok wE_X7_62 wB_X2 wN_X2 (fun j hj => by rcases (show j = 0 ∨ j = 1 by omega) with rfl | rfl <;> rfl) (by omega) (by omega) rfl ?_
  refine V_dup (pc' := 105) hX dX7_init_104 rfl rfl ?_
  refine V_callIN (nA := 0) (pc' := 108) (k' := 22) (n' := 9828) hX dX7_init_105 (c_Nt_init (a := x + 21) hup_s rfl) wMn_X7_64 wI_X2_init wN_X2 wC_X2_init rfl hy_X2_init rfl (Nat.le_of_ble_eq_true rfl) (by decide) (by omega) rfl rfl (by omega) rfl (by omega) rfl ?_
  rintro _ z9 hm19 ⟨rfl, ez, q1, q2⟩
  have ez : z9 = x + 23 := by omega
  subst ez
  have hn := q1
  have fm : fr (x + 21) (x + 23) hn18 hm19 := fun q9 hq9 => (q2 q9 hq9).trans (hup_n (by omega))
  have hsa := (fm _ (by omega)).trans hsa
  have hF := hF.kept fm (by omega)
  have hT := hT.kept fm (by omega)
  have hm := (fm _ (by omega)).trans hm
  have hp := hp.kept fm (by omega)
  have ho := (fm _ (by omega)).trans ho
  have hbg := (fm _ (by omega)).trans hbg
  have hta := (fm _ (by omega)).trans hta
  have hk := hk.kept fm (by omega)
  have hx := (fm _ (by omega)).trans hx
  have ft := ft.tr (fm.mono (lo' := x) (hi' := x + 23) (by omega) (by omega))
  refine V.stk (st' := [_, _]) rfl ?_
  refine V_putF (pc' := 111) (fs' := [_, _, _, _, _, _, _, _, _, _, _, _, _]) (ty0 := tyX7) hX dX7_init_108 (hnm.trans rfl) hx rfl inX7 tyX7_ok nmX7 11 (by decide) wF_X7_65 rfl rfl (tyX7_ok 11 (by decide)) rfl rfl (Nat.le_of_ble_eq_true rfl) rfl rfl ?_
  refine V.gen (fun hn20 ehN => ?_)
  have fp := fr.of_up ehN
  have hx := up_at ehN
  have ft := ft.tr (fp.mono (lo' := x) (hi' := x + 23) (by omega) (by omega))
  have hsa := (fp _ (by omega)).trans hsa
  have hF := hF.kept fp (by omega)
  have hT := hT.kept fp (by omega)
  have hm := (fp _ (by omega)).trans hm
  have hp := hp.kept fp (by omega)
  have ho := (fp _ (by omega)).trans ho
  have hbg := (fp _ (by omega)).trans hbg
  have hta := (fp _ (by omega)).trans hta
  have hk := hk.kept fp (by omega)
  have hn := hn.kept fp (by omega)
  clear ehN
  refine V.widen (k' := 22) (n' := 9828) (by omega) (by omega) ?_
  refine V_vret hX hR dX7_init_111 ?_
  refine ⟨rfl, rfl, ft, ⟨hx, hsa⟩, ⟨hF, by omega, by omega, fun j hj => by omega, fun i j _ hj => by omega⟩, ⟨hT, by omega, by omega, fun j hj => by omega, fun i j _ hj => by omega⟩, ⟨hm, by unfold mOk; omega⟩, ⟨⟨_, hp⟩, by omega, fun j hj => by omega⟩, ⟨_, _, _, ho⟩, ⟨_, hbg⟩, hta, ⟨⟨_, _, hk⟩, by omega⟩, ⟨hn, fun j _ => Nat.two_pow_pos 60, Nat.two_pow_pos 60⟩, ⟨fun r q9 e => (nomatch e), fun r s q1 q2 e => (nomatch e)⟩, by omega, fun r _ => rfl, by omega, Nat.two_pow_pos 60⟩
