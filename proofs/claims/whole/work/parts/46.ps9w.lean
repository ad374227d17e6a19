set_option maxRecDepth 100000 in
set_option maxHeartbeats 4000000 in
theorem c_PS_rank {G : Gd} {h : AH} {z x : Nat} {mk : Nat} {sa : Nat → Option Nat} {L : Nat → List Nat} {F : Nat → Nat} {W : Nat → Nat} {fn : Nat → Nat} {fv : Nat → Nat} {fs : Nat} {tn : Nat → Nat} {tv : Nat → Nat} {ts : Nat} {kd : Nat} {p : Nat} {q : Nat} {bf : Nat → Nat} {len : Nat} {ta : Nat → Nat} {sp : Nat} {f1 : Nat → Nat} {f2 : Nat → Nat} {f3 : Nat → Nat} {ks : Nat} {ff : Nat → Nat} {fg : Nat} {co : Nat} {K : List (Nat × Nat)} {ab0 bw0 : Nat → Nat} (r s n q1 q2 : Nat) (hr : r < 60) (hs60 : s < 60) (hs1 : sa r = some q1) (hs2 : sa s = some q2) (hn1 : 1 ≤ n) (hn100 : n ≤ 100) (hk0 : kpAt G h (x + 15) f1 f2 f3 ab0 bw0 ks) (hkt : ktOk (shE W L) K f1 f2 f3 ks) (hlk : lkOk kd W L K ab0 bw0) (hti : topI kd W L n K) (hP : psAt G h z x mk sa L (fun _ => F) (fun _ => W) fn fv fs tn tv ts kd p q bf len ta sp f1 f2 f3 ks ff fg co) : Ct G yX7_rank cX7_rank 12 none 4 0 0 [.ref x, .int (nI r), .int (nI s), .int (nI n)] z h (fun r' z' h' => r' = none ∧ z' = z ∧ frO x z sa h h' ∧ ∃ g1 g2 g3 ab' bw' ks', kpAt G h' (x + 15) g1 g2 g3 ab' bw' ks' ∧ ktOk (shE W L) (topS kd W L n K (r, s)) g1 g2 g3 ks' ∧ lkOk kd W L (topS kd W L n K (r, s)) ab' bw' ∧ topI kd W L n (topS kd W L n K (r, s)) ∧ psAt G h' z x mk sa L (fun _ => F) (fun _ => W) fn fv fs tn tv ts kd p q bf len ta sp (g1) (g2) (g3) (ks') ff fg co) := by
  refine Ct.of (lv := [_, _, _, _, _, _, _, _, _, _, _, _]) (by decide) (Nat.le_of_ble_eq_true rfl) rfl ?_
  rintro X rfl hX hR hnm
  obtain ⟨hkl, hkt2⟩ := id hkt
  subst hkl
  have hKn := hti.1
  obtain ⟨⟨hx, hsa⟩, ⟨hF, hFO⟩, ⟨hT, hTO⟩, ⟨hm, hM⟩, ⟨⟨nf, hp⟩, hPO⟩, ⟨s0, s1, s2, ho⟩, ⟨bg, hbg⟩, hta, ⟨⟨ab, bw, hk⟩, hks⟩, ⟨hn, hnO⟩, hS, hmk, hnone, hxz, hco⟩ := id hP
  obtain ⟨hsN1, hqa1, hqb1⟩ := hS.1 r q1 hs1
  obtain ⟨hv1, kf1, wf1, am1, hns1, hO1, hkw1, hw1⟩ := id hsN1
  have ea1 := ns_am hO1 hkw1
  have oa1 := hO1.am
  obtain ⟨hsN2, hqa2, hqb2⟩ := hS.1 s q2 hs2
  obtain ⟨hv2, kf2, wf2, am2, hns2, hO2, hkw2, hw2⟩ := id hsN2
  have ea2 := ns_am hO2 hkw2
  have oa2 := hO2.am
  refine V_aload_n (pc' := 1) hX dX7_rank_0 rfl rfl ?_
  refine V_get (pc' := 4) hX dX7_rank_1 hx rfl inX7 0 (by decide) wF_X7_11 rfl rfl ?_
  refine V_iload_n (pc' := 5) hX dX7_rank_4 rfl rfl ?_
  refine V_aaldN (pc' := 6) (v := .ref q1) hX dX7_rank_5 hsa (by omega) (by omega) (by rw [hs1]; rfl) rfl ?_
  refine V_astore (pc' := 8) (lv' := [_, _, _, _, _, _, _, _, _, _, _, _]) hX dX7_rank_6 (Nat.le_of_ble_eq_true rfl) rfl rfl ?_
  refine V_aload_n (pc' := 9) hX dX7_rank_8 rfl rfl ?_
  refine V_get (pc' := 12) hX dX7_rank_9 hx rfl inX7 0 (by decide) wF_X7_11 rfl rfl ?_
  refine V_iload_n (pc' := 13) hX dX7_rank_12 rfl rfl ?_
  refine V_aaldN (pc' := 14) (v := .ref q2) hX dX7_rank_13 hsa (by omega) (by omega) (by rw [hs2]; rfl) rfl ?_
  refine V_astore (pc' := 16) (lv' := [_, _, _, _, _, _, _, _, _, _, _, _]) hX dX7_rank_14 (Nat.le_of_ble_eq_true rfl) rfl rfl ?_
  refine V_aload_n (pc' := 17) hX dX7_rank_16 rfl rfl ?_
  refine V_get (pc' := 20) hX dX7_rank_17 hx rfl inX7 6 (by decide) wF_X7_44 rfl rfl ?_
  refine V_aload (pc' := 22) hX dX7_rank_20 rfl rfl ?_
  refine V_iconst (pc' := 23) (v := nI 0) hX dX7_rank_22 (by decide) rfl ?_
  refine V_aload (pc' := 25) hX dX7_rank_23 rfl rfl ?_
  refine V_iconst (pc' := 26) (v := nI 0) hX dX7_rank_25 (by decide) rfl ?_
  refine V_callV (nA := 4) (pc' := 29) (k' := 0) (n' := 0) hX dX7_rank_26 (c_Ov_compare 0 0 (Nat.zero_le _) (Nat.zero_le _) ho (by omega) (by omega) hns1 hO1 hns2 hO2 hw1) ho rfl wM_X7_180 wI_X4_compare wL_X4_compare wN_X4 wC_X4_compare rfl hy_X4_compare rfl (Nat.le_of_ble_eq_true rfl) (by decide) (by omega) rfl rfl (by omega) rfl (by omega) rfl ?_
  rintro _ z h' ⟨rfl, rfl, q1f, mb, q2, q3⟩
  have hP0 := hP
  have hP := hP.uO q2 q1f
  have hns1 := hns1.kept q1f (by omega)
  have hns2 := hns2.kept q1f (by omega)
  rw [ns_sh hv1 hv2 hkw1 hkw2] at q2
  have hk0 := hk0.kept q1f (by omega)
  obtain ⟨⟨hx, hsa⟩, ⟨hF, hFO⟩, ⟨hT, hTO⟩, ⟨hm, hM⟩, ⟨⟨nf, hp⟩, hPO⟩, ⟨s0, s1, s2, ho⟩, ⟨bg, hbg⟩, hta, ⟨⟨ab, bw, hk⟩, hks⟩, ⟨hn, hnO⟩, hS, hmk, hnone, hxz, hco⟩ := id hP
  have hshl := shL_le W (L r) (L s)
  have hpos := shL_pos (w := W) (L := L r) (M := L s)
  rw [← ea2] at hpos
  obtain ⟨sh, esh⟩ : ∃ sh, sh = shL W (L r) (L s) := ⟨_, rfl⟩
  rw [← esh] at q2 hshl hpos
  have l3 := aboveN_bd (kd := kd) (s := sh) (by omega)
  have l4 := belowN_bd (kd := kd) (a := am1) (b := am2) (s := sh) (by omega) (by omega)
  have l5 := belowN_pos2 (kd := kd) (a := am1) (b := am2) (s := sh) (by omega) hpos
  have eA : abE kd W L (r, s) = aboveN kd sh := by
    show aboveN kd (shL W (L r) (L s)) = _
    rw [← esh]
  have eB : blE kd W L (r, s) = belowN kd am1 am2 sh := by
    show belowN kd (amL W (L r)) (amL W (L s)) (shL W (L r) (L s)) = _
    rw [← esh, ← ea1, ← ea2]
  have eS : shE W L (r, s) = sh := esh.symm
  rw [← eA] at l3
  rw [← eB] at l4 l5
  have hgd : gdE kd W L (r, s) := ⟨l5, l3, l4⟩
  refine V.stk (st' := []) rfl ?_
  refine V_aload_n (pc' := 30) hX dX7_rank_29 rfl rfl ?_
  refine V_get (pc' := 33) hX dX7_rank_30 hx rfl inX7 6 (by decide) wF_X7_44 rfl rfl ?_
  refine V_getN (pc' := 36) hX dX7_rank_33 q2 rfl inX4 0 (by decide) wFn_X7_184 rfl rfl ?_
  refine V_istore (pc' := 38) (lv' := [_, _, _, _, _, _, _, _, _, _, _, _]) hX dX7_rank_36 (Nat.le_of_ble_eq_true rfl) rfl rfl ?_
  refine V_iload (pc' := 40) hX dX7_rank_38 rfl rfl ?_
  refine V_if_leN (pt := 146) (pc' := 43) hX dX7_rank_40 (by omega) rfl rfl (fun c40 => ?_) (fun c40 => ?_)
  · refine V_vret hX hR dX7_rank_146 ?_
    have he : shE W L (r, s) = 0 := by omega
    have ek : topS kd W L n K (r, s) = K := topI.skip he
    rw [ek]
    exact ⟨rfl, rfl, frO.of q1f (by omega) (by omega), f1, f2, f3, ab0, bw0, K.length, hk0, hkt, hlk, hti, hP⟩
  · refine V_aload_n (pc' := 44) hX dX7_rank_43 rfl rfl ?_
    refine V_get (pc' := 47) hX dX7_rank_44 hx rfl inX7 4 (by decide) wF_X7_30 rfl rfl ?_
    refine V_iload (pc' := 49) hX dX7_rank_47 rfl rfl ?_
    refine V_i2lN (pc' := 50) hX dX7_rank_49 (by omega) rfl ?_
    refine V_aload (pc' := 52) hX dX7_rank_50 rfl rfl ?_
    refine V_getN (pc' := 55) hX dX7_rank_52 hns1.1 rfl inX3 3 (by decide) wFn_X7_150 rfl rfl ?_
    refine V_i2lN (pc' := 56) hX dX7_rank_55 (by omega) rfl ?_
    refine V_aload (pc' := 58) hX dX7_rank_56 rfl rfl ?_
    refine V_getN (pc' := 61) hX dX7_rank_58 hns2.1 rfl inX3 3 (by decide) wFn_X7_150 rfl rfl ?_
    refine V_i2lN (pc' := 62) hX dX7_rank_61 (by omega) rfl ?_
    refine V_callV (nA := 3) (pc' := 65) (k' := 0) (n' := 0) hX dX7_rank_62 (c_Ms_above sh am1 am2 hm hM) hm rfl wM_X7_187 wI_X1_likenessAbove wL_X1_likenessAbove wN_X1 wC_X1_likenessAbove rfl hy_X1_likenessAbove rfl (Nat.le_of_ble_eq_true rfl) (by decide) (by omega) rfl rfl (by omega) rfl (by omega) rfl ?_
    rintro _ z h' ⟨rfl, rfl, rfl⟩
    rw [← eA]
    refine V.stk (st' := [_]) rfl ?_
    refine V_lstore (pc' := 67) (lv' := [_, _, _, _, _, _, _, _, _, _, _, _]) hX dX7_rank_65 (Nat.le_of_ble_eq_true rfl) rfl rfl ?_
    refine V_aload_n (pc' := 68) hX dX7_rank_67 rfl rfl ?_
    refine V_get (pc' := 71) hX dX7_rank_68 hx rfl inX7 4 (by decide) wF_X7_30 rfl rfl ?_
    refine V_iload (pc' := 73) hX dX7_rank_71 rfl rfl ?_
    refine V_i2lN (pc' := 74) hX dX7_rank_73 (by omega) rfl ?_
    refine V_aload (pc' := 76) hX dX7_rank_74 rfl rfl ?_
    refine V_getN (pc' := 79) hX dX7_rank_76 hns1.1 rfl inX3 3 (by decide) wFn_X7_150 rfl rfl ?_
    refine V_i2lN (pc' := 80) hX dX7_rank_79 (by omega) rfl ?_
    refine V_aload (pc' := 82) hX dX7_rank_80 rfl rfl ?_
    refine V_getN (pc' := 85) hX dX7_rank_82 hns2.1 rfl inX3 3 (by decide) wFn_X7_150 rfl rfl ?_
    refine V_i2lN (pc' := 86) hX dX7_rank_85 (by omega) rfl ?_
    refine V_callV (nA := 3) (pc' := 89) (k' := 0) (n' := 0) hX dX7_rank_86 (c_Ms_below sh am1 am2 (by omega) (by omega) (by omega) hm hM) hm rfl wM_X7_191 wI_X1_likenessBelow wL_X1_likenessBelow wN_X1 wC_X1_likenessBelow rfl hy_X1_likenessBelow rfl (Nat.le_of_ble_eq_true rfl) (by decide) (by omega) rfl rfl (by omega) rfl (by omega) rfl ?_
    rintro _ z h' ⟨rfl, rfl, rfl⟩
    rw [← eB]
    refine V.stk (st' := [_]) rfl ?_
    refine V_lstore (pc' := 91) (lv' := [_, _, _, _, _, _, _, _, _, _, _, _]) hX dX7_rank_89 (Nat.le_of_ble_eq_true rfl) rfl rfl ?_
    refine V_aload_n (pc' := 92) hX dX7_rank_91 rfl rfl ?_
    refine V_get (pc' := 95) hX dX7_rank_92 hx rfl inX7 10 (by decide) wF_X7_58 rfl rfl ?_
    refine V_lload (pc' := 97) hX dX7_rank_95 rfl rfl ?_
    refine V_lload (pc' := 99) hX dX7_rank_97 rfl rfl ?_
    refine V_callV (nA := 2) (pc' := 102) (k' := 0) (n' := 0) hX dX7_rank_99 (c_Kp_placeFor (abE kd W L (r, s)) (blE kd W L (r, s)) l3 l4 (by omega) (fun j hj => by rw [(hlk j hj).1, (hlk j hj).2]; exact (hti.2.2 _ (getDG_mem hj)).2) (fun i j hij hj => by rw [(hlk j hj).1, (hlk j hj).2, (hlk i (by omega)).1, (hlk i (by omega)).2]; exact fun hle => leE_tr (hti.2.2 _ (getDG_mem hj)) hle (hti.2.1 i j hij hj)) hk0) hk.1 rfl wM_X7_296 wI_X0_placeFor wL_X0_placeFor wN_X0 wC_X0_placeFor rfl hy_X0_placeFor rfl (Nat.le_of_ble_eq_true rfl) (by decide) (by omega) rfl rfl (by omega) rfl (by omega) rfl ?_
    rintro _ z h' ⟨pl, rfl, rfl, rfl, p1, p2, p3⟩
    have p2 : ∀ j, j < pl → leE kd W L (r, s) (K.getD j (0, 0)) := fun j hj => by
      have := p2 j hj
      rw [(hlk j (by omega)).1, (hlk j (by omega)).2] at this
      exact this
    have p3 : ∀ j, pl ≤ j → j < K.length → lkE kd W L (r, s) (K.getD j (0, 0)) = true := fun j hj1 hj => by
      have := p3 j hj1 hj
      rw [(hlk j hj).1, (hlk j hj).2] at this
      exact decide_eq_true this
    have ht := hti.ins hgd (by omega) p1 p2 p3
    refine V.stk (st' := [_]) rfl ?_
    refine V_istore (pc' := 104) (lv' := [_, _, _, _, _, _, _, _, _, _, _, _]) hX dX7_rank_102 (Nat.le_of_ble_eq_true rfl) rfl rfl ?_
    refine V_iload (pc' := 106) hX dX7_rank_104 rfl rfl ?_
    refine V_iload_n (pc' := 107) hX dX7_rank_106 rfl rfl ?_
    refine V_icmp_geN (pt := 146) (pc' := 110) hX dX7_rank_107 (by omega) (by omega) rfl rfl (fun c107 => ?_) (fun c107 => ?_)
    · refine V_vret hX hR dX7_rank_146 ?_
      have en : pl = n := by omega
      have ek : topS kd W L n K (r, s) = K := by
        rw [ht.1, en]
        exact top_full (by omega)
      rw [ek]
      exact ⟨rfl, rfl, frO.of q1f (by omega) (by omega), f1, f2, f3, ab0, bw0, K.length, hk0, hkt, hlk, hti, hP⟩
    · refine V_aload_n (pc' := 111) hX dX7_rank_110 rfl rfl ?_
      refine V_get (pc' := 114) hX dX7_rank_111 hx rfl inX7 10 (by decide) wF_X7_58 rfl rfl ?_
      refine V_iload (pc' := 116) hX dX7_rank_114 rfl rfl ?_
      refine V_iload_n (pc' := 117) hX dX7_rank_116 rfl rfl ?_
      refine V_callV (nA := 2) (pc' := 120) (k' := 0) (n' := 0) hX dX7_rank_117 (c_Kp_makeRoom pl n p1 (by omega) hn100 hKn hk0) hk.1 rfl wM_X7_300 wI_X0_makeRoom wL_X0_makeRoom wN_X0 wC_X0_makeRoom rfl hy_X0_makeRoom rfl (Nat.le_of_ble_eq_true rfl) (by decide) (by omega) rfl rfl (by omega) rfl (by omega) rfl ?_
      rintro _ z h2 ⟨rfl, rfl, m1, m2⟩
      have hP2 := hP.uK m1 (by omega) m2
      have hx := (m2 _ (by omega)).trans hx
      refine V.stk (st' := []) rfl ?_
      refine V_aload_n (pc' := 121) hX dX7_rank_120 rfl rfl ?_
      refine V_get (pc' := 124) hX dX7_rank_121 hx rfl inX7 10 (by decide) wF_X7_58 rfl rfl ?_
      refine V_iload (pc' := 126) hX dX7_rank_124 rfl rfl ?_
      refine V_iload_n (pc' := 127) hX dX7_rank_126 rfl rfl ?_
      refine V_iload_n (pc' := 128) hX dX7_rank_127 rfl rfl ?_
      refine V_iload (pc' := 130) hX dX7_rank_128 rfl rfl ?_
      refine V_callV (nA := 4) (pc' := 133) (k' := 0) (n' := 0) hX dX7_rank_130 (c_Kp_set pl r s sh (by omega) (by omega) m1) m1.1 rfl wM_X7_303 wI_X0_set wL_X0_set wN_X0 wC_X0_set rfl hy_X0_set rfl (Nat.le_of_ble_eq_true rfl) (by decide) (by omega) rfl rfl (by omega) rfl (by omega) rfl ?_
      rintro _ z h3 ⟨rfl, rfl, n1, n2⟩
      have hP3 := hP2.uK n1 (by omega) n2
      have hx := (n2 _ (by omega)).trans hx
      refine V.stk (st' := []) rfl ?_
      refine V_aload_n (pc' := 134) hX dX7_rank_133 rfl rfl ?_
      refine V_get (pc' := 137) hX dX7_rank_134 hx rfl inX7 10 (by decide) wF_X7_58 rfl rfl ?_
      refine V_iload (pc' := 139) hX dX7_rank_137 rfl rfl ?_
      refine V_lload (pc' := 141) hX dX7_rank_139 rfl rfl ?_
      refine V_lload (pc' := 143) hX dX7_rank_141 rfl rfl ?_
      refine V_callV (nA := 3) (pc' := 146) (k' := 0) (n' := 0) hX dX7_rank_143 (c_Kp_setLikeness pl (abE kd W L (r, s)) (blE kd W L (r, s)) (by omega) n1) n1.1 rfl wM_X7_307 wI_X0_setLikeness wL_X0_setLikeness wN_X0 wC_X0_setLikeness rfl hy_X0_setLikeness rfl (Nat.le_of_ble_eq_true rfl) (by decide) (by omega) rfl rfl (by omega) rfl (by omega) rfl ?_
      rintro _ z h4 ⟨rfl, rfl, o1, o2⟩
      have hP4 := hP3.uK o1 (by omega) o2
      refine V.stk (st' := []) rfl ?_
      refine V_vret hX hR dX7_rank_146 ?_
      have w1 := top_rows (e := (r, s)) (g := Prod.fst) p1 (by omega) hKn (fun j hj => (hkt2 j hj).1)
      have w2 := top_rows (e := (r, s)) (g := Prod.snd) p1 (by omega) hKn (fun j hj => (hkt2 j hj).2.1)
      have w3 := top_rows (e := (r, s)) (g := shE W L) p1 (by omega) hKn (fun j hj => (hkt2 j hj).2.2)
      have w4 := top_rows (e := (r, s)) (g := abE kd W L) p1 (by omega) hKn (fun j hj => (hlk j hj).1)
      have w5 := top_rows (e := (r, s)) (g := blE kd W L) p1 (by omega) hKn (fun j hj => (hlk j hj).2)
      rw [eS] at w3
      rw [← ht.1] at w1 w2 w3 w4 w5
      exact ⟨rfl, rfl, ((frO.of q1f (by omega) (by omega)).tr (frO.of m2 (by omega) (by omega))).tr ((frO.of n2 (by omega) (by omega)).tr (frO.of o2 (by omega) (by omega))), _, _, _, _, _, _, o1, ⟨w1.1.symm, fun j hj => ⟨w1.2 j hj, w2.2 j hj, w3.2 j hj⟩⟩, fun j hj => ⟨w4.2 j (by rw [← w1.1]; exact hj), w5.2 j (by rw [← w1.1]; exact hj)⟩, ht.2, hP4⟩
set_option maxRecDepth 100000 in
set_option maxHeartbeats 4000000 in
theorem c_PS_top {G : Gd} {h : AH} {z x : Nat} {mk : Nat} {sa : Nat → Option Nat} {L : Nat → List Nat} {F : Nat → Nat} {W : Nat → Nat} {fn : Nat → Nat} {fv : Nat → Nat} {fs : Nat} {tn : Nat → Nat} {tv : Nat → Nat} {ts : Nat} {kd : Nat} {p : Nat} {q : Nat} {bf : Nat → Nat} {len : Nat} {ta : Nat → Nat} {sp : Nat} {f1 : Nat → Nat} {f2 : Nat → Nat} {f3 : Nat → Nat} {ks : Nat} {ff : Nat → Nat} {fg : Nat} {co : Nat} (nv : Int32) (hP : psAt G h z x mk sa L (fun _ => F) (fun _ => W) fn fv fs tn tv ts kd p q bf len ta sp f1 f2 f3 ks ff fg co) : Ct G yX7_top cX7_top 4 (some .int) 5 0 0 [.ref x, .int nv] z h (fun r' z' h' => z' = z ∧ frO x z sa h h' ∧ ((¬ (1 ≤ nv.toInt ∧ nv.toInt ≤ 100) ∧ r' = some (.int (-1)) ∧ h' = h) ∨ ∃ n g1 g2 g3 ks', nv = nI n ∧ 1 ≤ n ∧ n ≤ 100 ∧ ktOk (shE W L) (topA kd W L n (prL (al sa) mk mk)) g1 g2 g3 ks' ∧ r' = some (.int (nI ks')) ∧ psAt G h' z x mk sa L (fun _ => F) (fun _ => W) fn fv fs tn tv ts kd p q bf len ta sp (g1) (g2) (g3) (ks') ff fg co)) := by
  refine Ct.of (lv := [_, _, _, _]) (by decide) (Nat.le_of_ble_eq_true rfl) rfl ?_
  rintro X rfl hX hR hnm
  obtain ⟨⟨hx, hsa⟩, ⟨hF, hFO⟩, ⟨hT, hTO⟩, ⟨hm, hM⟩, ⟨⟨nf, hp⟩, hPO⟩, ⟨s0, s1, s2, ho⟩, ⟨bg, hbg⟩, hta, ⟨⟨ab, bw, hk⟩, hks⟩, ⟨hn, hnO⟩, hS, hmk, hnone, hxz, hco⟩ := id hP
  refine V_iload_n (pc' := 1) hX dX7_top_0 rfl rfl ?_
  refine V_iconst (pc' := 2) (v := nI 1) hX dX7_top_1 (by decide) rfl ?_
  refine V_icmp_lt (pt := 11) (pc' := 5) hX dX7_top_2 rfl rfl (fun c2 => ?_) (fun c2 => ?_)
  · have hc : nv.toInt < 1 := i32_lt.mp c2
    refine V_iconst (pc' := 12) (v := (-1)) hX dX7_top_11 (by decide) rfl ?_
    refine V_iret hX hR dX7_top_12 ?_
    exact ⟨rfl, frO.rf, Or.inl ⟨by omega, rfl, rfl⟩⟩
  · have hc : ¬ nv.toInt < 1 := fun e => c2 (i32_lt.mpr e)
    refine V_iload_n (pc' := 6) hX dX7_top_5 rfl rfl ?_
    refine V_bipush (pc' := 8) (v := nI 100) hX dX7_top_6 (by decide) rfl ?_
    refine V_icmp_le (pt := 13) (pc' := 11) hX dX7_top_8 rfl rfl (fun c8 => ?_) (fun c8 => ?_)
    · have hd : nv.toInt ≤ 100 := i32_le.mp c8
      obtain ⟨n, hn31, rfl⟩ := nI_of (x := nv) (by rw [i32_lt]; show ¬ _ < (0 : Int); omega)
      rw [nI_toInt hn31] at hc hd
      refine V_aload_n (pc' := 14) hX dX7_top_13 rfl rfl ?_
      refine V_get (pc' := 17) hX dX7_top_14 hx rfl inX7 10 (by decide) wF_X7_58 rfl rfl ?_
      refine V_callV (nA := 0) (pc' := 20) (k' := 0) (n' := 0) hX dX7_top_17 (c_Kp_clear hk) hk.1 rfl wM_X7_232 wI_X0_clear wL_X0_clear wN_X0 wC_X0_clear rfl hy_X0_clear rfl (Nat.le_of_ble_eq_true rfl) (by decide) (by omega) rfl rfl (by omega) rfl (by omega) rfl ?_
      rintro _ z h1 ⟨rfl, rfl, g1, g2⟩
      have hP1 := hP.uK g1 (by omega) g2
      refine V.stk (st' := []) rfl ?_
      refine V_iconst (pc' := 21) (v := nI 0) hX dX7_top_20 (by decide) rfl ?_
      refine V_istore_n (pc' := 22) (lv' := [_, _, _, _]) hX dX7_top_21 (Nat.le_of_ble_eq_true rfl) rfl rfl ?_
      have lp : ∀ (μ i : Nat) (h2 : AH) (k1 k2 k3 ab2 bw2 : Nat → Nat) (ks2 : Nat), i ≤ mk → kpAt X.G h2 (x + 15) k1 k2 k3 ab2 bw2 ks2 → ktOk (shE W L) (topA kd W L n (prL (al sa) mk i)) k1 k2 k3 ks2 → lkOk kd W L (topA kd W L n (prL (al sa) mk i)) ab2 bw2 → topI kd W L n (topA kd W L n (prL (al sa) mk i)) → frO x z sa h h2 → psAt X.G h2 z x mk sa L (fun _ => F) (fun _ => W) fn fv fs tn tv ts kd p q bf len ta sp (k1) (k2) (k3) (ks2) ff fg co → mk - i < μ → V X 0 0 z h2 22 [some (.ref x), some (.int (nI n)), some (.int (nI i)), none] [] := by
        intro μ
        induction μ with
        | zero => intros; omega
        | succ μ ih =>
          intro i h2 k1 k2 k3 ab2 bw2 ks2 b1 b2 b3 b4 b5 b6 hP b7
          obtain ⟨⟨hx, hsa⟩, ⟨hF, hFO⟩, ⟨hT, hTO⟩, ⟨hm, hM⟩, ⟨⟨nf, hp⟩, hPO⟩, ⟨s0, s1, s2, ho⟩, ⟨bg, hbg⟩, hta, ⟨⟨ab, bw, hk⟩, hks⟩, ⟨hn, hnO⟩, hS, hmk, hnone, hxz, hco⟩ := id hP
          refine V_iload_n (pc' := 23) hX dX7_top_22 rfl rfl ?_
          refine V_aload_n (pc' := 24) hX dX7_top_23 rfl rfl ?_
          refine V_get (pc' := 27) hX dX7_top_24 hx rfl inX7 1 (by decide) wF_X7_69 rfl rfl ?_
          refine V_icmp_geN (pt := 79) (pc' := 30) hX dX7_top_27 (by omega) (by omega) rfl rfl (fun c27 => ?_) (fun c27 => ?_)
          · refine V_aload_n (pc' := 80) hX dX7_top_79 rfl rfl ?_
            refine V_get (pc' := 83) hX dX7_top_80 hx rfl inX7 10 (by decide) wF_X7_58 rfl rfl ?_
            refine V_getN (pc' := 86) hX dX7_top_83 b2.1 rfl inX0 5 (by decide) wFn_X7_216 rfl rfl ?_
            refine V_iret hX hR dX7_top_86 ?_
            have ei : mk = i := by omega
            subst ei
            exact ⟨rfl, b6, Or.inr ⟨n, _, _, _, _, rfl, by omega, by omega, b3, rfl, hP⟩⟩
          · have ihO := ih
            refine V_iload_n (pc' := 31) hX dX7_top_30 rfl rfl ?_
            refine V_iconst (pc' := 32) (v := nI 1) hX dX7_top_31 (by decide) rfl ?_
            refine V_iaddN (pc' := 33) hX dX7_top_32 rfl ?_
            refine V_istore_n (pc' := 34) (lv' := [_, _, _, _]) hX dX7_top_33 (Nat.le_of_ble_eq_true rfl) rfl rfl ?_
            have lq : ∀ (ν s : Nat) (h3 : AH) (k4 k5 k6 ab3 bw3 : Nat → Nat) (ks3 : Nat), i < s → s ≤ mk → kpAt X.G h3 (x + 15) k4 k5 k6 ab3 bw3 ks3 → ktOk (shE W L) (topA kd W L n (prL (al sa) mk i ++ prS (al sa) i s)) k4 k5 k6 ks3 → lkOk kd W L (topA kd W L n (prL (al sa) mk i ++ prS (al sa) i s)) ab3 bw3 → topI kd W L n (topA kd W L n (prL (al sa) mk i ++ prS (al sa) i s)) → frO x z sa h h3 → psAt X.G h3 z x mk sa L (fun _ => F) (fun _ => W) fn fv fs tn tv ts kd p q bf len ta sp (k4) (k5) (k6) (ks3) ff fg co → mk - s < ν → V X 0 0 z h3 34 [some (.ref x), some (.int (nI n)), some (.int (nI i)), some (.int (nI s))] [] := by
              intro μ
              induction μ with
              | zero => intros; omega
              | succ μ ih =>
                intro s h3 k4 k5 k6 ab3 bw3 ks3 e0 e1 e2 e3 e4 e5 e6 hP e7
                obtain ⟨⟨hx, hsa⟩, ⟨hF, hFO⟩, ⟨hT, hTO⟩, ⟨hm, hM⟩, ⟨⟨nf, hp⟩, hPO⟩, ⟨s0, s1, s2, ho⟩, ⟨bg, hbg⟩, hta, ⟨⟨ab, bw, hk⟩, hks⟩, ⟨hn, hnO⟩, hS, hmk, hnone, hxz, hco⟩ := id hP
                refine V_iload_n (pc' := 35) hX dX7_top_34 rfl rfl ?_
                refine V_aload_n (pc' := 36) hX dX7_top_35 rfl rfl ?_
                refine V_get (pc' := 39) hX dX7_top_36 hx rfl inX7 1 (by decide) wF_X7_69 rfl rfl ?_
                refine V_icmp_geN (pt := 73) (pc' := 42) hX dX7_top_39 (by omega) (by omega) rfl rfl (fun c39 => ?_) (fun c39 => ?_)
                · refine V_iincN (pc' := 76) (j := 1) (lv' := [_, _, _, _]) hX dX7_top_73 rfl rfl rfl rfl ?_
                  refine V_goto (pc' := 22) hX dX7_top_76 rfl ?_
                  refine V.loc2 (lv' := [some _, some _, some _, none]) ⟨rfl, rfl, rfl, trivial⟩ ?_
                  exact ihO (i + 1) _ _ _ _ _ _ _ (by omega) e2 (by rw [prL_s, show mk = s by omega]; rw [show mk = s by omega] at e3; exact e3) (by rw [prL_s, show mk = s by omega]; rw [show mk = s by omega] at e4; exact e4) (by rw [prL_s, show mk = s by omega]; rw [show mk = s by omega] at e5; exact e5) e6 hP (by omega)
                · refine V_aload_n (pc' := 43) hX dX7_top_42 rfl rfl ?_
                  refine V_get (pc' := 46) hX dX7_top_43 hx rfl inX7 0 (by decide) wF_X7_11 rfl rfl ?_
                  refine V_iload_n (pc' := 47) hX dX7_top_46 rfl rfl ?_
                  rcases hs1 : sa i with _ | q1
                  · refine V_aaldN (pc' := 48) (v := .null) hX dX7_top_47 hsa (by omega) (by omega) (by rw [hs1]; rfl) rfl ?_
                    refine V_ifnullN (pc' := 67) hX dX7_top_48 rfl ?_
                    first
                      | (refine V_iincN (pc' := 70) (j := 1) (lv' := [_, _, _, _]) hX dX7_top_67 rfl rfl rfl rfl ?_
                         refine V_goto (pc' := 34) hX dX7_top_70 rfl ?_
                         exact ih (s + 1) _ _ _ _ _ _ _ (by omega) (by omega) d2 d3 d4 d5 d6 hP (by omega))
                      | (have ep : prS (al sa) i (s + 1) = prS (al sa) i s := by
                           rw [prS_s, if_neg (fun e => by
                             first
                               | (have := e.2.1; unfold al at this; rw [hs1] at this; cases this; done)
                               | (have := e.2.2; unfold al at this; rw [hs2] at this; cases this; done)), List.append_nil]
                         refine V_iincN (pc' := 70) (j := 1) (lv' := [_, _, _, _]) hX dX7_top_67 rfl rfl rfl rfl ?_
                         refine V_goto (pc' := 34) hX dX7_top_70 rfl ?_
                         exact ih (s + 1) _ _ _ _ _ _ _ (by omega) (by omega) e2 (by rw [ep]; exact e3) (by rw [ep]; exact e4) (by rw [ep]; exact e5) e6 hP (by omega))
                  · refine V_aaldN (pc' := 48) (v := .ref q1) hX dX7_top_47 hsa (by omega) (by omega) (by rw [hs1]; rfl) rfl ?_
                    refine V_ifnull (pc' := 51) hX dX7_top_48 rfl ?_
                    refine V_aload_n (pc' := 52) hX dX7_top_51 rfl rfl ?_
                    refine V_get (pc' := 55) hX dX7_top_52 hx rfl inX7 0 (by decide) wF_X7_11 rfl rfl ?_
                    refine V_iload_n (pc' := 56) hX dX7_top_55 rfl rfl ?_
                    rcases hs2 : sa s with _ | q2
                    · refine V_aaldN (pc' := 57) (v := .null) hX dX7_top_56 hsa (by omega) (by omega) (by rw [hs2]; rfl) rfl ?_
                      refine V_ifnullN (pc' := 67) hX dX7_top_57 rfl ?_
                      first
                        | (refine V_iincN (pc' := 70) (j := 1) (lv' := [_, _, _, _]) hX dX7_top_67 rfl rfl rfl rfl ?_
                           refine V_goto (pc' := 34) hX dX7_top_70 rfl ?_
                           exact ih (s + 1) _ _ _ _ _ _ _ (by omega) (by omega) d2 d3 d4 d5 d6 hP (by omega))
                        | (have ep : prS (al sa) i (s + 1) = prS (al sa) i s := by
                             rw [prS_s, if_neg (fun e => by
                               first
                                 | (have := e.2.1; unfold al at this; rw [hs1] at this; cases this; done)
                                 | (have := e.2.2; unfold al at this; rw [hs2] at this; cases this; done)), List.append_nil]
                           refine V_iincN (pc' := 70) (j := 1) (lv' := [_, _, _, _]) hX dX7_top_67 rfl rfl rfl rfl ?_
                           refine V_goto (pc' := 34) hX dX7_top_70 rfl ?_
                           exact ih (s + 1) _ _ _ _ _ _ _ (by omega) (by omega) e2 (by rw [ep]; exact e3) (by rw [ep]; exact e4) (by rw [ep]; exact e5) e6 hP (by omega))
                    · refine V_aaldN (pc' := 57) (v := .ref q2) hX dX7_top_56 hsa (by omega) (by omega) (by rw [hs2]; rfl) rfl ?_
                      refine V_ifnull (pc' := 60) hX dX7_top_57 rfl ?_
                      refine V_aload_n (pc' := 61) hX dX7_top_60 rfl rfl ?_
                      refine V_iload_n (pc' := 62) hX dX7_top_61 rfl rfl ?_
                      refine V_iload_n (pc' := 63) hX dX7_top_62 rfl rfl ?_
                      refine V_iload_n (pc' := 64) hX dX7_top_63 rfl rfl ?_
                      refine V_callV (nA := 3) (pc' := 67) (k' := 0) (n' := 0) hX dX7_top_64 (c_PS_rank i s n q1 q2 (by omega) (by omega) hs1 hs2 (by omega) (by omega) e2 e3 e4 e5 hP) hx rfl wM_X7_233 wI_X7_rank wL_X7_rank wN_X7 wC_X7_rank rfl hy_X7_rank rfl (Nat.le_of_ble_eq_true rfl) (by decide) (by omega) rfl rfl (by omega) rfl (by omega) rfl ?_
                      rintro _ z h4 ⟨rfl, rfl, d6, m1, m2, m3, m4, m5, m6, d2, d3, d4, d5, hP⟩
                      have d6 := e6.tr d6
                      have ep : prS (al sa) i (s + 1) = prS (al sa) i s ++ [(i, s)] := by
                        rw [prS_s, if_pos ⟨e0, by unfold al; rw [hs1]; rfl, by unfold al; rw [hs2]; rfl⟩]
                      rw [← topA_snoc, List.append_assoc, ← ep] at d3 d4 d5
                      refine V.stk (st' := []) rfl ?_
                      first
                        | (refine V_iincN (pc' := 70) (j := 1) (lv' := [_, _, _, _]) hX dX7_top_67 rfl rfl rfl rfl ?_
                           refine V_goto (pc' := 34) hX dX7_top_70 rfl ?_
                           exact ih (s + 1) _ _ _ _ _ _ _ (by omega) (by omega) d2 d3 d4 d5 d6 hP (by omega))
                        | (have ep : prS (al sa) i (s + 1) = prS (al sa) i s := by
                             rw [prS_s, if_neg (fun e => by
                               first
                                 | (have := e.2.1; unfold al at this; rw [hs1] at this; cases this; done)
                                 | (have := e.2.2; unfold al at this; rw [hs2] at this; cases this; done)), List.append_nil]
                           refine V_iincN (pc' := 70) (j := 1) (lv' := [_, _, _, _]) hX dX7_top_67 rfl rfl rfl rfl ?_
                           refine V_goto (pc' := 34) hX dX7_top_70 rfl ?_
                           exact ih (s + 1) _ _ _ _ _ _ _ (by omega) (by omega) e2 (by rw [ep]; exact e3) (by rw [ep]; exact e4) (by rw [ep]; exact e5) e6 hP (by omega))
            exact lq (mk + 1) (i + 1) h2 k1 k2 k3 ab2 bw2 ks2 (by omega) (by omega) b2 (by rw [prS_nil (Nat.le_refl _), List.append_nil]; exact b3) (by rw [prS_nil (Nat.le_refl _), List.append_nil]; exact b4) (by rw [prS_nil (Nat.le_refl _), List.append_nil]; exact b5) b6 hP (by omega)
      refine V.loc2 (lv' := [some _, some _, some _, none]) ⟨rfl, rfl, rfl, trivial⟩ ?_
      exact lp (mk + 1) 0 _ f1 f2 f3 ab bw 0 (by omega) g1 ⟨rfl, fun j hj => by omega⟩ (fun j hj => by simp [topA, prL] at hj) topI.nil (frO.of g2 (by omega) (by omega)) hP1 (by omega)
    · have hd : ¬ nv.toInt ≤ 100 := fun e => c8 (i32_le.mpr e)
      refine V_iconst (pc' := 12) (v := (-1)) hX dX7_top_11 (by decide) rfl ?_
      refine V_iret hX hR dX7_top_12 ?_
      exact ⟨rfl, frO.rf, Or.inl ⟨by omega, rfl, rfl⟩⟩
