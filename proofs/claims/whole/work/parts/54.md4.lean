theorem mdI.r60 {mk ts fs kd p q : Nat} {av : Nat → Bool} {M L : Nat → List Nat} {W F : Nat → Nat} {dz : Nat → Bool} {mn st tn tv fn fv : Nat → Nat} (hI : mdI mk ts fs kd p q av M L W F dz mn st tn tv fn fv) {r : Nat} (hr : av r = true) : r < 60 := by
  have := hI.1.2.1 r hr; have := hI.1.1; omega
theorem mdI.ll {mk ts fs kd p q : Nat} {av : Nat → Bool} {M L : Nat → List Nat} {W F : Nat → Nat} {dz : Nat → Bool} {mn st tn tv fn fv : Nat → Nat} (hI : mdI mk ts fs kd p q av M L W F dz mn st tn tv fn fv) {r : Nat} (hr : av r = true) : (L r).length ≤ 30 := by
  rw [(hI.2.2.2.2.1 r hr).1.length_eq]; exact (hI.2.1 r (hI.r60 hr)).2.1
theorem mdI.mn {mk ts fs kd p q : Nat} {av : Nat → Bool} {M L : Nat → List Nat} {W F : Nat → Nat} {dz : Nat → Bool} {mn st tn tv fn fv : Nat → Nat} (hI : mdI mk ts fs kd p q av M L W F dz mn st tn tv fn fv) {r : Nat} (hr : av r = true) : mn r = (L r).length := by
  rw [(hI.2.2.2.2.1 r hr).1.length_eq]; exact (hI.2.1 r (hI.r60 hr)).1
theorem mdI.lv {mk ts fs kd p q : Nat} {av : Nat → Bool} {M L : Nat → List Nat} {W F : Nat → Nat} {dz : Nat → Bool} {mn st tn tv fn fv : Nat → Nat} (hI : mdI mk ts fs kd p q av M L W F dz mn st tn tv fn fv) {r : Nat} (hr : av r = true) : ∀ v, v ∈ L r → v < 1000000 := fun v hv => (hI.2.1 r (hI.r60 hr)).2.2.2.2 v ((hI.2.2.2.2.1 r hr).1.mem_iff.mp hv)
theorem mdI.nd {mk ts fs kd p q : Nat} {av : Nat → Bool} {M L : Nat → List Nat} {W F : Nat → Nat} {dz : Nat → Bool} {mn st tn tv fn fv : Nat → Nat} (hI : mdI mk ts fs kd p q av M L W F dz mn st tn tv fn fv) {r : Nat} (hr : av r = true) : (L r).Nodup := (hI.2.2.2.2.1 r hr).1.nodup_iff.mpr (hI.2.1 r (hI.r60 hr)).2.2.2.1
theorem mdI.am {mk ts fs kd p q : Nat} {av : Nat → Bool} {M L : Nat → List Nat} {W F : Nat → Nat} {dz : Nat → Bool} {mn st tn tv fn fv : Nat → Nat} (hI : mdI mk ts fs kd p q av M L W F dz mn st tn tv fn fv) {r : Nat} (hr : av r = true) : amL W (L r) ≤ 3000 := by
  have h1 := amL_bd (fun v => (wtB hI.2.2.1 v).2) (L r)
  have h2 := hI.ll hr
  omega
theorem aboveN_0 {kd : Nat} : aboveN kd 0 = 0 := by
  unfold aboveN
  split
  · rfl
  · split <;> rfl
theorem sbL_0 {b c : Nat} {L M : List Nat} (hb : b ≤ L.length) (hc : c ≤ M.length) (h : ∀ i j, i < b → j < c → L.getD i 0 ≠ M.getD j 0) : sbL b c L M = 0 := by
  unfold sbL
  rw [← sm_take (f := fun a => if L.getD a 0 ∈ M.take c then 1 else 0) (g := fun v => if v ∈ M.take c then 1 else 0) (L := L) (fun _ _ => rfl) b hb]
  have e : sm (fun a => if L.getD a 0 ∈ M.take c then 1 else 0) b = sm (fun _ => 0) b := sm_congr (fun j hj => by
    show (if L.getD j 0 ∈ M.take c then 1 else 0) = 0
    rw [if_neg (fun hm => by
      obtain ⟨i, i1, i2⟩ := (mem_take hc).mp hm
      exact h j i hj i1 i2.symm)])
  rw [e]
  have z : ∀ n, sm (fun _ => 0) n = 0 := fun n => by
    induction n with
    | zero => rfl
    | succ n ih => rw [sm_s, ih]
  exact z b
theorem sbL_ne {b c : Nat} {L M : List Nat} (hb : b ≤ L.length) (hc : c ≤ M.length) (h : ∃ i j, i < b ∧ j < c ∧ L.getD i 0 = M.getD j 0) : ¬ sbL b c L M = 0 := by
  obtain ⟨i, j, hi, hj, e⟩ := h
  unfold sbL
  rw [← sm_take (f := fun a => if L.getD a 0 ∈ M.take c then 1 else 0) (g := fun v => if v ∈ M.take c then 1 else 0) (L := L) (fun _ _ => rfl) b hb]
  have h1 := sm_at (f := fun a => if L.getD a 0 ∈ M.take c then 1 else 0) hi
  have h2 : (if L.getD i 0 ∈ M.take c then 1 else 0) = 1 := if_pos ((mem_take hc).mpr ⟨j, hj, e.symm⟩)
  have h3 : (fun a => if L.getD a 0 ∈ M.take c then 1 else 0) i = 1 := h2
  omega
set_option maxRecDepth 100000 in
set_option maxHeartbeats 4000000 in
theorem c_Md_up {G : Gd} {z : Nat} {h : AH} (x v : Nat) (hx : x < 2 ^ 62) (hv0 : 0 < v) (hv : v < 2 ^ 62) : Ct G yX8_up cX8_up 4 (some .long) 0 0 0 [.long (lN x), .long (lN v)] z h (fun r z' h' => r = some (.long (lN (upN x v))) ∧ z' = z ∧ h' = h) := by
  refine Ct.of (lv := [_, _, _, _]) (by decide) (Nat.le_of_ble_eq_true rfl) rfl ?_
  rintro X rfl hX hR hnm
  refine V_lload_n (pc' := 1) hX dX8_up_0 rfl rfl ?_
  refine V_lload_n (pc' := 2) hX dX8_up_1 rfl rfl ?_
  refine V_laddN (pc' := 3) hX dX8_up_2 rfl ?_
  refine V_lconst (pc' := 4) (v := lN 1) hX dX8_up_3 rfl rfl ?_
  refine V_lsubN (pc' := 5) hX dX8_up_4 (by omega) rfl ?_
  refine V_lload_n (pc' := 6) hX dX8_up_5 rfl rfl ?_
  refine V_ldivN (pc' := 7) hX dX8_up_6 (by omega) (by omega) (by omega) rfl ?_
  refine V_lret hX hR dX8_up_7 ?_
  exact ⟨rfl, rfl, rfl⟩
set_option maxRecDepth 100000 in
set_option maxHeartbeats 4000000 in
theorem c_Md_needed {G : Gd} {z : Nat} {h : AH} {y : Nat} {th : Int32} {mk : Nat} {ts : Nat} {fs : Nat} {kd : Nat} {p : Nat} {q : Nat} {len : Nat} {ks : Nat} {fm : Nat} {cm : Nat} {be : Nat} {dz : Nat → Bool} {mn : Nat → Nat} {st : Nat → Nat} {tn : Nat → Nat} {tv : Nat → Nat} {fn : Nat → Nat} {fv : Nat → Nat} {on : Nat → Nat} {tw : Nat → Nat} {bf : Nat → Nat} {g1 : Nat → Nat} {g2 : Nat → Nat} {g3 : Nat → Nat} {sv : Nat → Nat} {fa : Nat → Int32} {fy : Nat → Nat} {bs : Nat → Nat} {cf : Nat → Nat} (a b : Nat) (ha : a ≤ 3000) (hb : b ≤ 3000) (hmo : mOk kd p q) (hM : mdC G h y th mk ts fs kd p q len ks fm cm be dz mn st tn tv fn fv on tw bf g1 g2 g3 sv fa fy bs cf)  : Ct G yX8_needed cX8_needed 9 (some .long) 1 0 0 [.ref y, .long (lN a), .long (lN b)] z h (fun r z' h' => r = some (.long (lN (neededN kd p q a b))) ∧ z' = z ∧ h' = h) := by
  refine Ct.of (lv := [_, _, _, _, _, _, _, _, _]) (by decide) (Nat.le_of_ble_eq_true rfl) rfl ?_
  rintro X rfl hX hR hnm
  obtain ⟨m1, m2, m3, m4, m5, m6⟩ := id hmo
  have b1 : p * (a + b) ≤ 3000 * 6000 := mul_bd m3 (by omega)
  have b2 : p * min a b ≤ 3000 * 3000 := mul_bd m3 (by omega)
  have b3 : a * b * p * p ≤ 3000 * 3000 * 3000 * 3000 := mul_bd (mul_bd (mul_bd ha hb) m3) m3
  have b4 : q * q ≤ 1000 * 1000 := mul_bd m5 m5
  have e3 : a * b * p * p = p * p * a * b := by rw [Nat.mul_assoc (a * b), Nat.mul_comm (a * b), ← Nat.mul_assoc]
  have j1 :  V X 0 0 z h 11 [some (.ref y), some (.long (lN a)), none, some (.long (lN b)), none, none, none, none, none] [.long (lN (min a b))] := by
    skip
    refine V_lstore (pc' := 13) (lv' := [_, _, _, _, _, _, _, _, _]) hX dX8_needed_11 (Nat.le_of_ble_eq_true rfl) rfl rfl ?_
    refine V_aload_n (pc' := 14) hX dX8_needed_13 rfl rfl ?_
    refine V_get (pc' := 17) hX dX8_needed_14 hM.1 rfl inX8 11 (by decide) wF_X8_32 rfl rfl ?_
    rcases (show kd = 0 ∨ kd = 1 ∨ kd = 2 ∨ kd = 3 ∨ kd = 4 ∨ kd = 5 by omega) with rfl | rfl | rfl | rfl | rfl | rfl
    · refine V_tableIn (pc' := 52) hX dX8_needed_17 (by decide) (by decide) rfl rfl ?_
      refine V_aload_n (pc' := 53) hX dX8_needed_52 rfl rfl ?_
      refine V_get (pc' := 56) hX dX8_needed_53 hM.1 rfl inX8 12 (by decide) wF_X8_36 rfl rfl ?_
      refine V_i2lN (pc' := 57) hX dX8_needed_56 (by omega) rfl ?_
      refine V_lret hX hR dX8_needed_57 ?_
      exact ⟨rfl, rfl, rfl⟩
    · refine V_tableIn (pc' := 148) hX dX8_needed_17 (by decide) (by decide) rfl rfl ?_
      refine V_aload_n (pc' := 149) hX dX8_needed_148 rfl rfl ?_
      refine V_get (pc' := 152) hX dX8_needed_149 hM.1 rfl inX8 12 (by decide) wF_X8_36 rfl rfl ?_
      refine V_i2lN (pc' := 153) hX dX8_needed_152 (by omega) rfl ?_
      refine V_lload_n (pc' := 154) hX dX8_needed_153 rfl rfl ?_
      refine V_lload_n (pc' := 155) hX dX8_needed_154 rfl rfl ?_
      refine V_laddN (pc' := 156) hX dX8_needed_155 rfl ?_
      refine V_lmulN (pc' := 157) hX dX8_needed_156 rfl ?_
      refine V_aload_n (pc' := 158) hX dX8_needed_157 rfl rfl ?_
      refine V_get (pc' := 161) hX dX8_needed_158 hM.1 rfl inX8 12 (by decide) wF_X8_36 rfl rfl ?_
      refine V_i2lN (pc' := 162) hX dX8_needed_161 (by omega) rfl ?_
      refine V_aload_n (pc' := 163) hX dX8_needed_162 rfl rfl ?_
      refine V_get (pc' := 166) hX dX8_needed_163 hM.1 rfl inX8 13 (by decide) wF_X8_39 rfl rfl ?_
      refine V_i2lN (pc' := 167) hX dX8_needed_166 (by omega) rfl ?_
      refine V_laddN (pc' := 168) hX dX8_needed_167 rfl ?_
      refine V_callS (nA := 2) (pc' := 171) (k' := 0) (n' := 0) hX dX8_needed_168 (c_Md_up (p * (a + b)) (p + q) (by omega) (by omega) (by omega)) wM_X8_129 wS_X8_up wN_X8 wC_X8_up rfl hy_X8_up rfl (Nat.le_of_ble_eq_true rfl) (by decide) (by omega) rfl rfl (by omega) rfl (by omega) rfl ?_
      rintro _ z h ⟨rfl, rfl, rfl⟩
      refine V.stk (st' := [_]) rfl ?_
      refine V_lret hX hR dX8_needed_171 ?_
      exact ⟨rfl, rfl, rfl⟩
    · refine V_tableIn (pc' := 58) hX dX8_needed_17 (by decide) (by decide) rfl rfl ?_
      refine V_aload_n (pc' := 59) hX dX8_needed_58 rfl rfl ?_
      refine V_get (pc' := 62) hX dX8_needed_59 hM.1 rfl inX8 12 (by decide) wF_X8_36 rfl rfl ?_
      refine V_i2lN (pc' := 63) hX dX8_needed_62 (by omega) rfl ?_
      refine V_lload_n (pc' := 64) hX dX8_needed_63 rfl rfl ?_
      refine V_lload_n (pc' := 65) hX dX8_needed_64 rfl rfl ?_
      refine V_laddN (pc' := 66) hX dX8_needed_65 rfl ?_
      refine V_lmulN (pc' := 67) hX dX8_needed_66 rfl ?_
      refine V_ldc2N (pc' := 70) (v' := lN 2) hX dX8_needed_67 wK_X8_127 (by decide) rfl ?_
      refine V_aload_n (pc' := 71) hX dX8_needed_70 rfl rfl ?_
      refine V_get (pc' := 74) hX dX8_needed_71 hM.1 rfl inX8 13 (by decide) wF_X8_39 rfl rfl ?_
      refine V_i2lN (pc' := 75) hX dX8_needed_74 (by omega) rfl ?_
      refine V_lmulN (pc' := 76) hX dX8_needed_75 rfl ?_
      refine V_callS (nA := 2) (pc' := 79) (k' := 0) (n' := 0) hX dX8_needed_76 (c_Md_up (p * (a + b)) (2 * q) (by omega) (by omega) (by omega)) wM_X8_129 wS_X8_up wN_X8 wC_X8_up rfl hy_X8_up rfl (Nat.le_of_ble_eq_true rfl) (by decide) (by omega) rfl rfl (by omega) rfl (by omega) rfl ?_
      rintro _ z h ⟨rfl, rfl, rfl⟩
      refine V.stk (st' := [_]) rfl ?_
      refine V_lret hX hR dX8_needed_79 ?_
      exact ⟨rfl, rfl, rfl⟩
    · refine V_tableIn (pc' := 80) hX dX8_needed_17 (by decide) (by decide) rfl rfl ?_
      refine V_lconst (pc' := 81) (v := lN 0) hX dX8_needed_80 rfl rfl ?_
      refine V_lstore (pc' := 83) (lv' := [_, _, _, _, _, _, _, _, _]) hX dX8_needed_81 (Nat.le_of_ble_eq_true rfl) rfl rfl ?_
      have lp : ∀ (μ t : Nat), t ≤ 3000 → rootN (p * p * a * b) (q * q) (3000 - t) t = rootN (p * p * a * b) (q * q) 3000 0 → 3000 - t < μ → V X 0 0 z h 83 [some (.ref y), some (.long (lN a)), none, some (.long (lN b)), none, some (.long (lN (min a b))), none, some (.long (lN t)), none] [] := by
        intro μ
        induction μ with
        | zero => intros; omega
        | succ μ ih =>
          intro t d1 d2 d3
          have d4 : t * t * q * q ≤ 3000 * 3000 * 1000 * 1000 := mul_bd (mul_bd (mul_bd d1 d1) m5) m5
          have d5 : t * t * q * q = t * t * (q * q) := Nat.mul_assoc _ _ _
          refine V_lload (pc' := 85) hX dX8_needed_83 rfl rfl ?_
          refine V_lload (pc' := 87) hX dX8_needed_85 rfl rfl ?_
          refine V_lmulN (pc' := 88) hX dX8_needed_87 rfl ?_
          refine V_aload_n (pc' := 89) hX dX8_needed_88 rfl rfl ?_
          refine V_get (pc' := 92) hX dX8_needed_89 hM.1 rfl inX8 13 (by decide) wF_X8_39 rfl rfl ?_
          refine V_i2lN (pc' := 93) hX dX8_needed_92 (by omega) rfl ?_
          refine V_lmulN (pc' := 94) hX dX8_needed_93 rfl ?_
          refine V_aload_n (pc' := 95) hX dX8_needed_94 rfl rfl ?_
          refine V_get (pc' := 98) hX dX8_needed_95 hM.1 rfl inX8 13 (by decide) wF_X8_39 rfl rfl ?_
          refine V_i2lN (pc' := 99) hX dX8_needed_98 (by omega) rfl ?_
          refine V_lmulN (pc' := 100) hX dX8_needed_99 rfl ?_
          refine V_lload_n (pc' := 101) hX dX8_needed_100 rfl rfl ?_
          refine V_lload_n (pc' := 102) hX dX8_needed_101 rfl rfl ?_
          refine V_lmulN (pc' := 103) hX dX8_needed_102 rfl ?_
          refine V_aload_n (pc' := 104) hX dX8_needed_103 rfl rfl ?_
          refine V_get (pc' := 107) hX dX8_needed_104 hM.1 rfl inX8 12 (by decide) wF_X8_36 rfl rfl ?_
          refine V_i2lN (pc' := 108) hX dX8_needed_107 (by omega) rfl ?_
          refine V_lmulN (pc' := 109) hX dX8_needed_108 rfl ?_
          refine V_aload_n (pc' := 110) hX dX8_needed_109 rfl rfl ?_
          refine V_get (pc' := 113) hX dX8_needed_110 hM.1 rfl inX8 12 (by decide) wF_X8_36 rfl rfl ?_
          refine V_i2lN (pc' := 114) hX dX8_needed_113 (by omega) rfl ?_
          refine V_lmulN (pc' := 115) hX dX8_needed_114 rfl ?_
          refine V_lcmp_geN (pt := 128) (pc' := 119) hX dX8_needed_115 rfl dX8_needed_116 (by omega) (by omega) rfl rfl (fun c115 => ?_) (fun c115 => ?_)
          · refine V_lload (pc' := 130) hX dX8_needed_128 rfl rfl ?_
            refine V_lret hX hR dX8_needed_130 ?_
            rw [show neededN 3 p q a b = rootN (p * p * a * b) (q * q) 3000 0 from rfl, ← d2, rootN_done (by omega)]; exact ⟨rfl, rfl, rfl⟩
          · refine V_lload (pc' := 121) hX dX8_needed_119 rfl rfl ?_
            refine V_lconst (pc' := 122) (v := lN 1) hX dX8_needed_121 rfl rfl ?_
            refine V_laddN (pc' := 123) hX dX8_needed_122 rfl ?_
            refine V_lstore (pc' := 125) (lv' := [_, _, _, _, _, _, _, _, _]) hX dX8_needed_123 (Nat.le_of_ble_eq_true rfl) rfl rfl ?_
            refine V_goto (pc' := 83) hX dX8_needed_125 rfl ?_
            refine V.loc2 (lv' := [some _, some _, none, some _, none, some _, none, some _, none]) ⟨rfl, rfl, rfl, rfl, rfl, trivial⟩ ?_
            have hlt3 : t < 3000 := by
              rcases Nat.lt_or_ge t 3000 with g | g
              · exact g
              · exfalso
                have et : t = 3000 := by omega
                subst et
                have hpq := m6 (by omega)
                have g1 : a * b ≤ 3000 * 3000 := mul_bd ha hb
                have g2 : p * p ≤ q * q := mul_bd hpq hpq
                have g3 : a * b * (p * p) ≤ 3000 * 3000 * (q * q) := mul_bd g1 g2
                rw [Nat.mul_assoc (a * b)] at c115
                omega
            exact ih (t + 1) (by omega) (by rw [← d2, show 3000 - t = (3000 - (t + 1)) + 1 by omega]; show _ = (if t * t * (q * q) < p * p * a * b then _ else _); rw [if_pos (by omega)]) (by omega)
      refine V.loc2 (lv' := [some _, some _, none, some _, none, some _, none, some _, none]) ⟨rfl, rfl, rfl, rfl, rfl, trivial⟩ ?_
      exact lp 3001 0 (by omega) rfl (by omega)
    · refine V_tableIn (pc' := 131) hX dX8_needed_17 (by decide) (by decide) rfl rfl ?_
      refine V_aload_n (pc' := 132) hX dX8_needed_131 rfl rfl ?_
      refine V_get (pc' := 135) hX dX8_needed_132 hM.1 rfl inX8 12 (by decide) wF_X8_36 rfl rfl ?_
      refine V_i2lN (pc' := 136) hX dX8_needed_135 (by omega) rfl ?_
      refine V_lload (pc' := 138) hX dX8_needed_136 rfl rfl ?_
      refine V_lmulN (pc' := 139) hX dX8_needed_138 rfl ?_
      refine V_aload_n (pc' := 140) hX dX8_needed_139 rfl rfl ?_
      refine V_get (pc' := 143) hX dX8_needed_140 hM.1 rfl inX8 13 (by decide) wF_X8_39 rfl rfl ?_
      refine V_i2lN (pc' := 144) hX dX8_needed_143 (by omega) rfl ?_
      refine V_callS (nA := 2) (pc' := 147) (k' := 0) (n' := 0) hX dX8_needed_144 (c_Md_up (p * min a b) q (by omega) (by omega) (by omega)) wM_X8_129 wS_X8_up wN_X8 wC_X8_up rfl hy_X8_up rfl (Nat.le_of_ble_eq_true rfl) (by decide) (by omega) rfl rfl (by omega) rfl (by omega) rfl ?_
      rintro _ z h ⟨rfl, rfl, rfl⟩
      refine V.stk (st' := [_]) rfl ?_
      refine V_lret hX hR dX8_needed_147 ?_
      exact ⟨rfl, rfl, rfl⟩
    · refine V_tableOut (pc' := 148) hX dX8_needed_17 (by decide) rfl ?_
      refine V_aload_n (pc' := 149) hX dX8_needed_148 rfl rfl ?_
      refine V_get (pc' := 152) hX dX8_needed_149 hM.1 rfl inX8 12 (by decide) wF_X8_36 rfl rfl ?_
      refine V_i2lN (pc' := 153) hX dX8_needed_152 (by omega) rfl ?_
      refine V_lload_n (pc' := 154) hX dX8_needed_153 rfl rfl ?_
      refine V_lload_n (pc' := 155) hX dX8_needed_154 rfl rfl ?_
      refine V_laddN (pc' := 156) hX dX8_needed_155 rfl ?_
      refine V_lmulN (pc' := 157) hX dX8_needed_156 rfl ?_
      refine V_aload_n (pc' := 158) hX dX8_needed_157 rfl rfl ?_
      refine V_get (pc' := 161) hX dX8_needed_158 hM.1 rfl inX8 12 (by decide) wF_X8_36 rfl rfl ?_
      refine V_i2lN (pc' := 162) hX dX8_needed_161 (by omega) rfl ?_
      refine V_aload_n (pc' := 163) hX dX8_needed_162 rfl rfl ?_
      refine V_get (pc' := 166) hX dX8_needed_163 hM.1 rfl inX8 13 (by decide) wF_X8_39 rfl rfl ?_
      refine V_i2lN (pc' := 167) hX dX8_needed_166 (by omega) rfl ?_
      refine V_laddN (pc' := 168) hX dX8_needed_167 rfl ?_
      refine V_callS (nA := 2) (pc' := 171) (k' := 0) (n' := 0) hX dX8_needed_168 (c_Md_up (p * (a + b)) (p + q) (by omega) (by omega) (by omega)) wM_X8_129 wS_X8_up wN_X8 wC_X8_up rfl hy_X8_up rfl (Nat.le_of_ble_eq_true rfl) (by decide) (by omega) rfl rfl (by omega) rfl (by omega) rfl ?_
      rintro _ z h ⟨rfl, rfl, rfl⟩
      refine V.stk (st' := [_]) rfl ?_
      refine V_lret hX hR dX8_needed_171 ?_
      exact ⟨rfl, rfl, rfl⟩
  refine V_lload_n (pc' := 1) hX dX8_needed_0 rfl rfl ?_
  refine V_lload_n (pc' := 2) hX dX8_needed_1 rfl rfl ?_
  refine V_lcmp_geN (pt := 10) (pc' := 6) hX dX8_needed_2 rfl dX8_needed_3 (by omega) (by omega) rfl rfl (fun c2 => ?_) (fun c2 => ?_)
  · refine V_lload_n (pc' := 11) hX dX8_needed_10 rfl rfl ?_
    refine V.loc2 (lv' := [some _, some _, none, some _, none, none, none, none, none]) ⟨rfl, rfl, rfl, trivial⟩ ?_
    have j := j1
    first
      | (rw [show min a b = b by omega] at j; exact j)
      | (rw [show min a b = a by omega] at j; exact j)
  · refine V_lload_n (pc' := 7) hX dX8_needed_6 rfl rfl ?_
    refine V_goto (pc' := 11) hX dX8_needed_7 rfl ?_
    refine V.loc2 (lv' := [some _, some _, none, some _, none, none, none, none, none]) ⟨rfl, rfl, rfl, trivial⟩ ?_
    have j := j1
    first
      | (rw [show min a b = b by omega] at j; exact j)
      | (rw [show min a b = a by omega] at j; exact j)
set_option maxRecDepth 100000 in
set_option maxHeartbeats 4000000 in
theorem c_Md_least {G : Gd} {z : Nat} {h : AH} {y : Nat} {th : Int32} {mk : Nat} {ts : Nat} {fs : Nat} {kd : Nat} {p : Nat} {q : Nat} {len : Nat} {ks : Nat} {fm : Nat} {cm : Nat} {be : Nat} {dz : Nat → Bool} {mn : Nat → Nat} {st : Nat → Nat} {tn : Nat → Nat} {tv : Nat → Nat} {fn : Nat → Nat} {fv : Nat → Nat} {on : Nat → Nat} {tw : Nat → Nat} {bf : Nat → Nat} {g1 : Nat → Nat} {g2 : Nat → Nat} {g3 : Nat → Nat} {sv : Nat → Nat} {fa : Nat → Int32} {fy : Nat → Nat} {bs : Nat → Nat} {cf : Nat → Nat} (a : Nat) (ha : a ≤ 3000) (hmo : mOk kd p q) (hM : mdC G h y th mk ts fs kd p q len ks fm cm be dz mn st tn tv fn fv on tw bf g1 g2 g3 sv fa fy bs cf)  : Ct G yX8_least cX8_least 3 (some .long) 1 0 0 [.ref y, .long (lN a)] z h (fun r z' h' => r = some (.long (lN (leastN kd p q a))) ∧ z' = z ∧ h' = h) := by
  refine Ct.of (lv := [_, _, _]) (by decide) (Nat.le_of_ble_eq_true rfl) rfl ?_
  rintro X rfl hX hR hnm
  obtain ⟨m1, m2, m3, m4, m5, m6⟩ := id hmo
  have b1 : p * a ≤ 3000 * 3000 := mul_bd m3 ha
  have b3 : a * p * p ≤ 3000 * 3000 * 3000 := mul_bd (mul_bd ha m3) m3
  have b4 : q * q ≤ 1000 * 1000 := mul_bd m5 m5
  have b5 : 0 < q * q := Nat.mul_pos (by omega) (by omega)
  have e3 : a * p * p = p * p * a := by rw [Nat.mul_assoc, Nat.mul_comm]
  refine V_aload_n (pc' := 1) hX dX8_least_0 rfl rfl ?_
  refine V_get (pc' := 4) hX dX8_least_1 hM.1 rfl inX8 11 (by decide) wF_X8_32 rfl rfl ?_
  rcases (show kd = 0 ∨ kd = 1 ∨ kd = 2 ∨ kd = 3 ∨ kd = 4 ∨ kd = 5 by omega) with rfl | rfl | rfl | rfl | rfl | rfl
  · refine V_tableIn (pc' := 40) hX dX8_least_4 (by decide) (by decide) rfl rfl ?_
    refine V_aload_n (pc' := 41) hX dX8_least_40 rfl rfl ?_
    refine V_get (pc' := 44) hX dX8_least_41 hM.1 rfl inX8 12 (by decide) wF_X8_36 rfl rfl ?_
    refine V_i2lN (pc' := 45) hX dX8_least_44 (by omega) rfl ?_
    refine V_lret hX hR dX8_least_45 ?_
    exact ⟨rfl, rfl, rfl⟩
  · refine V_tableIn (pc' := 102) hX dX8_least_4 (by decide) (by decide) rfl rfl ?_
    refine V_aload_n (pc' := 103) hX dX8_least_102 rfl rfl ?_
    refine V_get (pc' := 106) hX dX8_least_103 hM.1 rfl inX8 12 (by decide) wF_X8_36 rfl rfl ?_
    refine V_i2lN (pc' := 107) hX dX8_least_106 (by omega) rfl ?_
    refine V_lload_n (pc' := 108) hX dX8_least_107 rfl rfl ?_
    refine V_lmulN (pc' := 109) hX dX8_least_108 rfl ?_
    refine V_aload_n (pc' := 110) hX dX8_least_109 rfl rfl ?_
    refine V_get (pc' := 113) hX dX8_least_110 hM.1 rfl inX8 13 (by decide) wF_X8_39 rfl rfl ?_
    refine V_i2lN (pc' := 114) hX dX8_least_113 (by omega) rfl ?_
    refine V_callS (nA := 2) (pc' := 117) (k' := 0) (n' := 0) hX dX8_least_114 (c_Md_up (p * a) q (by omega) (by omega) (by omega)) wM_X8_129 wS_X8_up wN_X8 wC_X8_up rfl hy_X8_up rfl (Nat.le_of_ble_eq_true rfl) (by decide) (by omega) rfl rfl (by omega) rfl (by omega) rfl ?_
    rintro _ z h ⟨rfl, rfl, rfl⟩
    refine V.stk (st' := [_]) rfl ?_
    refine V_lret hX hR dX8_least_117 ?_
    exact ⟨rfl, rfl, rfl⟩
  · refine V_tableIn (pc' := 46) hX dX8_least_4 (by decide) (by decide) rfl rfl ?_
    refine V_aload_n (pc' := 47) hX dX8_least_46 rfl rfl ?_
    refine V_get (pc' := 50) hX dX8_least_47 hM.1 rfl inX8 12 (by decide) wF_X8_36 rfl rfl ?_
    refine V_i2lN (pc' := 51) hX dX8_least_50 (by omega) rfl ?_
    refine V_lload_n (pc' := 52) hX dX8_least_51 rfl rfl ?_
    refine V_lmulN (pc' := 53) hX dX8_least_52 rfl ?_
    refine V_ldc2N (pc' := 56) (v' := lN 2) hX dX8_least_53 wK_X8_127 (by decide) rfl ?_
    refine V_aload_n (pc' := 57) hX dX8_least_56 rfl rfl ?_
    refine V_get (pc' := 60) hX dX8_least_57 hM.1 rfl inX8 13 (by decide) wF_X8_39 rfl rfl ?_
    refine V_i2lN (pc' := 61) hX dX8_least_60 (by omega) rfl ?_
    refine V_lmulN (pc' := 62) hX dX8_least_61 rfl ?_
    refine V_aload_n (pc' := 63) hX dX8_least_62 rfl rfl ?_
    refine V_get (pc' := 66) hX dX8_least_63 hM.1 rfl inX8 12 (by decide) wF_X8_36 rfl rfl ?_
    refine V_i2lN (pc' := 67) hX dX8_least_66 (by omega) rfl ?_
    refine V_lsubN (pc' := 68) hX dX8_least_67 (by have := m6 (by omega); omega) rfl ?_
    refine V_callS (nA := 2) (pc' := 71) (k' := 0) (n' := 0) hX dX8_least_68 (c_Md_up (p * a) (2 * q - p) (by omega) (by have := m6 (by omega); omega) (by omega)) wM_X8_129 wS_X8_up wN_X8 wC_X8_up rfl hy_X8_up rfl (Nat.le_of_ble_eq_true rfl) (by decide) (by omega) rfl rfl (by omega) rfl (by omega) rfl ?_
    rintro _ z h ⟨rfl, rfl, rfl⟩
    refine V.stk (st' := [_]) rfl ?_
    refine V_lret hX hR dX8_least_71 ?_
    exact ⟨rfl, rfl, rfl⟩
  · refine V_tableIn (pc' := 72) hX dX8_least_4 (by decide) (by decide) rfl rfl ?_
    refine V_lload_n (pc' := 73) hX dX8_least_72 rfl rfl ?_
    refine V_aload_n (pc' := 74) hX dX8_least_73 rfl rfl ?_
    refine V_get (pc' := 77) hX dX8_least_74 hM.1 rfl inX8 12 (by decide) wF_X8_36 rfl rfl ?_
    refine V_i2lN (pc' := 78) hX dX8_least_77 (by omega) rfl ?_
    refine V_lmulN (pc' := 79) hX dX8_least_78 rfl ?_
    refine V_aload_n (pc' := 80) hX dX8_least_79 rfl rfl ?_
    refine V_get (pc' := 83) hX dX8_least_80 hM.1 rfl inX8 12 (by decide) wF_X8_36 rfl rfl ?_
    refine V_i2lN (pc' := 84) hX dX8_least_83 (by omega) rfl ?_
    refine V_lmulN (pc' := 85) hX dX8_least_84 rfl ?_
    refine V_aload_n (pc' := 86) hX dX8_least_85 rfl rfl ?_
    refine V_get (pc' := 89) hX dX8_least_86 hM.1 rfl inX8 13 (by decide) wF_X8_39 rfl rfl ?_
    refine V_i2lN (pc' := 90) hX dX8_least_89 (by omega) rfl ?_
    refine V_aload_n (pc' := 91) hX dX8_least_90 rfl rfl ?_
    refine V_get (pc' := 94) hX dX8_least_91 hM.1 rfl inX8 13 (by decide) wF_X8_39 rfl rfl ?_
    refine V_i2lN (pc' := 95) hX dX8_least_94 (by omega) rfl ?_
    refine V_lmulN (pc' := 96) hX dX8_least_95 rfl ?_
    refine V_callS (nA := 2) (pc' := 99) (k' := 0) (n' := 0) hX dX8_least_96 (c_Md_up (a * p * p) (q * q) (by omega) (by omega) (by omega)) wM_X8_129 wS_X8_up wN_X8 wC_X8_up rfl hy_X8_up rfl (Nat.le_of_ble_eq_true rfl) (by decide) (by omega) rfl rfl (by omega) rfl (by omega) rfl ?_
    rintro _ z h ⟨rfl, rfl, rfl⟩
    rw [e3]
    refine V.stk (st' := [_]) rfl ?_
    refine V_lret hX hR dX8_least_99 ?_
    exact ⟨rfl, rfl, rfl⟩
  · refine V_tableIn (pc' := 100) hX dX8_least_4 (by decide) (by decide) rfl rfl ?_
    refine V_lconst (pc' := 101) (v := lN 1) hX dX8_least_100 rfl rfl ?_
    refine V_lret hX hR dX8_least_101 ?_
    exact ⟨rfl, rfl, rfl⟩
  · refine V_tableOut (pc' := 102) hX dX8_least_4 (by decide) rfl ?_
    refine V_aload_n (pc' := 103) hX dX8_least_102 rfl rfl ?_
    refine V_get (pc' := 106) hX dX8_least_103 hM.1 rfl inX8 12 (by decide) wF_X8_36 rfl rfl ?_
    refine V_i2lN (pc' := 107) hX dX8_least_106 (by omega) rfl ?_
    refine V_lload_n (pc' := 108) hX dX8_least_107 rfl rfl ?_
    refine V_lmulN (pc' := 109) hX dX8_least_108 rfl ?_
    refine V_aload_n (pc' := 110) hX dX8_least_109 rfl rfl ?_
    refine V_get (pc' := 113) hX dX8_least_110 hM.1 rfl inX8 13 (by decide) wF_X8_39 rfl rfl ?_
    refine V_i2lN (pc' := 114) hX dX8_least_113 (by omega) rfl ?_
    refine V_callS (nA := 2) (pc' := 117) (k' := 0) (n' := 0) hX dX8_least_114 (c_Md_up (p * a) q (by omega) (by omega) (by omega)) wM_X8_129 wS_X8_up wN_X8 wC_X8_up rfl hy_X8_up rfl (Nat.le_of_ble_eq_true rfl) (by decide) (by omega) rfl rfl (by omega) rfl (by omega) rfl ?_
    rintro _ z h ⟨rfl, rfl, rfl⟩
    refine V.stk (st' := [_]) rfl ?_
    refine V_lret hX hR dX8_least_117 ?_
    exact ⟨rfl, rfl, rfl⟩
set_option maxRecDepth 100000 in
set_option maxHeartbeats 4000000 in
theorem c_Md_div_step {G : Gd} {z : Nat} {h : AH} (k a b : Nat) (ha : a ≤ 9000000) (hb : b ≤ 9000000) (hk : ((b ≤ a ∧ a * b < 2 ^ k) ∨ (1 ≤ k ∧ a < b ∧ a * b < 2 ^ (k - 1)))) (IH : ∀ j, j + 1 = k → ∀ a b : Nat, a ≤ 9000000 → b ≤ 9000000 → ((b ≤ a ∧ a * b < 2 ^ j) ∨ (1 ≤ j ∧ a < b ∧ a * b < 2 ^ (j - 1))) → Ct G yX8_divisor cX8_divisor 4 (some .long) j 0 0 [.long (lN a), .long (lN b)] z h (fun r z' h' => r = some (.long (lN (Nat.gcd a b))) ∧ z' = z ∧ h' = h))  : Ct G yX8_divisor cX8_divisor 4 (some .long) k 0 0 [.long (lN a), .long (lN b)] z h (fun r z' h' => r = some (.long (lN (Nat.gcd a b))) ∧ z' = z ∧ h' = h) := by
  refine Ct.of (lv := [_, _, _, _]) (by decide) (Nat.le_of_ble_eq_true rfl) rfl ?_
  rintro X rfl hX hR hnm
  refine V_lload_n (pc' := 1) hX dX8_divisor_0 rfl rfl ?_
  refine V_lconst (pc' := 2) (v := lN 0) hX dX8_divisor_1 rfl rfl ?_
  refine V_lcmp_neN (pt := 10) (pc' := 6) hX dX8_divisor_2 rfl dX8_divisor_3 (by omega) (by omega) rfl rfl (fun c2 => ?_) (fun c2 => ?_)
  · have hb0 : 0 < b := by omega
    have hk1 : ∃ j, j + 1 = k ∧ ((a % b ≤ b ∧ b * (a % b) < 2 ^ j) ∨ (1 ≤ j ∧ b < a % b ∧ b * (a % b) < 2 ^ (j - 1))) := by
      rcases hk with ⟨h1, h2⟩ | ⟨h1, h2, h3⟩
      · have hab : 1 ≤ a * b := Nat.mul_pos (by omega) hb0
        have hk0 : k ≠ 0 := fun e => by rw [e] at h2; omega
        obtain ⟨j, rfl⟩ : ∃ j, k = j + 1 := ⟨k - 1, by omega⟩
        have h3 := euclid_half h1 hb0
        have h4 := Nat.mod_lt a hb0
        rw [Nat.pow_succ] at h2
        exact ⟨j, rfl, Or.inl ⟨by omega, by omega⟩⟩
      · obtain ⟨j, rfl⟩ : ∃ j, k = j + 1 := ⟨k - 1, by omega⟩
        rw [Nat.mod_eq_of_lt h2, Nat.mul_comm b a]
        exact ⟨j, rfl, Or.inl ⟨by omega, h3⟩⟩
    obtain ⟨j, hj, hD⟩ := hk1
    have hmd := Nat.mod_lt a hb0
    refine V_lload_n (pc' := 11) hX dX8_divisor_10 rfl rfl ?_
    refine V_lload_n (pc' := 12) hX dX8_divisor_11 rfl rfl ?_
    refine V_lload_n (pc' := 13) hX dX8_divisor_12 rfl rfl ?_
    refine V_lremN (pc' := 14) hX dX8_divisor_13 (by omega) (by omega) (by omega) rfl ?_
    refine V_callS (nA := 2) (pc' := 17) (k' := 0) (n' := 0) hX dX8_divisor_14 (IH j hj b (a % b) hb (by omega) hD) wM_X8_133 wS_X8_divisor wN_X8 wC_X8_divisor rfl hy_X8_divisor rfl (Nat.le_of_ble_eq_true rfl) (by decide) (by omega) rfl rfl (by omega) rfl (by omega) rfl ?_
    rintro _ z h ⟨rfl, rfl, rfl⟩
    refine V.stk (st' := [_]) rfl ?_
    refine V_lret hX hR dX8_divisor_17 ?_
    rw [gcd_go]; exact ⟨rfl, rfl, rfl⟩
  · refine V_lload_n (pc' := 7) hX dX8_divisor_6 rfl rfl ?_
    refine V_goto (pc' := 17) hX dX8_divisor_7 rfl ?_
    refine V_lret hX hR dX8_divisor_17 ?_
    subst c2
    rw [Nat.gcd_zero_right]; exact ⟨rfl, rfl, rfl⟩
theorem c_Md_div {G : Gd} {z : Nat} {h : AH} : ∀ (k a b : Nat), a ≤ 9000000 → b ≤ 9000000 → ((b ≤ a ∧ a * b < 2 ^ k) ∨ (1 ≤ k ∧ a < b ∧ a * b < 2 ^ (k - 1))) → Ct G yX8_divisor cX8_divisor 4 (some .long) k 0 0 [.long (lN a), .long (lN b)] z h (fun r z' h' => r = some (.long (lN (Nat.gcd a b))) ∧ z' = z ∧ h' = h)
  | 0, a, b, h1, h2, h3 => c_Md_div_step 0 a b h1 h2 h3 (fun j hj => by omega)
  | k + 1, a, b, h1, h2, h3 => c_Md_div_step (k + 1) a b h1 h2 h3 (fun j hj => by
    have e : j = k := by omega
    subst e
    exact c_Md_div j)
theorem c_Md_divisor {G : Gd} {z : Nat} {h : AH}  (a b : Nat) (ha : a ≤ 9000000) (hb : b ≤ 9000000) : Ct G yX8_divisor cX8_divisor 4 (some .long) 48 0 0 [.long (lN a), .long (lN b)] z h (fun r z' h' => r = some (.long (lN (Nat.gcd a b))) ∧ z' = z ∧ h' = h) := by
  have h1 : a * b ≤ 9000000 * 9000000 := mul_bd ha hb
  refine c_Md_div 48 a b ha hb ?_
  rcases Nat.lt_or_ge a b with q | q
  · exact Or.inr ⟨by omega, q, by omega⟩
  · exact Or.inl ⟨q, by omega⟩
set_option maxRecDepth 100000 in
set_option maxHeartbeats 4000000 in
theorem c_Md_above {G : Gd} {z : Nat} {h : AH} {y : Nat} {th : Int32} {mk : Nat} {ts : Nat} {fs : Nat} {kd : Nat} {p : Nat} {q : Nat} {len : Nat} {ks : Nat} {fm : Nat} {cm : Nat} {be : Nat} {dz : Nat → Bool} {mn : Nat → Nat} {st : Nat → Nat} {tn : Nat → Nat} {tv : Nat → Nat} {fn : Nat → Nat} {fv : Nat → Nat} {on : Nat → Nat} {tw : Nat → Nat} {bf : Nat → Nat} {g1 : Nat → Nat} {g2 : Nat → Nat} {g3 : Nat → Nat} {sv : Nat → Nat} {fa : Nat → Int32} {fy : Nat → Nat} {bs : Nat → Nat} {cf : Nat → Nat} (a b s : Nat) (hs : s ≤ 3000) (hmo : mOk kd p q) (hM : mdC G h y th mk ts fs kd p q len ks fm cm be dz mn st tn tv fn fv on tw bf g1 g2 g3 sv fa fy bs cf)  : Ct G yX8_above cX8_above 7 (some .long) 0 0 0 [.ref y, .long (lN a), .long (lN b), .long (lN s)] z h (fun r z' h' => r = some (.long (lN (aboveN kd s))) ∧ z' = z ∧ h' = h) := by
  refine Ct.of (lv := [_, _, _, _, _, _, _]) (by decide) (Nat.le_of_ble_eq_true rfl) rfl ?_
  rintro X rfl hX hR hnm
  obtain ⟨m1, m2, m3, m4, m5, m6⟩ := id hmo
  refine V_lload (pc' := 2) hX dX8_above_0 rfl rfl ?_
  refine V_lconst (pc' := 3) (v := lN 0) hX dX8_above_2 rfl rfl ?_
  refine V_lcmp_neN (pt := 11) (pc' := 7) hX dX8_above_3 rfl dX8_above_4 (by omega) (by omega) rfl rfl (fun c3 => ?_) (fun c3 => ?_)
  · refine V_aload_n (pc' := 12) hX dX8_above_11 rfl rfl ?_
    refine V_get (pc' := 15) hX dX8_above_12 hM.1 rfl inX8 11 (by decide) wF_X8_32 rfl rfl ?_
    refine V_iconst (pc' := 16) (v := nI 2) hX dX8_above_15 (by decide) rfl ?_
    refine V_icmp_neN (pt := 28) (pc' := 19) hX dX8_above_16 (by omega) (by omega) rfl rfl (fun c16 => ?_) (fun c16 => ?_)
    · refine V_aload_n (pc' := 29) hX dX8_above_28 rfl rfl ?_
      refine V_get (pc' := 32) hX dX8_above_29 hM.1 rfl inX8 11 (by decide) wF_X8_32 rfl rfl ?_
      refine V_iconst (pc' := 33) (v := nI 3) hX dX8_above_32 (by decide) rfl ?_
      refine V_icmp_neN (pt := 44) (pc' := 36) hX dX8_above_33 (by omega) (by omega) rfl rfl (fun c33 => ?_) (fun c33 => ?_)
      · refine V_lload (pc' := 46) hX dX8_above_44 rfl rfl ?_
        refine V_lret hX hR dX8_above_46 ?_
        first
          | (unfold aboveN; rw [if_neg c16, if_neg c33]; exact ⟨rfl, rfl, rfl⟩)
          | (unfold aboveN; rw [if_neg c16, if_pos c33]; exact ⟨rfl, rfl, rfl⟩)
          | (unfold aboveN; rw [if_pos c16]; exact ⟨rfl, rfl, rfl⟩)
          | (subst c3; rw [aboveN_0]; exact ⟨rfl, rfl, rfl⟩)
      · refine V_lload (pc' := 38) hX dX8_above_36 rfl rfl ?_
        refine V_lload (pc' := 40) hX dX8_above_38 rfl rfl ?_
        refine V_lmulN (pc' := 41) hX dX8_above_40 rfl ?_
        refine V_goto (pc' := 46) hX dX8_above_41 rfl ?_
        refine V_lret hX hR dX8_above_46 ?_
        first
          | (unfold aboveN; rw [if_neg c16, if_neg c33]; exact ⟨rfl, rfl, rfl⟩)
          | (unfold aboveN; rw [if_neg c16, if_pos c33]; exact ⟨rfl, rfl, rfl⟩)
          | (unfold aboveN; rw [if_pos c16]; exact ⟨rfl, rfl, rfl⟩)
          | (subst c3; rw [aboveN_0]; exact ⟨rfl, rfl, rfl⟩)
    · refine V_ldc2N (pc' := 22) (v' := lN 2) hX dX8_above_19 wK_X8_127 (by decide) rfl ?_
      refine V_lload (pc' := 24) hX dX8_above_22 rfl rfl ?_
      refine V_lmulN (pc' := 25) hX dX8_above_24 rfl ?_
      refine V_goto (pc' := 46) hX dX8_above_25 rfl ?_
      refine V_lret hX hR dX8_above_46 ?_
      first
        | (unfold aboveN; rw [if_neg c16, if_neg c33]; exact ⟨rfl, rfl, rfl⟩)
        | (unfold aboveN; rw [if_neg c16, if_pos c33]; exact ⟨rfl, rfl, rfl⟩)
        | (unfold aboveN; rw [if_pos c16]; exact ⟨rfl, rfl, rfl⟩)
        | (subst c3; rw [aboveN_0]; exact ⟨rfl, rfl, rfl⟩)
  · refine V_lconst (pc' := 8) (v := lN 0) hX dX8_above_7 rfl rfl ?_
    refine V_goto (pc' := 46) hX dX8_above_8 rfl ?_
    refine V_lret hX hR dX8_above_46 ?_
    first
      | (unfold aboveN; rw [if_neg c16, if_neg c33]; exact ⟨rfl, rfl, rfl⟩)
      | (unfold aboveN; rw [if_neg c16, if_pos c33]; exact ⟨rfl, rfl, rfl⟩)
      | (unfold aboveN; rw [if_pos c16]; exact ⟨rfl, rfl, rfl⟩)
      | (subst c3; rw [aboveN_0]; exact ⟨rfl, rfl, rfl⟩)
set_option maxRecDepth 100000 in
set_option maxHeartbeats 4000000 in
theorem c_Md_below {G : Gd} {z : Nat} {h : AH} {y : Nat} {th : Int32} {mk : Nat} {ts : Nat} {fs : Nat} {kd : Nat} {p : Nat} {q : Nat} {len : Nat} {ks : Nat} {fm : Nat} {cm : Nat} {be : Nat} {dz : Nat → Bool} {mn : Nat → Nat} {st : Nat → Nat} {tn : Nat → Nat} {tv : Nat → Nat} {fn : Nat → Nat} {fv : Nat → Nat} {on : Nat → Nat} {tw : Nat → Nat} {bf : Nat → Nat} {g1 : Nat → Nat} {g2 : Nat → Nat} {g3 : Nat → Nat} {sv : Nat → Nat} {fa : Nat → Int32} {fy : Nat → Nat} {bs : Nat → Nat} {cf : Nat → Nat} (a b s : Nat) (hs : s ≤ a + b) (ha : a ≤ 3000) (hb : b ≤ 3000) (hmo : mOk kd p q) (hM : mdC G h y th mk ts fs kd p q len ks fm cm be dz mn st tn tv fn fv on tw bf g1 g2 g3 sv fa fy bs cf)  : Ct G yX8_below cX8_below 7 (some .long) 0 0 0 [.ref y, .long (lN a), .long (lN b), .long (lN s)] z h (fun r z' h' => r = some (.long (lN (belowN kd a b s))) ∧ z' = z ∧ h' = h) := by
  refine Ct.of (lv := [_, _, _, _, _, _, _]) (by decide) (Nat.le_of_ble_eq_true rfl) rfl ?_
  rintro X rfl hX hR hnm
  obtain ⟨m1, m2, m3, m4, m5, m6⟩ := id hmo
  refine V_lload (pc' := 2) hX dX8_below_0 rfl rfl ?_
  refine V_lconst (pc' := 3) (v := lN 0) hX dX8_below_2 rfl rfl ?_
  refine V_lcmp_neN (pt := 9) (pc' := 7) hX dX8_below_3 rfl dX8_below_4 (by omega) (by omega) rfl rfl (fun c3 => ?_) (fun c3 => ?_)
  · refine V_aload_n (pc' := 10) hX dX8_below_9 rfl rfl ?_
    refine V_get (pc' := 13) hX dX8_below_10 hM.1 rfl inX8 11 (by decide) wF_X8_32 rfl rfl ?_
    rcases (show kd = 0 ∨ kd = 1 ∨ kd = 2 ∨ kd = 3 ∨ kd = 4 ∨ kd = 5 by omega) with rfl | rfl | rfl | rfl | rfl | rfl
    · refine V_tableIn (pc' := 48) hX dX8_below_13 (by decide) (by decide) rfl rfl ?_
      refine V_lconst (pc' := 49) (v := lN 1) hX dX8_below_48 rfl rfl ?_
      refine V_lret hX hR dX8_below_49 ?_
      unfold belowN; rw [if_neg c3]; exact ⟨rfl, rfl, rfl⟩
    · refine V_tableIn (pc' := 70) hX dX8_below_13 (by decide) (by decide) rfl rfl ?_
      refine V_lload_n (pc' := 71) hX dX8_below_70 rfl rfl ?_
      refine V_lload_n (pc' := 72) hX dX8_below_71 rfl rfl ?_
      refine V_laddN (pc' := 73) hX dX8_below_72 rfl ?_
      refine V_lload (pc' := 75) hX dX8_below_73 rfl rfl ?_
      refine V_lsubN (pc' := 76) hX dX8_below_75 (by omega) rfl ?_
      refine V_lret hX hR dX8_below_76 ?_
      unfold belowN; rw [if_neg c3]; exact ⟨rfl, rfl, rfl⟩
    · refine V_tableIn (pc' := 50) hX dX8_below_13 (by decide) (by decide) rfl rfl ?_
      refine V_lload_n (pc' := 51) hX dX8_below_50 rfl rfl ?_
      refine V_lload_n (pc' := 52) hX dX8_below_51 rfl rfl ?_
      refine V_laddN (pc' := 53) hX dX8_below_52 rfl ?_
      refine V_lret hX hR dX8_below_53 ?_
      unfold belowN; rw [if_neg c3]; exact ⟨rfl, rfl, rfl⟩
    · refine V_tableIn (pc' := 54) hX dX8_below_13 (by decide) (by decide) rfl rfl ?_
      refine V_lload_n (pc' := 55) hX dX8_below_54 rfl rfl ?_
      refine V_lload_n (pc' := 56) hX dX8_below_55 rfl rfl ?_
      refine V_lmulN (pc' := 57) hX dX8_below_56 rfl ?_
      refine V_lret hX hR dX8_below_57 ?_
      unfold belowN; rw [if_neg c3]; exact ⟨rfl, rfl, rfl⟩
    · refine V_tableIn (pc' := 58) hX dX8_below_13 (by decide) (by decide) rfl rfl ?_
      refine V_lload_n (pc' := 59) hX dX8_below_58 rfl rfl ?_
      refine V_lload_n (pc' := 60) hX dX8_below_59 rfl rfl ?_
      refine V_lcmp_geN (pt := 68) (pc' := 64) hX dX8_below_60 rfl dX8_below_61 (by omega) (by omega) rfl rfl (fun c60 => ?_) (fun c60 => ?_)
      · refine V_lload_n (pc' := 69) hX dX8_below_68 rfl rfl ?_
        refine V_lret hX hR dX8_below_69 ?_
        unfold belowN; rw [if_neg c3, if_neg (by decide), if_neg (by decide), if_neg (by decide), if_pos rfl, Nat.min_eq_right (by omega)]; exact ⟨rfl, rfl, rfl⟩
      · refine V_lload_n (pc' := 65) hX dX8_below_64 rfl rfl ?_
        refine V_goto (pc' := 69) hX dX8_below_65 rfl ?_
        refine V_lret hX hR dX8_below_69 ?_
        unfold belowN; rw [if_neg c3, if_neg (by decide), if_neg (by decide), if_neg (by decide), if_pos rfl, Nat.min_eq_left (by omega)]; exact ⟨rfl, rfl, rfl⟩
    · refine V_tableOut (pc' := 70) hX dX8_below_13 (by decide) rfl ?_
      refine V_lload_n (pc' := 71) hX dX8_below_70 rfl rfl ?_
      refine V_lload_n (pc' := 72) hX dX8_below_71 rfl rfl ?_
      refine V_laddN (pc' := 73) hX dX8_below_72 rfl ?_
      refine V_lload (pc' := 75) hX dX8_below_73 rfl rfl ?_
      refine V_lsubN (pc' := 76) hX dX8_below_75 (by omega) rfl ?_
      refine V_lret hX hR dX8_below_76 ?_
      unfold belowN; rw [if_neg c3]; exact ⟨rfl, rfl, rfl⟩
  · refine V_lconst (pc' := 8) (v := lN 1) hX dX8_below_7 rfl rfl ?_
    refine V_lret hX hR dX8_below_8 ?_
    subst c3
    exact ⟨rfl, rfl, rfl⟩
set_option maxRecDepth 100000 in
set_option maxHeartbeats 4000000 in
theorem c_Md_isPair {G : Gd} {z : Nat} {h : AH} {y : Nat} {th : Int32} {mk : Nat} {ts : Nat} {fs : Nat} {kd : Nat} {p : Nat} {q : Nat} {len : Nat} {ks : Nat} {fm : Nat} {cm : Nat} {be : Nat} {dz : Nat → Bool} {mn : Nat → Nat} {st : Nat → Nat} {tn : Nat → Nat} {tv : Nat → Nat} {fn : Nat → Nat} {fv : Nat → Nat} {on : Nat → Nat} {tw : Nat → Nat} {bf : Nat → Nat} {g1 : Nat → Nat} {g2 : Nat → Nat} {g3 : Nat → Nat} {sv : Nat → Nat} {fa : Nat → Int32} {fy : Nat → Nat} {bs : Nat → Nat} {cf : Nat → Nat} {av : Nat → Bool} {M L : Nat → List Nat} {W F : Nat → Nat} (r s : Nat) (hr : av r = true) (hs : av s = true) (hI : mdI mk ts fs kd p q av M L W F dz mn st tn tv fn fv) (hM : mdC G h y th mk ts fs kd p q len ks fm cm be dz mn st tn tv fn fv on tw bf g1 g2 g3 sv fa fy bs cf)  : Ct G yX8_isPair cX8_isPair 13 (some .boolean) 2 0 0 [.ref y, .int (nI r), .int (nI s)] z h (fun r' z' h' => r' = some (.int (bI (reachN kd p q (amL W (L r)) (amL W (L s)) (shL W (L r) (L s))))) ∧ z' = z ∧ h' = h) := by
  refine Ct.of (lv := [_, _, _, _, _, _, _, _, _, _, _, _, _]) (by decide) (Nat.le_of_ble_eq_true rfl) rfl ?_
  rintro X rfl hX hR hnm
  obtain ⟨⟨hmk, hav, hdz⟩, hS, hT, hK, hL, hmo, hemp⟩ := id hI
  have ar := hI.am hr
  have as := hI.am hs
  have cs : (shL W (L r) (L s)) ≤ (amL W (L r)) := shL_le W (L r) (L s)
  obtain ⟨m1, m2, m3, m4, m5, m6⟩ := id hmo
  have l1 := limA_bd (kd := kd) m3
  have l2 : limA kd q ≤ 9000000 := limA_bd (by omega)
  have l3 := aboveN_bd (kd := kd) (s := (shL W (L r) (L s))) (by omega)
  have l4 := belowN_bd (kd := kd) (s := (shL W (L r) (L s))) ar as
  have l5 : aboveN kd (shL W (L r) (L s)) * limA kd q ≤ 9000000 * 9000000 := mul_bd l3 l2
  have l6 : limA kd p * belowN kd (amL W (L r)) (amL W (L s)) (shL W (L r) (L s)) ≤ 9000000 * 9000000 := mul_bd l1 l4
  refine V_aload_n (pc' := 1) hX dX8_isPair_0 rfl rfl ?_
  refine V_iload_n (pc' := 2) hX dX8_isPair_1 rfl rfl ?_
  refine V_callV (nA := 1) (pc' := 5) (k' := 0) (n' := 0) hX dX8_isPair_2 (c_Md_amountOf r hr hI hM) hM.1 rfl wM_X8_136 wI_X8_amountOf wL_X8_amountOf wN_X8 wC_X8_amountOf rfl hy_X8_amountOf rfl (Nat.le_of_ble_eq_true rfl) (by decide) (by omega) rfl rfl (by omega) rfl (by omega) rfl ?_
  rintro _ z h ⟨rfl, rfl, rfl⟩
  refine V.stk (st' := [_]) rfl ?_
  refine V_i2lN (pc' := 6) hX dX8_isPair_5 (by omega) rfl ?_
  refine V_lstore_n (pc' := 7) (lv' := [_, _, _, _, _, _, _, _, _, _, _, _, _]) hX dX8_isPair_6 (Nat.le_of_ble_eq_true rfl) rfl rfl ?_
  refine V_aload_n (pc' := 8) hX dX8_isPair_7 rfl rfl ?_
  refine V_iload_n (pc' := 9) hX dX8_isPair_8 rfl rfl ?_
  refine V_callV (nA := 1) (pc' := 12) (k' := 0) (n' := 0) hX dX8_isPair_9 (c_Md_amountOf s hs hI hM) hM.1 rfl wM_X8_136 wI_X8_amountOf wL_X8_amountOf wN_X8 wC_X8_amountOf rfl hy_X8_amountOf rfl (Nat.le_of_ble_eq_true rfl) (by decide) (by omega) rfl rfl (by omega) rfl (by omega) rfl ?_
  rintro _ z h ⟨rfl, rfl, rfl⟩
  refine V.stk (st' := [_]) rfl ?_
  refine V_i2lN (pc' := 13) hX dX8_isPair_12 (by omega) rfl ?_
  refine V_lstore (pc' := 15) (lv' := [_, _, _, _, _, _, _, _, _, _, _, _, _]) hX dX8_isPair_13 (Nat.le_of_ble_eq_true rfl) rfl rfl ?_
  refine V_aload_n (pc' := 16) hX dX8_isPair_15 rfl rfl ?_
  refine V_iload_n (pc' := 17) hX dX8_isPair_16 rfl rfl ?_
  refine V_iload_n (pc' := 18) hX dX8_isPair_17 rfl rfl ?_
  refine V_callV (nA := 2) (pc' := 21) (k' := 0) (n' := 0) hX dX8_isPair_18 (c_Md_shared r s hr hs hI hM) hM.1 rfl wM_X8_139 wI_X8_shared wL_X8_shared wN_X8 wC_X8_shared rfl hy_X8_shared rfl (Nat.le_of_ble_eq_true rfl) (by decide) (by omega) rfl rfl (by omega) rfl (by omega) rfl ?_
  rintro _ z h ⟨rfl, rfl, rfl⟩
  refine V.stk (st' := [_]) rfl ?_
  refine V_i2lN (pc' := 22) hX dX8_isPair_21 (by omega) rfl ?_
  refine V_lstore (pc' := 24) (lv' := [_, _, _, _, _, _, _, _, _, _, _, _, _]) hX dX8_isPair_22 (Nat.le_of_ble_eq_true rfl) rfl rfl ?_
  refine V_lload (pc' := 26) hX dX8_isPair_24 rfl rfl ?_
  refine V_lconst (pc' := 27) (v := lN 0) hX dX8_isPair_26 rfl rfl ?_
  refine V_lcmp_neN (pt := 33) (pc' := 31) hX dX8_isPair_27 rfl dX8_isPair_28 (by omega) (by omega) rfl rfl (fun c27 => ?_) (fun c27 => ?_)
  · have j1 :  V X 0 0 z h 60 [some (.ref y), some (.int (nI r)), some (.int (nI s)), some (.long (lN (amL W (L r)))), none, some (.long (lN (amL W (L s)))), none, some (.long (lN (shL W (L r) (L s)))), none, none, none, none, none] [.long (lN (limA kd p))] := by
      skip
      have j2 :  V X 0 0 z h 89 [some (.ref y), some (.int (nI r)), some (.int (nI s)), some (.long (lN (amL W (L r)))), none, some (.long (lN (amL W (L s)))), none, some (.long (lN (shL W (L r) (L s)))), none, some (.long (lN (limA kd p))), none, none, none] [.long (lN (limA kd q))] := by
        skip
        refine V_lstore (pc' := 91) (lv' := [_, _, _, _, _, _, _, _, _, _, _, _, _]) hX dX8_isPair_89 (Nat.le_of_ble_eq_true rfl) rfl rfl ?_
        refine V_aload_n (pc' := 92) hX dX8_isPair_91 rfl rfl ?_
        refine V_lload_n (pc' := 93) hX dX8_isPair_92 rfl rfl ?_
        refine V_lload (pc' := 95) hX dX8_isPair_93 rfl rfl ?_
        refine V_lload (pc' := 97) hX dX8_isPair_95 rfl rfl ?_
        refine V_callV (nA := 3) (pc' := 100) (k' := 0) (n' := 0) hX dX8_isPair_97 (c_Md_above (amL W (L r)) (amL W (L s)) (shL W (L r) (L s)) (by omega) hmo hM) hM.1 rfl wM_X8_142 wI_X8_above wL_X8_above wN_X8 wC_X8_above rfl hy_X8_above rfl (Nat.le_of_ble_eq_true rfl) (by decide) (by omega) rfl rfl (by omega) rfl (by omega) rfl ?_
        rintro _ z h ⟨rfl, rfl, rfl⟩
        refine V.stk (st' := [_]) rfl ?_
        refine V_lload (pc' := 102) hX dX8_isPair_100 rfl rfl ?_
        refine V_lmulN (pc' := 103) hX dX8_isPair_102 rfl ?_
        refine V_lload (pc' := 105) hX dX8_isPair_103 rfl rfl ?_
        refine V_aload_n (pc' := 106) hX dX8_isPair_105 rfl rfl ?_
        refine V_lload_n (pc' := 107) hX dX8_isPair_106 rfl rfl ?_
        refine V_lload (pc' := 109) hX dX8_isPair_107 rfl rfl ?_
        refine V_lload (pc' := 111) hX dX8_isPair_109 rfl rfl ?_
        refine V_callV (nA := 3) (pc' := 114) (k' := 0) (n' := 0) hX dX8_isPair_111 (c_Md_below (amL W (L r)) (amL W (L s)) (shL W (L r) (L s)) (by omega) ar as hmo hM) hM.1 rfl wM_X8_146 wI_X8_below wL_X8_below wN_X8 wC_X8_below rfl hy_X8_below rfl (Nat.le_of_ble_eq_true rfl) (by decide) (by omega) rfl rfl (by omega) rfl (by omega) rfl ?_
        rintro _ z h ⟨rfl, rfl, rfl⟩
        refine V.stk (st' := [_, _, _]) rfl ?_
        refine V_lmulN (pc' := 115) hX dX8_isPair_114 rfl ?_
        refine V_lcmp_ltN (pt := 123) (pc' := 119) hX dX8_isPair_115 rfl dX8_isPair_116 (by omega) (by omega) rfl rfl (fun c115 => ?_) (fun c115 => ?_)
        · refine V_iconst (pc' := 124) (v := nI 0) hX dX8_isPair_123 (by decide) rfl ?_
          refine V_zret hX hR dX8_isPair_124 (by rfl) ?_
          unfold reachN; rw [decide_eq_false (by omega)]; exact ⟨rfl, rfl, rfl⟩
        · refine V_iconst (pc' := 120) (v := nI 1) hX dX8_isPair_119 (by decide) rfl ?_
          refine V_goto (pc' := 124) hX dX8_isPair_120 rfl ?_
          refine V_zret hX hR dX8_isPair_124 (by rfl) ?_
          unfold reachN; rw [decide_eq_true (by omega)]; exact ⟨rfl, rfl, rfl⟩
      refine V_lstore (pc' := 62) (lv' := [_, _, _, _, _, _, _, _, _, _, _, _, _]) hX dX8_isPair_60 (Nat.le_of_ble_eq_true rfl) rfl rfl ?_
      refine V_aload_n (pc' := 63) hX dX8_isPair_62 rfl rfl ?_
      refine V_get (pc' := 66) hX dX8_isPair_63 hM.1 rfl inX8 11 (by decide) wF_X8_32 rfl rfl ?_
      refine V_iconst (pc' := 67) (v := nI 3) hX dX8_isPair_66 (by decide) rfl ?_
      refine V_icmp_neN (pt := 84) (pc' := 70) hX dX8_isPair_67 (by omega) (by omega) rfl rfl (fun c67 => ?_) (fun c67 => ?_)
      · refine V_aload_n (pc' := 85) hX dX8_isPair_84 rfl rfl ?_
        refine V_get (pc' := 88) hX dX8_isPair_85 hM.1 rfl inX8 13 (by decide) wF_X8_39 rfl rfl ?_
        refine V_i2lN (pc' := 89) hX dX8_isPair_88 (by omega) rfl ?_
        refine V.loc2 (lv' := [some _, some _, some _, some _, none, some _, none, some _, none, some _, none, none, none]) ⟨rfl, rfl, rfl, rfl, rfl, rfl, rfl, trivial⟩ ?_
        first
          | (have e : limA kd q = q * q := if_pos (by omega)
             rw [← e]; exact j2)
          | (have e : limA kd q = q := if_neg (by omega)
             have j := j2
             rw [e] at j; exact j)
      · refine V_aload_n (pc' := 71) hX dX8_isPair_70 rfl rfl ?_
        refine V_get (pc' := 74) hX dX8_isPair_71 hM.1 rfl inX8 13 (by decide) wF_X8_39 rfl rfl ?_
        refine V_i2lN (pc' := 75) hX dX8_isPair_74 (by omega) rfl ?_
        refine V_aload_n (pc' := 76) hX dX8_isPair_75 rfl rfl ?_
        refine V_get (pc' := 79) hX dX8_isPair_76 hM.1 rfl inX8 13 (by decide) wF_X8_39 rfl rfl ?_
        refine V_i2lN (pc' := 80) hX dX8_isPair_79 (by omega) rfl ?_
        refine V_lmulN (pc' := 81) hX dX8_isPair_80 rfl ?_
        refine V_goto (pc' := 89) hX dX8_isPair_81 rfl ?_
        refine V.loc2 (lv' := [some _, some _, some _, some _, none, some _, none, some _, none, some _, none, none, none]) ⟨rfl, rfl, rfl, rfl, rfl, rfl, rfl, trivial⟩ ?_
        first
          | (have e : limA kd q = q * q := if_pos (by omega)
             rw [← e]; exact j2)
          | (have e : limA kd q = q := if_neg (by omega)
             have j := j2
             rw [e] at j; exact j)
    refine V_aload_n (pc' := 34) hX dX8_isPair_33 rfl rfl ?_
    refine V_get (pc' := 37) hX dX8_isPair_34 hM.1 rfl inX8 11 (by decide) wF_X8_32 rfl rfl ?_
    refine V_iconst (pc' := 38) (v := nI 3) hX dX8_isPair_37 (by decide) rfl ?_
    refine V_icmp_neN (pt := 55) (pc' := 41) hX dX8_isPair_38 (by omega) (by omega) rfl rfl (fun c38 => ?_) (fun c38 => ?_)
    · refine V_aload_n (pc' := 56) hX dX8_isPair_55 rfl rfl ?_
      refine V_get (pc' := 59) hX dX8_isPair_56 hM.1 rfl inX8 12 (by decide) wF_X8_36 rfl rfl ?_
      refine V_i2lN (pc' := 60) hX dX8_isPair_59 (by omega) rfl ?_
      refine V.loc2 (lv' := [some _, some _, some _, some _, none, some _, none, some _, none, none, none, none, none]) ⟨rfl, rfl, rfl, rfl, rfl, rfl, trivial⟩ ?_
      first
        | (have e : limA kd p = p * p := if_pos (by omega)
           rw [← e]; exact j1)
        | (have e : limA kd p = p := if_neg (by omega)
           have j := j1
           rw [e] at j; exact j)
    · refine V_aload_n (pc' := 42) hX dX8_isPair_41 rfl rfl ?_
      refine V_get (pc' := 45) hX dX8_isPair_42 hM.1 rfl inX8 12 (by decide) wF_X8_36 rfl rfl ?_
      refine V_i2lN (pc' := 46) hX dX8_isPair_45 (by omega) rfl ?_
      refine V_aload_n (pc' := 47) hX dX8_isPair_46 rfl rfl ?_
      refine V_get (pc' := 50) hX dX8_isPair_47 hM.1 rfl inX8 12 (by decide) wF_X8_36 rfl rfl ?_
      refine V_i2lN (pc' := 51) hX dX8_isPair_50 (by omega) rfl ?_
      refine V_lmulN (pc' := 52) hX dX8_isPair_51 rfl ?_
      refine V_goto (pc' := 60) hX dX8_isPair_52 rfl ?_
      refine V.loc2 (lv' := [some _, some _, some _, some _, none, some _, none, some _, none, none, none, none, none]) ⟨rfl, rfl, rfl, rfl, rfl, rfl, trivial⟩ ?_
      first
        | (have e : limA kd p = p * p := if_pos (by omega)
           rw [← e]; exact j1)
        | (have e : limA kd p = p := if_neg (by omega)
           have j := j1
           rw [e] at j; exact j)
  · refine V_iconst (pc' := 32) (v := nI 0) hX dX8_isPair_31 (by decide) rfl ?_
    refine V_zret hX hR dX8_isPair_32 (by rfl) ?_
    unfold reachN; rw [decide_eq_false (by omega)]; exact ⟨rfl, rfl, rfl⟩
set_option maxRecDepth 100000 in
set_option maxHeartbeats 4000000 in
theorem c_Md_beginning {G : Gd} {z : Nat} {h : AH} {y : Nat} {th : Int32} {mk : Nat} {ts : Nat} {fs : Nat} {kd : Nat} {p : Nat} {q : Nat} {len : Nat} {ks : Nat} {fm : Nat} {cm : Nat} {be : Nat} {dz : Nat → Bool} {mn : Nat → Nat} {st : Nat → Nat} {tn : Nat → Nat} {tv : Nat → Nat} {fn : Nat → Nat} {fv : Nat → Nat} {on : Nat → Nat} {tw : Nat → Nat} {bf : Nat → Nat} {g1 : Nat → Nat} {g2 : Nat → Nat} {g3 : Nat → Nat} {sv : Nat → Nat} {fa : Nat → Int32} {fy : Nat → Nat} {bs : Nat → Nat} {cf : Nat → Nat} {W o9 : Nat → Nat} (a : Nat) (Q : List Nat) (ha : h a = some (aI G 30 o9)) (hQ : ∀ j, j < Q.length → o9 j = Q.getD j 0) (hQl : Q.length ≤ 30) (hQv : ∀ v, v ∈ Q → v < 1000000) (hT : mTok kd ts tn tv W) (hmo : mOk kd p q) (hM : mdC G h y th mk ts fs kd p q len ks fm cm be dz mn st tn tv fn fv on tw bf g1 g2 g3 sv fa fy bs cf)  : Ct G yX8_beginning cX8_beginning 6 (some .int) 2 0 0 [.ref y, .ref a, .int (nI Q.length)] z h (fun r' z' h' => r' = some (.int (nI (bgn kd p q W Q))) ∧ z' = z ∧ h' = h) := by
  refine Ct.of (lv := [_, _, _, _, _, _]) (by decide) (Nat.le_of_ble_eq_true rfl) rfl ?_
  rintro X rfl hX hR hnm
  have aQ : ∀ j, amL W (Q.drop j) ≤ 3000 := fun j => by
    have := amL_bd (fun v => (wtB hT v).2) (Q.drop j)
    rw [List.length_drop] at this
    omega
  have aQ0 := aQ 0
  rw [List.drop_zero] at aQ0
  have hlb := leastN_bd hmo (a := amL W Q) aQ0
  refine V_aload_n (pc' := 1) hX dX8_beginning_0 rfl rfl ?_
  refine V_aload_n (pc' := 2) hX dX8_beginning_1 rfl rfl ?_
  refine V_aload_n (pc' := 3) hX dX8_beginning_2 rfl rfl ?_
  refine V_iconst (pc' := 4) (v := nI 0) hX dX8_beginning_3 (by decide) rfl ?_
  refine V_iload_n (pc' := 5) hX dX8_beginning_4 rfl rfl ?_
  refine V_callV (nA := 3) (pc' := 8) (k' := 0) (n' := 0) hX dX8_beginning_5 (c_Md_amount a 0 Q ha hQ hQl hQv (by omega) hT hmo.1 hM) hM.1 rfl wM_X8_149 wI_X8_amount wL_X8_amount wN_X8 wC_X8_amount rfl hy_X8_amount rfl (Nat.le_of_ble_eq_true rfl) (by decide) (by omega) rfl rfl (by omega) rfl (by omega) rfl ?_
  rintro _ z h ⟨rfl, rfl, rfl⟩
  rw [List.drop_zero]
  refine V.stk (st' := [_, _]) rfl ?_
  refine V_i2lN (pc' := 9) hX dX8_beginning_8 (by omega) rfl ?_
  refine V_callV (nA := 1) (pc' := 12) (k' := 0) (n' := 0) hX dX8_beginning_9 (c_Md_least (amL W Q) aQ0 hmo hM) hM.1 rfl wM_X8_153 wI_X8_least wL_X8_least wN_X8 wC_X8_least rfl hy_X8_least rfl (Nat.le_of_ble_eq_true rfl) (by decide) (by omega) rfl rfl (by omega) rfl (by omega) rfl ?_
  rintro _ z h ⟨rfl, rfl, rfl⟩
  refine V.stk (st' := [_]) rfl ?_
  refine V_lstore_n (pc' := 13) (lv' := [_, _, _, _, _, _]) hX dX8_beginning_12 (Nat.le_of_ble_eq_true rfl) rfl rfl ?_
  refine V_iconst (pc' := 14) (v := nI 0) hX dX8_beginning_13 (by decide) rfl ?_
  refine V_istore (pc' := 16) (lv' := [_, _, _, _, _, _]) hX dX8_beginning_14 (Nat.le_of_ble_eq_true rfl) rfl rfl ?_
  have lp : ∀ (μ k : Nat), k ≤ Q.length → (∀ j, j < k → leastN kd p q (amL W Q) ≤ amL W (Q.drop j)) → Q.length - k < μ → V X 0 0 z h 16 [some (.ref y), some (.ref a), some (.int (nI Q.length)), some (.long (lN (leastN kd p q (amL W Q)))), none, some (.int (nI k))] [] := by
    intro μ
    induction μ with
    | zero => intros; omega
    | succ μ ih =>
      intro k b1 b2 b3
      have ak := aQ k
      refine V_iload (pc' := 18) hX dX8_beginning_16 rfl rfl ?_
      refine V_iload_n (pc' := 19) hX dX8_beginning_18 rfl rfl ?_
      refine V_icmp_geN (pt := 42) (pc' := 22) hX dX8_beginning_19 (by omega) (by omega) rfl rfl (fun c19 => ?_) (fun c19 => ?_)
      · refine V_iload (pc' := 44) hX dX8_beginning_42 rfl rfl ?_
        refine V_iret hX hR dX8_beginning_44 ?_
        have hb : begP W Q (leastN kd p q (amL W Q)) k := ⟨b1, b2, fun hl => by omega⟩
        rw [begP_bgn hb]
        exact ⟨rfl, rfl, rfl⟩
      · refine V_aload_n (pc' := 23) hX dX8_beginning_22 rfl rfl ?_
        refine V_aload_n (pc' := 24) hX dX8_beginning_23 rfl rfl ?_
        refine V_iload (pc' := 26) hX dX8_beginning_24 rfl rfl ?_
        refine V_iload_n (pc' := 27) hX dX8_beginning_26 rfl rfl ?_
        refine V_callV (nA := 3) (pc' := 30) (k' := 0) (n' := 0) hX dX8_beginning_27 (c_Md_amount a k Q ha hQ hQl hQv (by omega) hT hmo.1 hM) hM.1 rfl wM_X8_149 wI_X8_amount wL_X8_amount wN_X8 wC_X8_amount rfl hy_X8_amount rfl (Nat.le_of_ble_eq_true rfl) (by decide) (by omega) rfl rfl (by omega) rfl (by omega) rfl ?_
        rintro _ z h ⟨rfl, rfl, rfl⟩
        refine V.stk (st' := [_]) rfl ?_
        refine V_i2lN (pc' := 31) hX dX8_beginning_30 (by omega) rfl ?_
        refine V_lload_n (pc' := 32) hX dX8_beginning_31 rfl rfl ?_
        refine V_lcmp_ltN (pt := 42) (pc' := 36) hX dX8_beginning_32 rfl dX8_beginning_33 (by omega) (by omega) rfl rfl (fun c32 => ?_) (fun c32 => ?_)
        · refine V_iload (pc' := 44) hX dX8_beginning_42 rfl rfl ?_
          refine V_iret hX hR dX8_beginning_44 ?_
          have hb : begP W Q (leastN kd p q (amL W Q)) k := ⟨b1, b2, fun hl => by omega⟩
          rw [begP_bgn hb]
          exact ⟨rfl, rfl, rfl⟩
        · refine V_iincN (pc' := 39) (j := 1) (lv' := [_, _, _, _, _, _]) hX dX8_beginning_36 rfl rfl rfl rfl ?_
          refine V_goto (pc' := 16) hX dX8_beginning_39 rfl ?_
          refine V.loc2 (lv' := [some _, some _, some _, some _, none, some _]) ⟨rfl, rfl, rfl, rfl, rfl, trivial⟩ ?_
          exact ih (k + 1) (by omega) (fun j hj => by
            by_cases e : j = k
            · rw [e]; omega
            · exact b2 j (by omega)) (by omega)
  refine V.loc2 (lv' := [some _, some _, some _, some _, none, some _]) ⟨rfl, rfl, rfl, rfl, rfl, trivial⟩ ?_
  exact lp (Q.length + 1) 0 (by omega) (fun j hj => by omega) (by omega)
set_option maxRecDepth 100000 in
set_option maxHeartbeats 4000000 in
theorem c_Md_whyOf {G : Gd} {z : Nat} {h : AH} {y : Nat} {th : Int32} {mk : Nat} {ts : Nat} {fs : Nat} {kd : Nat} {p : Nat} {q : Nat} {len : Nat} {ks : Nat} {fm : Nat} {cm : Nat} {be : Nat} {dz : Nat → Bool} {mn : Nat → Nat} {st : Nat → Nat} {tn : Nat → Nat} {tv : Nat → Nat} {fn : Nat → Nat} {fv : Nat → Nat} {on : Nat → Nat} {tw : Nat → Nat} {bf : Nat → Nat} {g1 : Nat → Nat} {g2 : Nat → Nat} {g3 : Nat → Nat} {sv : Nat → Nat} {fa : Nat → Int32} {fy : Nat → Nat} {bs : Nat → Nat} {cf : Nat → Nat} {av : Nat → Bool} {M L : Nat → List Nat} {W F : Nat → Nat} (r s : Nat) (hr : av r = true) (hs : av s = true) (hI : mdI mk ts fs kd p q av M L W F dz mn st tn tv fn fv) (hM : mdC G h y th mk ts fs kd p q len ks fm cm be dz mn st tn tv fn fv on tw bf g1 g2 g3 sv fa fy bs cf)  : Ct G yX8_whyOf cX8_whyOf 16 (some .int) 3 0 0 [.ref y, .int (nI r), .int (nI s)] z h (fun r' z' h' => r' = some (.int (nI (whyN kd p q W (L r) (L s)))) ∧ z' = z ∧ fr (y + 8) (y + 10) h h' ∧ ∃ on' tw', mdC G h' y th mk ts fs kd p q len ks fm cm be dz mn st tn tv fn fv (on') (tw') bf g1 g2 g3 sv fa fy bs cf) := by
  refine Ct.of (lv := [_, _, _, _, _, _, _, _, _, _, _, _, _, _, _, _]) (by decide) (Nat.le_of_ble_eq_true rfl) rfl ?_
  rintro X rfl hX hR hnm
  obtain ⟨⟨hmk, hav, hdz⟩, hS, hT, hK, hL, hmo, hemp⟩ := id hI
  have hrm := hav r hr
  have hsm := hav s hs
  have hlr := hI.ll hr
  have hls := hI.ll hs
  have ar := hI.am hr
  have as := hI.am hs
  have cs : (shL W (L r) (L s)) ≤ (amL W (L r)) := shL_le W (L r) (L s)
  refine V_aload_n (pc' := 1) hX dX8_whyOf_0 rfl rfl ?_
  refine V_iload_n (pc' := 2) hX dX8_whyOf_1 rfl rfl ?_
  refine V_aload_n (pc' := 3) hX dX8_whyOf_2 rfl rfl ?_
  refine V_get (pc' := 6) hX dX8_whyOf_3 hM.1 rfl inX8 14 (by decide) wF_X8_42 rfl rfl ?_
  refine V_callV (nA := 2) (pc' := 9) (k' := 0) (n' := 0) hX dX8_whyOf_6 (c_Md_sort1 r hr hI hM) hM.1 rfl wM_X8_157 wI_X8_sort wL_X8_sort wN_X8 wC_X8_sort rfl hy_X8_sort rfl (Nat.le_of_ble_eq_true rfl) (by decide) (by omega) rfl rfl (by omega) rfl (by omega) rfl ?_
  rintro _ z h1 ⟨rfl, rfl, f1, o1, ho1, hM⟩
  refine V.stk (st' := []) rfl ?_
  refine V_aload_n (pc' := 10) hX dX8_whyOf_9 rfl rfl ?_
  refine V_iload_n (pc' := 11) hX dX8_whyOf_10 rfl rfl ?_
  refine V_aload_n (pc' := 12) hX dX8_whyOf_11 rfl rfl ?_
  refine V_get (pc' := 15) hX dX8_whyOf_12 hM.1 rfl inX8 15 (by decide) wF_X8_45 rfl rfl ?_
  refine V_callV (nA := 2) (pc' := 18) (k' := 0) (n' := 0) hX dX8_whyOf_15 (c_Md_sort2 s hs hI hM) hM.1 rfl wM_X8_157 wI_X8_sort wL_X8_sort wN_X8 wC_X8_sort rfl hy_X8_sort rfl (Nat.le_of_ble_eq_true rfl) (by decide) (by omega) rfl rfl (by omega) rfl (by omega) rfl ?_
  rintro _ z h2 ⟨rfl, rfl, f2, o2, ho2, hM⟩
  have f0 : fr (y + 8) (y + 10) h h2 := (f1.mono (by omega) (by omega)).tr (f2.mono (by omega) (by omega))
  refine V.stk (st' := []) rfl ?_
  refine V_aload_n (pc' := 19) hX dX8_whyOf_18 rfl rfl ?_
  refine V_aload_n (pc' := 20) hX dX8_whyOf_19 rfl rfl ?_
  refine V_get (pc' := 23) hX dX8_whyOf_20 hM.1 rfl inX8 14 (by decide) wF_X8_42 rfl rfl ?_
  refine V_aload_n (pc' := 24) hX dX8_whyOf_23 rfl rfl ?_
  refine V_get (pc' := 27) hX dX8_whyOf_24 hM.1 rfl inX8 3 (by decide) wF_X8_13 rfl rfl ?_
  refine V_iload_n (pc' := 28) hX dX8_whyOf_27 rfl rfl ?_
  refine V_ialdN (pc' := 29) (v := nI (L r).length) hX dX8_whyOf_28 hM.2.2.1 (by omega) (by omega) (by rw [hI.mn hr]) rfl ?_
  refine V_callV (nA := 2) (pc' := 32) (k' := 0) (n' := 0) hX dX8_whyOf_29 (c_Md_beginning (y + 8) (L r) hM.2.2.2.2.2.2.2.2.1 ho1 (hI.ll hr) (hI.lv hr) hT hmo hM) hM.1 rfl wM_X8_161 wI_X8_beginning wL_X8_beginning wN_X8 wC_X8_beginning rfl hy_X8_beginning rfl (Nat.le_of_ble_eq_true rfl) (by decide) (by omega) rfl rfl (by omega) rfl (by omega) rfl ?_
  rintro _ z h2 ⟨rfl, rfl, rfl⟩
  refine V.stk (st' := [_]) rfl ?_
  refine V_istore_n (pc' := 33) (lv' := [_, _, _, _, _, _, _, _, _, _, _, _, _, _, _, _]) hX dX8_whyOf_32 (Nat.le_of_ble_eq_true rfl) rfl rfl ?_
  refine V_aload_n (pc' := 34) hX dX8_whyOf_33 rfl rfl ?_
  refine V_aload_n (pc' := 35) hX dX8_whyOf_34 rfl rfl ?_
  refine V_get (pc' := 38) hX dX8_whyOf_35 hM.1 rfl inX8 15 (by decide) wF_X8_45 rfl rfl ?_
  refine V_aload_n (pc' := 39) hX dX8_whyOf_38 rfl rfl ?_
  refine V_get (pc' := 42) hX dX8_whyOf_39 hM.1 rfl inX8 3 (by decide) wF_X8_13 rfl rfl ?_
  refine V_iload_n (pc' := 43) hX dX8_whyOf_42 rfl rfl ?_
  refine V_ialdN (pc' := 44) (v := nI (L s).length) hX dX8_whyOf_43 hM.2.2.1 (by omega) (by omega) (by rw [hI.mn hs]) rfl ?_
  refine V_callV (nA := 2) (pc' := 47) (k' := 0) (n' := 0) hX dX8_whyOf_44 (c_Md_beginning (y + 9) (L s) hM.2.2.2.2.2.2.2.2.2.1 ho2 (hI.ll hs) (hI.lv hs) hT hmo hM) hM.1 rfl wM_X8_161 wI_X8_beginning wL_X8_beginning wN_X8 wC_X8_beginning rfl hy_X8_beginning rfl (Nat.le_of_ble_eq_true rfl) (by decide) (by omega) rfl rfl (by omega) rfl (by omega) rfl ?_
  rintro _ z h2 ⟨rfl, rfl, rfl⟩
  have bn := bgn_le kd p q W (L r)
  have bm := bgn_le kd p q W (L s)
  refine V.stk (st' := [_]) rfl ?_
  refine V_istore (pc' := 49) (lv' := [_, _, _, _, _, _, _, _, _, _, _, _, _, _, _, _]) hX dX8_whyOf_47 (Nat.le_of_ble_eq_true rfl) rfl rfl ?_
  refine V_iconst (pc' := 50) (v := nI 0) hX dX8_whyOf_49 (by decide) rfl ?_
  refine V_istore (pc' := 52) (lv' := [_, _, _, _, _, _, _, _, _, _, _, _, _, _, _, _]) hX dX8_whyOf_50 (Nat.le_of_ble_eq_true rfl) rfl rfl ?_
  refine V_iconst (pc' := 53) (v := nI 0) hX dX8_whyOf_52 (by decide) rfl ?_
  refine V_istore (pc' := 55) (lv' := [_, _, _, _, _, _, _, _, _, _, _, _, _, _, _, _]) hX dX8_whyOf_53 (Nat.le_of_ble_eq_true rfl) rfl rfl ?_
  have lp : ∀ (μ i : Nat) (mt : Bool), i ≤ (bgn kd p q W (L r)) → (mt = true ↔ (∃ a b, a < i ∧ b < (bgn kd p q W (L s)) ∧ (L r).getD a 0 = (L s).getD b 0)) → (bgn kd p q W (L r)) - i < μ → V X 0 0 z h2 55 [some (.ref y), some (.int (nI r)), some (.int (nI s)), some (.int (nI (bgn kd p q W (L r)))), some (.int (nI (bgn kd p q W (L s)))), some (.int (bI mt)), some (.int (nI i)), none, none, none, none, none, none, none, none, none] [] := by
    intro μ
    induction μ with
    | zero => intros; omega
    | succ μ ih =>
      intro i mt b1 b2 b3
      refine V_iload (pc' := 57) hX dX8_whyOf_55 rfl rfl ?_
      refine V_iload_n (pc' := 58) hX dX8_whyOf_57 rfl rfl ?_
      refine V_icmp_geN (pt := 112) (pc' := 61) hX dX8_whyOf_58 (by omega) (by omega) rfl rfl (fun c58 => ?_) (fun c58 => ?_)
      · refine V_iload (pc' := 114) hX dX8_whyOf_112 rfl rfl ?_
        refine V_if_neB (pt := 119) (pc' := 117) hX dX8_whyOf_114 rfl rfl (fun c114 => ?_) (fun c114 => ?_)
        · obtain ⟨a0, b0, ha0, hb0, eab⟩ := b2.mp c114
          have hsb : ¬ sbL (bgn kd p q W (L r)) (bgn kd p q W (L s)) (L r) (L s) = 0 := sbL_ne (by omega) (by omega) ⟨a0, b0, by omega, hb0, eab⟩
          refine V_aload_n (pc' := 120) hX dX8_whyOf_119 rfl rfl ?_
          refine V_iload_n (pc' := 121) hX dX8_whyOf_120 rfl rfl ?_
          refine V_callV (nA := 1) (pc' := 124) (k' := 0) (n' := 0) hX dX8_whyOf_121 (c_Md_amountOf r hr hI hM) hM.1 rfl wM_X8_136 wI_X8_amountOf wL_X8_amountOf wN_X8 wC_X8_amountOf rfl hy_X8_amountOf rfl (Nat.le_of_ble_eq_true rfl) (by decide) (by omega) rfl rfl (by omega) rfl (by omega) rfl ?_
          rintro _ z h2 ⟨rfl, rfl, rfl⟩
          refine V.stk (st' := [_]) rfl ?_
          refine V_i2lN (pc' := 125) hX dX8_whyOf_124 (by omega) rfl ?_
          refine V_lstore (pc' := 127) (lv' := [_, _, _, _, _, _, _, _, _, _, _, _, _, _, _, _]) hX dX8_whyOf_125 (Nat.le_of_ble_eq_true rfl) rfl rfl ?_
          refine V_aload_n (pc' := 128) hX dX8_whyOf_127 rfl rfl ?_
          refine V_iload_n (pc' := 129) hX dX8_whyOf_128 rfl rfl ?_
          refine V_callV (nA := 1) (pc' := 132) (k' := 0) (n' := 0) hX dX8_whyOf_129 (c_Md_amountOf s hs hI hM) hM.1 rfl wM_X8_136 wI_X8_amountOf wL_X8_amountOf wN_X8 wC_X8_amountOf rfl hy_X8_amountOf rfl (Nat.le_of_ble_eq_true rfl) (by decide) (by omega) rfl rfl (by omega) rfl (by omega) rfl ?_
          rintro _ z h2 ⟨rfl, rfl, rfl⟩
          refine V.stk (st' := [_]) rfl ?_
          refine V_i2lN (pc' := 133) hX dX8_whyOf_132 (by omega) rfl ?_
          refine V_lstore (pc' := 135) (lv' := [_, _, _, _, _, _, _, _, _, _, _, _, _, _, _, _]) hX dX8_whyOf_133 (Nat.le_of_ble_eq_true rfl) rfl rfl ?_
          refine V_aload_n (pc' := 136) hX dX8_whyOf_135 rfl rfl ?_
          refine V_lload (pc' := 138) hX dX8_whyOf_136 rfl rfl ?_
          refine V_lload (pc' := 140) hX dX8_whyOf_138 rfl rfl ?_
          refine V_callV (nA := 2) (pc' := 143) (k' := 0) (n' := 0) hX dX8_whyOf_140 (c_Md_needed (amL W (L r)) (amL W (L s)) ar as hmo hM) hM.1 rfl wM_X8_165 wI_X8_needed wL_X8_needed wN_X8 wC_X8_needed rfl hy_X8_needed rfl (Nat.le_of_ble_eq_true rfl) (by decide) (by omega) rfl rfl (by omega) rfl (by omega) rfl ?_
          rintro _ z h2 ⟨rfl, rfl, rfl⟩
          have nb := neededN_bd hmo (a := (amL W (L r))) (b := (amL W (L s))) ar as
          refine V.stk (st' := [_]) rfl ?_
          refine V_lstore (pc' := 145) (lv' := [_, _, _, _, _, _, _, _, _, _, _, _, _, _, _, _]) hX dX8_whyOf_143 (Nat.le_of_ble_eq_true rfl) rfl rfl ?_
          have j1 :  V X 0 0 z h2 162 [some (.ref y), some (.int (nI r)), some (.int (nI s)), none, none, none, some (.long (lN (amL W (L r)))), none, some (.long (lN (amL W (L s)))), none, some (.long (lN (neededN kd p q (amL W (L r)) (amL W (L s))))), none, none, none, none, none] [.long (lN (min (amL W (L r)) (amL W (L s)))), .long (lN (neededN kd p q (amL W (L r)) (amL W (L s))))] := by
            skip
            refine V_lcmp_leN (pt := 168) (pc' := 166) hX dX8_whyOf_162 rfl dX8_whyOf_163 (by omega) (by omega) rfl rfl (fun c162 => ?_) (fun c162 => ?_)
            · refine V_iconst (pc' := 169) (v := nI 0) hX dX8_whyOf_168 (by decide) rfl ?_
              refine V_istore (pc' := 171) (lv' := [_, _, _, _, _, _, _, _, _, _, _, _, _, _, _, _]) hX dX8_whyOf_169 (Nat.le_of_ble_eq_true rfl) rfl rfl ?_
              have l3 : ∀ (μ i : Nat), i ≤ a0 → (∀ a, a < i → (L r).getD a 0 ∉ L s) → a0 - i < μ → V X 0 0 z h2 171 [some (.ref y), some (.int (nI r)), some (.int (nI s)), none, none, none, some (.long (lN (amL W (L r)))), none, some (.long (lN (amL W (L s)))), none, some (.long (lN (neededN kd p q (amL W (L r)) (amL W (L s))))), none, some (.int (nI i)), none, none, none] [] := by
                intro μ
                induction μ with
                | zero => intros; omega
                | succ μ ih =>
                  intro i d1 d2 d3
                  refine V_aload_n (pc' := 172) hX dX8_whyOf_171 rfl rfl ?_
                  refine V_iload_n (pc' := 173) hX dX8_whyOf_172 rfl rfl ?_
                  refine V_aload_n (pc' := 174) hX dX8_whyOf_173 rfl rfl ?_
                  refine V_get (pc' := 177) hX dX8_whyOf_174 hM.1 rfl inX8 14 (by decide) wF_X8_42 rfl rfl ?_
                  refine V_iload (pc' := 179) hX dX8_whyOf_177 rfl rfl ?_
                  refine V_ialdN (pc' := 180) (v := nI ((L r).getD i 0)) hX dX8_whyOf_179 hM.2.2.2.2.2.2.2.2.1 (by omega) (by omega) (by rw [ho1 i (by omega)]) rfl ?_
                  refine V_callV (nA := 2) (pc' := 183) (k' := 0) (n' := 0) hX dX8_whyOf_180 (c_Md_place s (nI ((L r).getD i 0)) (by omega) hS hM) hM.1 rfl wM_X8_93 wI_X8_place wL_X8_place wN_X8 wC_X8_place rfl hy_X8_place rfl (Nat.le_of_ble_eq_true rfl) (by decide) (by omega) rfl rfl (by omega) rfl (by omega) rfl ?_
                  rintro _ z h2 ⟨w, rfl, rfl, rfl, hw⟩
                  have hvi := hI.lv hr _ (getD_mem (L := L r) (j := i) (by omega))
                  refine V.stk (st' := [_]) rfl ?_
                  refine V_iconst (pc' := 184) (v := (-1)) hX dX8_whyOf_183 (by decide) rfl ?_
                  refine V_icmp_ne (pt := 193) (pc' := 187) hX dX8_whyOf_184 rfl rfl (fun c184 => ?_) (fun c184 => ?_)
                  · have hin : ((L r).getD i 0) ∈ L s := by
                      rcases hw with ⟨hw, -⟩ | ⟨-, k, hk, e⟩
                      · exact absurd hw c184
                      · rw [nI_eq (by omega) (by have := (hS s (by omega)).2.2.2.2 k hk; omega)] at e
                        rw [e]; exact (hL s hs).1.mem_iff.mpr hk
                    obtain ⟨j0, hj0, ej0⟩ := mem_getD.mp hin
                    refine V_iconst (pc' := 194) (v := nI 0) hX dX8_whyOf_193 (by decide) rfl ?_
                    refine V_istore (pc' := 196) (lv' := [_, _, _, _, _, _, _, _, _, _, _, _, _, _, _, _]) hX dX8_whyOf_194 (Nat.le_of_ble_eq_true rfl) rfl rfl ?_
                    have l4 : ∀ (μ j : Nat), j ≤ j0 → j0 - j < μ → V X 0 0 z h2 196 [some (.ref y), some (.int (nI r)), some (.int (nI s)), none, none, none, some (.long (lN (amL W (L r)))), none, some (.long (lN (amL W (L s)))), none, some (.long (lN (neededN kd p q (amL W (L r)) (amL W (L s))))), none, some (.int (nI i)), some (.int (nI j)), none, none] [] := by
                      intro μ
                      induction μ with
                      | zero => intros; omega
                      | succ μ ih =>
                        intro j k1 k2
                        refine V_aload_n (pc' := 197) hX dX8_whyOf_196 rfl rfl ?_
                        refine V_get (pc' := 200) hX dX8_whyOf_197 hM.1 rfl inX8 15 (by decide) wF_X8_45 rfl rfl ?_
                        refine V_iload (pc' := 202) hX dX8_whyOf_200 rfl rfl ?_
                        refine V_ialdN (pc' := 203) (v := nI ((L s).getD j 0)) hX dX8_whyOf_202 hM.2.2.2.2.2.2.2.2.2.1 (by omega) (by omega) (by rw [ho2 j (by omega)]) rfl ?_
                        refine V_aload_n (pc' := 204) hX dX8_whyOf_203 rfl rfl ?_
                        refine V_get (pc' := 207) hX dX8_whyOf_204 hM.1 rfl inX8 14 (by decide) wF_X8_42 rfl rfl ?_
                        refine V_iload (pc' := 209) hX dX8_whyOf_207 rfl rfl ?_
                        refine V_ialdN (pc' := 210) (v := nI ((L r).getD i 0)) hX dX8_whyOf_209 hM.2.2.2.2.2.2.2.2.1 (by omega) (by omega) (by rw [ho1 i (by omega)]) rfl ?_
                        refine V_icmp_eqN (pt := 219) (pc' := 213) hX dX8_whyOf_210 (by have := hI.lv hs _ (getD_mem (L := L s) (j := j) (by omega)); omega) (by omega) rfl rfl (fun c210 => ?_) (fun c210 => ?_)
                        · refine V_aload_n (pc' := 220) hX dX8_whyOf_219 rfl rfl ?_
                          refine V_aload_n (pc' := 221) hX dX8_whyOf_220 rfl rfl ?_
                          refine V_get (pc' := 224) hX dX8_whyOf_221 hM.1 rfl inX8 14 (by decide) wF_X8_42 rfl rfl ?_
                          refine V_iload (pc' := 226) hX dX8_whyOf_224 rfl rfl ?_
                          refine V_iconst (pc' := 227) (v := nI 1) hX dX8_whyOf_226 (by decide) rfl ?_
                          refine V_iaddN (pc' := 228) hX dX8_whyOf_227 rfl ?_
                          refine V_aload_n (pc' := 229) hX dX8_whyOf_228 rfl rfl ?_
                          refine V_get (pc' := 232) hX dX8_whyOf_229 hM.1 rfl inX8 3 (by decide) wF_X8_13 rfl rfl ?_
                          refine V_iload_n (pc' := 233) hX dX8_whyOf_232 rfl rfl ?_
                          refine V_ialdN (pc' := 234) (v := nI (L r).length) hX dX8_whyOf_233 hM.2.2.1 (by omega) (by omega) (by rw [hI.mn hr]) rfl ?_
                          refine V_callV (nA := 3) (pc' := 237) (k' := 0) (n' := 0) hX dX8_whyOf_234 (c_Md_amount (y + 8) (i + 1) (L r) hM.2.2.2.2.2.2.2.2.1 ho1 (hI.ll hr) (hI.lv hr) (by omega) hT hmo.1 hM) hM.1 rfl wM_X8_149 wI_X8_amount wL_X8_amount wN_X8 wC_X8_amount rfl hy_X8_amount rfl (Nat.le_of_ble_eq_true rfl) (by decide) (by omega) rfl rfl (by omega) rfl (by omega) rfl ?_
                          rintro _ z h2 ⟨rfl, rfl, rfl⟩
                          refine V.stk (st' := [_]) rfl ?_
                          refine V_istore (pc' := 239) (lv' := [_, _, _, _, _, _, _, _, _, _, _, _, _, _, _, _]) hX dX8_whyOf_237 (Nat.le_of_ble_eq_true rfl) rfl rfl ?_
                          refine V_aload_n (pc' := 240) hX dX8_whyOf_239 rfl rfl ?_
                          refine V_aload_n (pc' := 241) hX dX8_whyOf_240 rfl rfl ?_
                          refine V_get (pc' := 244) hX dX8_whyOf_241 hM.1 rfl inX8 15 (by decide) wF_X8_45 rfl rfl ?_
                          refine V_iload (pc' := 246) hX dX8_whyOf_244 rfl rfl ?_
                          refine V_iconst (pc' := 247) (v := nI 1) hX dX8_whyOf_246 (by decide) rfl ?_
                          refine V_iaddN (pc' := 248) hX dX8_whyOf_247 rfl ?_
                          refine V_aload_n (pc' := 249) hX dX8_whyOf_248 rfl rfl ?_
                          refine V_get (pc' := 252) hX dX8_whyOf_249 hM.1 rfl inX8 3 (by decide) wF_X8_13 rfl rfl ?_
                          refine V_iload_n (pc' := 253) hX dX8_whyOf_252 rfl rfl ?_
                          refine V_ialdN (pc' := 254) (v := nI (L s).length) hX dX8_whyOf_253 hM.2.2.1 (by omega) (by omega) (by rw [hI.mn hs]) rfl ?_
                          refine V_callV (nA := 3) (pc' := 257) (k' := 0) (n' := 0) hX dX8_whyOf_254 (c_Md_amount (y + 9) (j + 1) (L s) hM.2.2.2.2.2.2.2.2.2.1 ho2 (hI.ll hs) (hI.lv hs) (by omega) hT hmo.1 hM) hM.1 rfl wM_X8_149 wI_X8_amount wL_X8_amount wN_X8 wC_X8_amount rfl hy_X8_amount rfl (Nat.le_of_ble_eq_true rfl) (by decide) (by omega) rfl rfl (by omega) rfl (by omega) rfl ?_
                          rintro _ z h2 ⟨rfl, rfl, rfl⟩
                          obtain ⟨X1, eX1⟩ : ∃ X1, X1 = amL W ((L r).drop (i + 1)) := ⟨_, rfl⟩
                          obtain ⟨X2, eX2⟩ : ∃ X2, X2 = amL W ((L s).drop (j + 1)) := ⟨_, rfl⟩
                          have x1 : X1 ≤ 3000 := by
                            have := amL_split W (L r) (i + 1); omega
                          have x2 : X2 ≤ 3000 := by
                            have := amL_split W (L s) (j + 1); omega
                          rw [← eX1, ← eX2]
                          have hWv := (wtB hT ((L r).getD i 0)).2
                          have emb : mbF W (L r) (L s) = W ((L r).getD i 0) + min X1 X2 := by
                            symm
                            refine mbL_F (hI.nd hs) (Or.inr ⟨(L r).take i, ((L r).getD i 0), (L r).drop (i + 1), (L s).take j, (L s).drop (j + 1), split_at (by omega), ?_, fun v hv => ?_, by rw [eX1, eX2]⟩)
                            · rw [← c210]; exact split_at (by omega)
                            · obtain ⟨a, ha, rfl⟩ := (mem_take (by omega)).mp hv
                              exact d2 a ha
                          refine V.stk (st' := [_]) rfl ?_
                          refine V_istore (pc' := 259) (lv' := [_, _, _, _, _, _, _, _, _, _, _, _, _, _, _, _]) hX dX8_whyOf_257 (Nat.le_of_ble_eq_true rfl) rfl rfl ?_
                          refine V_aload_n (pc' := 260) hX dX8_whyOf_259 rfl rfl ?_
                          refine V_aload_n (pc' := 261) hX dX8_whyOf_260 rfl rfl ?_
                          refine V_get (pc' := 264) hX dX8_whyOf_261 hM.1 rfl inX8 14 (by decide) wF_X8_42 rfl rfl ?_
                          refine V_iload (pc' := 266) hX dX8_whyOf_264 rfl rfl ?_
                          refine V_ialdN (pc' := 267) (v := nI ((L r).getD i 0)) hX dX8_whyOf_266 hM.2.2.2.2.2.2.2.2.1 (by omega) (by omega) (by rw [ho1 i (by omega)]) rfl ?_
                          refine V_callV (nA := 1) (pc' := 270) (k' := 0) (n' := 0) hX dX8_whyOf_267 (c_Md_weightOf ((L r).getD i 0) hvi hT hmo.1 hM) hM.1 rfl wM_X8_114 wI_X8_weightOf wL_X8_weightOf wN_X8 wC_X8_weightOf rfl hy_X8_weightOf rfl (Nat.le_of_ble_eq_true rfl) (by decide) (by omega) rfl rfl (by omega) rfl (by omega) rfl ?_
                          rintro _ z h2 ⟨rfl, rfl, rfl⟩
                          refine V.stk (st' := [_]) rfl ?_
                          have j2 :  V X 0 0 z h2 284 [some (.ref y), some (.int (nI r)), some (.int (nI s)), none, none, none, some (.long (lN (amL W (L r)))), none, some (.long (lN (amL W (L s)))), none, some (.long (lN (neededN kd p q (amL W (L r)) (amL W (L s))))), none, some (.int (nI i)), none, none, none] [.int (nI (min X1 X2)), .int (nI (W ((L r).getD i 0)))] := by
                            skip
                            refine V_iaddN (pc' := 285) hX dX8_whyOf_284 rfl ?_
                            refine V_i2lN (pc' := 286) hX dX8_whyOf_285 (by omega) rfl ?_
                            refine V_lload (pc' := 288) hX dX8_whyOf_286 rfl rfl ?_
                            refine V_lcmp_geN (pt := 294) (pc' := 292) hX dX8_whyOf_288 rfl dX8_whyOf_289 (by omega) (by omega) rfl rfl (fun c288 => ?_) (fun c288 => ?_)
                            · refine V_aload_n (pc' := 295) hX dX8_whyOf_294 rfl rfl ?_
                              refine V_iload_n (pc' := 296) hX dX8_whyOf_295 rfl rfl ?_
                              refine V_iload_n (pc' := 297) hX dX8_whyOf_296 rfl rfl ?_
                              refine V_callV (nA := 2) (pc' := 300) (k' := 0) (n' := 0) hX dX8_whyOf_297 (c_Md_isPair r s hr hs hI hM) hM.1 rfl wM_X8_168 wI_X8_isPair wL_X8_isPair wN_X8 wC_X8_isPair rfl hy_X8_isPair rfl (Nat.le_of_ble_eq_true rfl) (by decide) (by omega) rfl rfl (by omega) rfl (by omega) rfl ?_
                              rintro _ z h2 ⟨rfl, rfl, rfl⟩
                              refine V.stk (st' := [_]) rfl ?_
                              refine V_if_eqB (pt := 307) (pc' := 303) hX dX8_whyOf_300 rfl rfl (fun c300 => ?_) (fun c300 => ?_)
                              · refine V_iconst (pc' := 308) (v := nI 4) hX dX8_whyOf_307 (by decide) rfl ?_
                                refine V_iret hX hR dX8_whyOf_308 ?_
                                refine ⟨?_, rfl, f0, _, _, hM⟩
                                show _ = some (Value.int (nI (fateN kd p q (amL W (L r)) (amL W (L s)) (sbL (bgn kd p q W (L r)) (bgn kd p q W (L s)) (L r) (L s)) (mbF W (L r) (L s)) (shL W (L r) (L s)))))
                                unfold fateN
                                rw [if_neg hsb, if_neg (by omega), if_neg (by rw [emb]; omega), if_neg (by rw [c300]; decide)]
                              · refine V_iconst (pc' := 304) (v := nI 0) hX dX8_whyOf_303 (by decide) rfl ?_
                                refine V_goto (pc' := 308) hX dX8_whyOf_304 rfl ?_
                                refine V_iret hX hR dX8_whyOf_308 ?_
                                refine ⟨?_, rfl, f0, _, _, hM⟩
                                show _ = some (Value.int (nI (fateN kd p q (amL W (L r)) (amL W (L s)) (sbL (bgn kd p q W (L r)) (bgn kd p q W (L s)) (L r) (L s)) (mbF W (L r) (L s)) (shL W (L r) (L s)))))
                                unfold fateN
                                rw [if_neg hsb, if_neg (by omega), if_neg (by rw [emb]; omega), if_pos c300]
                            · refine V_iconst (pc' := 293) (v := nI 3) hX dX8_whyOf_292 (by decide) rfl ?_
                              refine V_iret hX hR dX8_whyOf_293 ?_
                              refine ⟨?_, rfl, f0, _, _, hM⟩
                              show _ = some (Value.int (nI (fateN kd p q (amL W (L r)) (amL W (L s)) (sbL (bgn kd p q W (L r)) (bgn kd p q W (L s)) (L r) (L s)) (mbF W (L r) (L s)) (shL W (L r) (L s)))))
                              unfold fateN
                              rw [if_neg hsb, if_neg (by omega), if_pos (by rw [emb]; omega)]
                          refine V_iload (pc' := 272) hX dX8_whyOf_270 rfl rfl ?_
                          refine V_iload (pc' := 274) hX dX8_whyOf_272 rfl rfl ?_
                          refine V_icmp_geN (pt := 282) (pc' := 277) hX dX8_whyOf_274 (by omega) (by omega) rfl rfl (fun c274 => ?_) (fun c274 => ?_)
                          · refine V_iload (pc' := 284) hX dX8_whyOf_282 rfl rfl ?_
                            refine V.loc2 (lv' := [some _, some _, some _, none, none, none, some _, none, some _, none, some _, none, some _, none, none, none]) ⟨rfl, rfl, rfl, rfl, rfl, rfl, rfl, trivial⟩ ?_
                            have j := j2
                            first
                              | (rw [show min X1 X2 = X1 by omega] at j; exact j)
                              | (rw [show min X1 X2 = X2 by omega] at j; exact j)
                          · refine V_iload (pc' := 279) hX dX8_whyOf_277 rfl rfl ?_
                            refine V_goto (pc' := 284) hX dX8_whyOf_279 rfl ?_
                            refine V.loc2 (lv' := [some _, some _, some _, none, none, none, some _, none, some _, none, some _, none, some _, none, none, none]) ⟨rfl, rfl, rfl, rfl, rfl, rfl, rfl, trivial⟩ ?_
                            have j := j2
                            first
                              | (rw [show min X1 X2 = X1 by omega] at j; exact j)
                              | (rw [show min X1 X2 = X2 by omega] at j; exact j)
                        · refine V_iincN (pc' := 216) (j := 1) (lv' := [_, _, _, _, _, _, _, _, _, _, _, _, _, _, _, _]) hX dX8_whyOf_213 rfl rfl rfl rfl ?_
                          refine V_goto (pc' := 196) hX dX8_whyOf_216 rfl ?_
                          refine V.loc2 (lv' := [some _, some _, some _, none, none, none, some _, none, some _, none, some _, none, some _, some _, none, none]) ⟨rfl, rfl, rfl, rfl, rfl, rfl, rfl, rfl, trivial⟩ ?_
                          have hne : j ≠ j0 := fun e => c210 (by rw [e]; exact ej0)
                          exact ih (j + 1) (by omega) (by omega)
                    refine V.loc2 (lv' := [some _, some _, some _, none, none, none, some _, none, some _, none, some _, none, some _, some _, none, none]) ⟨rfl, rfl, rfl, rfl, rfl, rfl, rfl, rfl, trivial⟩ ?_
                    exact l4 (j0 + 1) 0 (by omega) (by omega)
                  · have hin : ((L r).getD i 0) ∉ L s := fun hm => by
                      rcases hw with ⟨-, hw⟩ | ⟨hw, -⟩
                      · exact hw _ ((hL s hs).1.mem_iff.mp hm) rfl
                      · exact hw c184
                    refine V_iincN (pc' := 190) (j := 1) (lv' := [_, _, _, _, _, _, _, _, _, _, _, _, _, _, _, _]) hX dX8_whyOf_187 rfl rfl rfl rfl ?_
                    refine V_goto (pc' := 171) hX dX8_whyOf_190 rfl ?_
                    refine V.loc2 (lv' := [some _, some _, some _, none, none, none, some _, none, some _, none, some _, none, some _, none, none, none]) ⟨rfl, rfl, rfl, rfl, rfl, rfl, rfl, trivial⟩ ?_
                    have hne : i ≠ a0 := fun e => hin (by rw [e, eab]; exact getD_mem (by omega))
                    exact ih (i + 1) (by omega) (fun a ha => by
                      by_cases e : a = i
                      · rw [e]; exact hin
                      · exact d2 a (by omega)) (by omega)
              refine V.loc2 (lv' := [some _, some _, some _, none, none, none, some _, none, some _, none, some _, none, some _, none, none, none]) ⟨rfl, rfl, rfl, rfl, rfl, rfl, rfl, trivial⟩ ?_
              exact l3 (a0 + 1) 0 (by omega) (fun a ha => by omega) (by omega)
            · refine V_iconst (pc' := 167) (v := nI 2) hX dX8_whyOf_166 (by decide) rfl ?_
              refine V_iret hX hR dX8_whyOf_167 ?_
              refine ⟨?_, rfl, f0, _, _, hM⟩
              show _ = some (Value.int (nI (fateN kd p q (amL W (L r)) (amL W (L s)) (sbL (bgn kd p q W (L r)) (bgn kd p q W (L s)) (L r) (L s)) (mbF W (L r) (L s)) (shL W (L r) (L s)))))
              unfold fateN
              rw [if_neg hsb, if_pos (by omega)]
          refine V_lload (pc' := 147) hX dX8_whyOf_145 rfl rfl ?_
          refine V_lload (pc' := 149) hX dX8_whyOf_147 rfl rfl ?_
          refine V_lload (pc' := 151) hX dX8_whyOf_149 rfl rfl ?_
          refine V_lcmp_geN (pt := 160) (pc' := 155) hX dX8_whyOf_151 rfl dX8_whyOf_152 (by omega) (by omega) rfl rfl (fun c151 => ?_) (fun c151 => ?_)
          · refine V_lload (pc' := 162) hX dX8_whyOf_160 rfl rfl ?_
            refine V.loc2 (lv' := [some _, some _, some _, none, none, none, some _, none, some _, none, some _, none, none, none, none, none]) ⟨rfl, rfl, rfl, rfl, rfl, rfl, trivial⟩ ?_
            have j := j1
            first
              | (rw [show min (amL W (L r)) (amL W (L s)) = (amL W (L r)) by omega] at j; exact j)
              | (rw [show min (amL W (L r)) (amL W (L s)) = (amL W (L s)) by omega] at j; exact j)
          · refine V_lload (pc' := 157) hX dX8_whyOf_155 rfl rfl ?_
            refine V_goto (pc' := 162) hX dX8_whyOf_157 rfl ?_
            refine V.loc2 (lv' := [some _, some _, some _, none, none, none, some _, none, some _, none, some _, none, none, none, none, none]) ⟨rfl, rfl, rfl, rfl, rfl, rfl, trivial⟩ ?_
            have j := j1
            first
              | (rw [show min (amL W (L r)) (amL W (L s)) = (amL W (L r)) by omega] at j; exact j)
              | (rw [show min (amL W (L r)) (amL W (L s)) = (amL W (L s)) by omega] at j; exact j)
        · refine V_iconst (pc' := 118) (v := nI 1) hX dX8_whyOf_117 (by decide) rfl ?_
          refine V_iret hX hR dX8_whyOf_118 ?_
          have hsb : sbL (bgn kd p q W (L r)) (bgn kd p q W (L s)) (L r) (L s) = 0 := sbL_0 bn bm (fun a b ha hb e => by
            have := b2.mpr ⟨a, b, by omega, hb, e⟩
            rw [c114] at this; cases this)
          refine ⟨?_, rfl, f0, _, _, hM⟩
          show _ = some (Value.int (nI (fateN kd p q (amL W (L r)) (amL W (L s)) (sbL (bgn kd p q W (L r)) (bgn kd p q W (L s)) (L r) (L s)) (mbF W (L r) (L s)) (shL W (L r) (L s)))))
          unfold fateN
          rw [if_pos hsb]
      · have ihO := ih
        refine V_iconst (pc' := 62) (v := nI 0) hX dX8_whyOf_61 (by decide) rfl ?_
        refine V_istore (pc' := 64) (lv' := [_, _, _, _, _, _, _, _, _, _, _, _, _, _, _, _]) hX dX8_whyOf_62 (Nat.le_of_ble_eq_true rfl) rfl rfl ?_
        have lq : ∀ (ν j : Nat) (mt2 : Bool), j ≤ (bgn kd p q W (L s)) → (mt2 = true ↔ ((∃ a b, a < i ∧ b < (bgn kd p q W (L s)) ∧ (L r).getD a 0 = (L s).getD b 0) ∨ ∃ b, b < j ∧ (L r).getD i 0 = (L s).getD b 0)) → (bgn kd p q W (L s)) - j < ν → V X 0 0 z h2 64 [some (.ref y), some (.int (nI r)), some (.int (nI s)), some (.int (nI (bgn kd p q W (L r)))), some (.int (nI (bgn kd p q W (L s)))), some (.int (bI mt2)), some (.int (nI i)), some (.int (nI j)), none, none, none, none, none, none, none, none] [] := by
          intro μ
          induction μ with
          | zero => intros; omega
          | succ μ ih =>
            intro j mt2 e1 e2 e3
            refine V_iload (pc' := 66) hX dX8_whyOf_64 rfl rfl ?_
            refine V_iload (pc' := 68) hX dX8_whyOf_66 rfl rfl ?_
            refine V_icmp_geN (pt := 106) (pc' := 71) hX dX8_whyOf_68 (by omega) (by omega) rfl rfl (fun c68 => ?_) (fun c68 => ?_)
            · refine V_iincN (pc' := 109) (j := 1) (lv' := [_, _, _, _, _, _, _, _, _, _, _, _, _, _, _, _]) hX dX8_whyOf_106 rfl rfl rfl rfl ?_
              refine V_goto (pc' := 55) hX dX8_whyOf_109 rfl ?_
              refine V.loc2 (lv' := [some _, some _, some _, some _, some _, some _, some _, none, none, none, none, none, none, none, none, none]) ⟨rfl, rfl, rfl, rfl, rfl, rfl, rfl, trivial⟩ ?_
              exact ihO (i + 1) _ (by omega) (by
                rw [e2]
                constructor
                · rintro (⟨a, b, ha, hb, e⟩ | ⟨b, hb, e⟩)
                  · exact ⟨a, b, by omega, hb, e⟩
                  · exact ⟨i, b, by omega, by omega, e⟩
                · rintro ⟨a, b, ha, hb, e⟩
                  by_cases q : a = i
                  · exact Or.inr ⟨b, by omega, by rw [← q]; exact e⟩
                  · exact Or.inl ⟨a, b, by omega, hb, e⟩) (by omega)
            · refine V_iload (pc' := 73) hX dX8_whyOf_71 rfl rfl ?_
              refine V_if_neB (pt := 93) (pc' := 76) hX dX8_whyOf_73 rfl rfl (fun c73 => ?_) (fun c73 => ?_)
              · refine V_iconst (pc' := 94) (v := nI 1) hX dX8_whyOf_93 (by decide) rfl ?_
                refine V.eqi (show nI 1 = bI true from rfl) ?_
                refine V_goto (pc' := 98) hX dX8_whyOf_94 rfl ?_
                refine V_istore (pc' := 100) (lv' := [_, _, _, _, _, _, _, _, _, _, _, _, _, _, _, _]) hX dX8_whyOf_98 (Nat.le_of_ble_eq_true rfl) rfl rfl ?_
                refine V_iincN (pc' := 103) (j := 1) (lv' := [_, _, _, _, _, _, _, _, _, _, _, _, _, _, _, _]) hX dX8_whyOf_100 rfl rfl rfl rfl ?_
                refine V_goto (pc' := 64) hX dX8_whyOf_103 rfl ?_
                refine V.loc2 (lv' := [some _, some _, some _, some _, some _, some _, some _, some _, none, none, none, none, none, none, none, none]) ⟨rfl, rfl, rfl, rfl, rfl, rfl, rfl, rfl, trivial⟩ ?_
                first
                  | exact ih (j + 1) true (by omega) ⟨fun _ => (by
                      first
                        | (rcases e2.mp c73 with q | ⟨b, hb, e⟩
                           · exact Or.inl q
                           · exact Or.inr ⟨b, by omega, e⟩)
                        | exact Or.inr ⟨j, by omega, c90⟩), fun _ => rfl⟩ (by omega)
                  | exact ih (j + 1) false (by omega) ⟨fun e => (by cases e), (fun q => by
                      exfalso
                      rcases q with q | ⟨b, hb, e⟩
                      · have := e2.mpr (Or.inl q); rw [c73] at this; cases this
                      · by_cases w : b = j
                        · rw [w] at e; exact c90 e
                        · have := e2.mpr (Or.inr ⟨b, by omega, e⟩); rw [c73] at this; cases this)⟩ (by omega)
              · refine V_aload_n (pc' := 77) hX dX8_whyOf_76 rfl rfl ?_
                refine V_get (pc' := 80) hX dX8_whyOf_77 hM.1 rfl inX8 14 (by decide) wF_X8_42 rfl rfl ?_
                refine V_iload (pc' := 82) hX dX8_whyOf_80 rfl rfl ?_
                refine V_ialdN (pc' := 83) (v := nI ((L r).getD i 0)) hX dX8_whyOf_82 hM.2.2.2.2.2.2.2.2.1 (by omega) (by omega) (by rw [ho1 i (by omega)]) rfl ?_
                refine V_aload_n (pc' := 84) hX dX8_whyOf_83 rfl rfl ?_
                refine V_get (pc' := 87) hX dX8_whyOf_84 hM.1 rfl inX8 15 (by decide) wF_X8_45 rfl rfl ?_
                refine V_iload (pc' := 89) hX dX8_whyOf_87 rfl rfl ?_
                refine V_ialdN (pc' := 90) (v := nI ((L s).getD j 0)) hX dX8_whyOf_89 hM.2.2.2.2.2.2.2.2.2.1 (by omega) (by omega) (by rw [ho2 j (by omega)]) rfl ?_
                refine V_icmp_neN (pt := 97) (pc' := 93) hX dX8_whyOf_90 (by have := hI.lv hr _ (getD_mem (L := L r) (j := i) (by omega)); omega) (by have := hI.lv hs _ (getD_mem (L := L s) (j := j) (by omega)); omega) rfl rfl (fun c90 => ?_) (fun c90 => ?_)
                · refine V_iconst (pc' := 98) (v := nI 0) hX dX8_whyOf_97 (by decide) rfl ?_
                  refine V.eqi (show nI 0 = bI false from rfl) ?_
                  refine V_istore (pc' := 100) (lv' := [_, _, _, _, _, _, _, _, _, _, _, _, _, _, _, _]) hX dX8_whyOf_98 (Nat.le_of_ble_eq_true rfl) rfl rfl ?_
                  refine V_iincN (pc' := 103) (j := 1) (lv' := [_, _, _, _, _, _, _, _, _, _, _, _, _, _, _, _]) hX dX8_whyOf_100 rfl rfl rfl rfl ?_
                  refine V_goto (pc' := 64) hX dX8_whyOf_103 rfl ?_
                  refine V.loc2 (lv' := [some _, some _, some _, some _, some _, some _, some _, some _, none, none, none, none, none, none, none, none]) ⟨rfl, rfl, rfl, rfl, rfl, rfl, rfl, rfl, trivial⟩ ?_
                  first
                    | exact ih (j + 1) true (by omega) ⟨fun _ => (by
                        first
                          | (rcases e2.mp c73 with q | ⟨b, hb, e⟩
                             · exact Or.inl q
                             · exact Or.inr ⟨b, by omega, e⟩)
                          | exact Or.inr ⟨j, by omega, c90⟩), fun _ => rfl⟩ (by omega)
                    | exact ih (j + 1) false (by omega) ⟨fun e => (by cases e), (fun q => by
                        exfalso
                        rcases q with q | ⟨b, hb, e⟩
                        · have := e2.mpr (Or.inl q); rw [c73] at this; cases this
                        · by_cases w : b = j
                          · rw [w] at e; exact c90 e
                          · have := e2.mpr (Or.inr ⟨b, by omega, e⟩); rw [c73] at this; cases this)⟩ (by omega)
                · refine V_iconst (pc' := 94) (v := nI 1) hX dX8_whyOf_93 (by decide) rfl ?_
                  refine V.eqi (show nI 1 = bI true from rfl) ?_
                  refine V_goto (pc' := 98) hX dX8_whyOf_94 rfl ?_
                  refine V_istore (pc' := 100) (lv' := [_, _, _, _, _, _, _, _, _, _, _, _, _, _, _, _]) hX dX8_whyOf_98 (Nat.le_of_ble_eq_true rfl) rfl rfl ?_
                  refine V_iincN (pc' := 103) (j := 1) (lv' := [_, _, _, _, _, _, _, _, _, _, _, _, _, _, _, _]) hX dX8_whyOf_100 rfl rfl rfl rfl ?_
                  refine V_goto (pc' := 64) hX dX8_whyOf_103 rfl ?_
                  refine V.loc2 (lv' := [some _, some _, some _, some _, some _, some _, some _, some _, none, none, none, none, none, none, none, none]) ⟨rfl, rfl, rfl, rfl, rfl, rfl, rfl, rfl, trivial⟩ ?_
                  first
                    | exact ih (j + 1) true (by omega) ⟨fun _ => (by
                        first
                          | (rcases e2.mp c73 with q | ⟨b, hb, e⟩
                             · exact Or.inl q
                             · exact Or.inr ⟨b, by omega, e⟩)
                          | exact Or.inr ⟨j, by omega, c90⟩), fun _ => rfl⟩ (by omega)
                    | exact ih (j + 1) false (by omega) ⟨fun e => (by cases e), (fun q => by
                        exfalso
                        rcases q with q | ⟨b, hb, e⟩
                        · have := e2.mpr (Or.inl q); rw [c73] at this; cases this
                        · by_cases w : b = j
                          · rw [w] at e; exact c90 e
                          · have := e2.mpr (Or.inr ⟨b, by omega, e⟩); rw [c73] at this; cases this)⟩ (by omega)
        refine V.loc2 (lv' := [some _, some _, some _, some _, some _, some _, some _, some _, none, none, none, none, none, none, none, none]) ⟨rfl, rfl, rfl, rfl, rfl, rfl, rfl, rfl, trivial⟩ ?_
        exact lq ((bgn kd p q W (L s)) + 1) 0 mt (by omega) (by
          rw [b2]
          exact ⟨Or.inl, fun q => q.elim id (fun ⟨b, hb, _⟩ => by omega)⟩) (by omega)
  refine V.loc2 (lv' := [some _, some _, some _, some _, some _, some _, some _, none, none, none, none, none, none, none, none, none]) ⟨rfl, rfl, rfl, rfl, rfl, rfl, rfl, trivial⟩ ?_
  exact lp ((bgn kd p q W (L r)) + 1) 0 false (by omega) ⟨fun e => (by cases e), (fun ⟨a, b, ha, _⟩ => by omega)⟩ (by omega)
set_option maxRecDepth 100000 in
set_option maxHeartbeats 4000000 in
theorem c_Md_why {G : Gd} {z : Nat} {h : AH} {y : Nat} {th : Int32} {mk : Nat} {ts : Nat} {fs : Nat} {kd : Nat} {p : Nat} {q : Nat} {len : Nat} {ks : Nat} {fm : Nat} {cm : Nat} {be : Nat} {dz : Nat → Bool} {mn : Nat → Nat} {st : Nat → Nat} {tn : Nat → Nat} {tv : Nat → Nat} {fn : Nat → Nat} {fv : Nat → Nat} {on : Nat → Nat} {tw : Nat → Nat} {bf : Nat → Nat} {g1 : Nat → Nat} {g2 : Nat → Nat} {g3 : Nat → Nat} {sv : Nat → Nat} {fa : Nat → Int32} {fy : Nat → Nat} {bs : Nat → Nat} {cf : Nat → Nat} {av : Nat → Bool} {M L : Nat → List Nat} {W F : Nat → Nat} (r s : Int32) (hI : mdI mk ts fs kd p q av M L W F dz mn st tn tv fn fv) (hM : mdC G h y th mk ts fs kd p q len ks fm cm be dz mn st tn tv fn fv on tw bf g1 g2 g3 sv fa fy bs cf)  : Ct G yX8_why cX8_why 3 (some .int) 4 0 0 [.ref y, .int r, .int s] z h (fun r' z' h' => z' = z ∧ fr y (y + 19) h h' ∧ ∃ on' tw', (((avI av r && (avI av s && decide (r ≠ s))) = false ∧ r' = some (.int (-1))) ∨ ∃ i j, r = nI i ∧ s = nI j ∧ av i = true ∧ av j = true ∧ i ≠ j ∧  r' = some (.int (nI (whyN kd p q W (L i) (L j))))) ∧ mdC G h' y (nI 0) mk ts fs kd p q len ks fm cm be dz mn st tn tv fn fv (on') (tw') bf g1 g2 g3 sv fa fy bs cf) := by
  refine Ct.of (lv := [_, _, _]) (by decide) (Nat.le_of_ble_eq_true rfl) rfl ?_
  rintro X rfl hX hR hnm
  refine V_aload_n (pc' := 1) hX dX8_why_0 rfl rfl ?_
  refine V_iconst (pc' := 2) (v := nI 0) hX dX8_why_1 (by decide) rfl ?_
  refine V_put (pc' := 5) (fs' := [_, _, _, _, _, _, _, _, _, _, _, _, _, _, _, _, _, _, _, _, _, _, _, _, _, _, _, _, _, _]) (ty0 := tyX8) hX dX8_why_2 hM.1 rfl inX8 tyX8_ok nmX8 0 (by decide) wF_X8_75 rfl (tyX8_ok 0 (by decide)) rfl rfl (Nat.le_of_ble_eq_true rfl) rfl rfl ?_
  refine V.gen (fun h0 eh0 => ?_)
  have f0 := fr.of_up eh0
  have hM := hM.u0 (up_at eh0) f0
  have f0 := f0.mono (lo' := y) (hi' := y + 19) (by omega) (by omega)
  refine V_aload_n (pc' := 6) hX dX8_why_5 rfl rfl ?_
  refine V_iload_n (pc' := 7) hX dX8_why_6 rfl rfl ?_
  refine V_iload_n (pc' := 8) hX dX8_why_7 rfl rfl ?_
  refine V_callV (nA := 2) (pc' := 11) (k' := 0) (n' := 0) hX dX8_why_8 (c_Md_isTwo r s hI hM) hM.1 rfl wM_X8_171 wI_X8_isTwo wL_X8_isTwo wN_X8 wC_X8_isTwo rfl hy_X8_isTwo rfl (Nat.le_of_ble_eq_true rfl) (by decide) (by omega) rfl rfl (by omega) rfl (by omega) rfl ?_
  rintro _ z h0 ⟨rfl, rfl, rfl⟩
  refine V.stk (st' := [_]) rfl ?_
  refine V_if_eqB (pt := 23) (pc' := 14) hX dX8_why_11 rfl rfl (fun c11 => ?_) (fun c11 => ?_)
  · refine V_iconst (pc' := 24) (v := (-1)) hX dX8_why_23 (by decide) rfl ?_
    refine V_iret hX hR dX8_why_24 ?_
    exact ⟨rfl, f0, _, _, Or.inl ⟨c11, rfl⟩, hM⟩
  · rw [Bool.and_eq_true, Bool.and_eq_true] at c11
    obtain ⟨i, hi31, rfl, hi⟩ := avI_yes c11.1
    obtain ⟨j, hj31, rfl, hj⟩ := avI_yes c11.2.1
    have hij : i ≠ j := fun e => of_decide_eq_true c11.2.2 (by rw [e])
    refine V_aload_n (pc' := 15) hX dX8_why_14 rfl rfl ?_
    refine V_iload_n (pc' := 16) hX dX8_why_15 rfl rfl ?_
    refine V_iload_n (pc' := 17) hX dX8_why_16 rfl rfl ?_
    refine V_callV (nA := 2) (pc' := 20) (k' := 0) (n' := 0) hX dX8_why_17 (c_Md_whyOf i j hi hj hI hM) hM.1 rfl wM_X8_174 wI_X8_whyOf wL_X8_whyOf wN_X8 wC_X8_whyOf rfl hy_X8_whyOf rfl (Nat.le_of_ble_eq_true rfl) (by decide) (by omega) rfl rfl (by omega) rfl (by omega) rfl ?_
    rintro _ z h1 ⟨rfl, rfl, f1, o1, o2, hM⟩
    refine V.stk (st' := [_]) rfl ?_
    refine V_goto (pc' := 24) hX dX8_why_20 rfl ?_
    refine V_iret hX hR dX8_why_24 ?_
    exact ⟨rfl, f0.tr (f1.mono (by omega) (by omega)), _, _, Or.inr ⟨i, j, rfl, rfl, hi, hj, hij, rfl⟩, hM⟩
set_option maxRecDepth 100000 in
set_option maxHeartbeats 4000000 in
theorem c_Md_like {G : Gd} {z : Nat} {h : AH} {y : Nat} {th : Int32} {mk : Nat} {ts : Nat} {fs : Nat} {kd : Nat} {p : Nat} {q : Nat} {len : Nat} {ks : Nat} {fm : Nat} {cm : Nat} {be : Nat} {dz : Nat → Bool} {mn : Nat → Nat} {st : Nat → Nat} {tn : Nat → Nat} {tv : Nat → Nat} {fn : Nat → Nat} {fv : Nat → Nat} {on : Nat → Nat} {tw : Nat → Nat} {bf : Nat → Nat} {g1 : Nat → Nat} {g2 : Nat → Nat} {g3 : Nat → Nat} {sv : Nat → Nat} {fa : Nat → Int32} {fy : Nat → Nat} {bs : Nat → Nat} {cf : Nat → Nat} {av : Nat → Bool} {M L : Nat → List Nat} {W F : Nat → Nat} (r s what : Int32) (hI : mdI mk ts fs kd p q av M L W F dz mn st tn tv fn fv) (hM : mdC G h y th mk ts fs kd p q len ks fm cm be dz mn st tn tv fn fv on tw bf g1 g2 g3 sv fa fy bs cf)  : Ct G yX8_like cX8_like 16 (some .long) 50 0 0 [.ref y, .int r, .int s, .int what] z h (fun r' z' h' => z' = z ∧ fr y (y + 19) h h' ∧ ∃ w, r' = some (.long w) ∧ (((avI av r && (avI av s && decide (r ≠ s))) = false ∧ w = -1) ∨ ∃ i j, r = nI i ∧ s = nI j ∧ av i = true ∧ av j = true ∧ i ≠ j ∧  w = likeV kd p q (amL W (L i)) (amL W (L j)) (shL W (L i) (L j)) what) ∧ mdC G h' y (nI 0) mk ts fs kd p q len ks fm cm be dz mn st tn tv fn fv on tw bf g1 g2 g3 sv fa fy bs cf) := by
  refine Ct.of (lv := [_, _, _, _, _, _, _, _, _, _, _, _, _, _, _, _]) (by decide) (Nat.le_of_ble_eq_true rfl) rfl ?_
  rintro X rfl hX hR hnm
  obtain ⟨⟨hmk, hav, hdz⟩, hS, hT, hK, hL, hmo, hemp⟩ := id hI
  refine V_aload_n (pc' := 1) hX dX8_like_0 rfl rfl ?_
  refine V_iconst (pc' := 2) (v := nI 0) hX dX8_like_1 (by decide) rfl ?_
  refine V_put (pc' := 5) (fs' := [_, _, _, _, _, _, _, _, _, _, _, _, _, _, _, _, _, _, _, _, _, _, _, _, _, _, _, _, _, _]) (ty0 := tyX8) hX dX8_like_2 hM.1 rfl inX8 tyX8_ok nmX8 0 (by decide) wF_X8_75 rfl (tyX8_ok 0 (by decide)) rfl rfl (Nat.le_of_ble_eq_true rfl) rfl rfl ?_
  refine V.gen (fun h0 eh0 => ?_)
  have f0 := fr.of_up eh0
  have hM := hM.u0 (up_at eh0) f0
  have f0 := f0.mono (lo' := y) (hi' := y + 19) (by omega) (by omega)
  refine V_aload_n (pc' := 6) hX dX8_like_5 rfl rfl ?_
  refine V_iload_n (pc' := 7) hX dX8_like_6 rfl rfl ?_
  refine V_iload_n (pc' := 8) hX dX8_like_7 rfl rfl ?_
  refine V_callV (nA := 2) (pc' := 11) (k' := 0) (n' := 0) hX dX8_like_8 (c_Md_isTwo r s hI hM) hM.1 rfl wM_X8_171 wI_X8_isTwo wL_X8_isTwo wN_X8 wC_X8_isTwo rfl hy_X8_isTwo rfl (Nat.le_of_ble_eq_true rfl) (by decide) (by omega) rfl rfl (by omega) rfl (by omega) rfl ?_
  rintro _ z h0 ⟨rfl, rfl, rfl⟩
  refine V.stk (st' := [_]) rfl ?_
  refine V_if_neB (pt := 18) (pc' := 14) hX dX8_like_11 rfl rfl (fun c11 => ?_) (fun c11 => ?_)
  · rw [Bool.and_eq_true, Bool.and_eq_true] at c11
    obtain ⟨i, hi31, rfl, hi⟩ := avI_yes c11.1
    obtain ⟨j, hj31, rfl, hjj⟩ := avI_yes c11.2.1
    have hij : i ≠ j := fun e => of_decide_eq_true c11.2.2 (by rw [e])
    have ar := hI.am hi
    have as := hI.am hjj
    have cs : (shL W (L i) (L j)) ≤ (amL W (L i)) := shL_le W (L i) (L j)
    have hpos := shL_pos (w := W) (L := L i) (M := L j)
    have l3 := aboveN_bd (kd := kd) (s := (shL W (L i) (L j))) (by omega)
    have l4 := belowN_bd (kd := kd) (s := (shL W (L i) (L j))) ar as
    have l5 := belowN_pos2 (kd := kd) cs hpos
    have gp : 0 < Nat.gcd (belowN kd (amL W (L i)) (amL W (L j)) (shL W (L i) (L j))) (aboveN kd (shL W (L i) (L j))) := Nat.gcd_pos_of_pos_left _ l5
    have gl : Nat.gcd (belowN kd (amL W (L i)) (amL W (L j)) (shL W (L i) (L j))) (aboveN kd (shL W (L i) (L j))) ≤ 9000000 := Nat.le_trans (Nat.gcd_le_left _ l5) l4
    refine V_aload_n (pc' := 19) hX dX8_like_18 rfl rfl ?_
    refine V_iload_n (pc' := 20) hX dX8_like_19 rfl rfl ?_
    refine V_callV (nA := 1) (pc' := 23) (k' := 0) (n' := 0) hX dX8_like_20 (c_Md_amountOf i hi hI hM) hM.1 rfl wM_X8_136 wI_X8_amountOf wL_X8_amountOf wN_X8 wC_X8_amountOf rfl hy_X8_amountOf rfl (Nat.le_of_ble_eq_true rfl) (by decide) (by omega) rfl rfl (by omega) rfl (by omega) rfl ?_
    rintro _ z h0 ⟨rfl, rfl, rfl⟩
    refine V.stk (st' := [_]) rfl ?_
    refine V_i2lN (pc' := 24) hX dX8_like_23 (by omega) rfl ?_
    refine V_lstore (pc' := 26) (lv' := [_, _, _, _, _, _, _, _, _, _, _, _, _, _, _, _]) hX dX8_like_24 (Nat.le_of_ble_eq_true rfl) rfl rfl ?_
    refine V_aload_n (pc' := 27) hX dX8_like_26 rfl rfl ?_
    refine V_iload_n (pc' := 28) hX dX8_like_27 rfl rfl ?_
    refine V_callV (nA := 1) (pc' := 31) (k' := 0) (n' := 0) hX dX8_like_28 (c_Md_amountOf j hjj hI hM) hM.1 rfl wM_X8_136 wI_X8_amountOf wL_X8_amountOf wN_X8 wC_X8_amountOf rfl hy_X8_amountOf rfl (Nat.le_of_ble_eq_true rfl) (by decide) (by omega) rfl rfl (by omega) rfl (by omega) rfl ?_
    rintro _ z h0 ⟨rfl, rfl, rfl⟩
    refine V.stk (st' := [_]) rfl ?_
    refine V_i2lN (pc' := 32) hX dX8_like_31 (by omega) rfl ?_
    refine V_lstore (pc' := 34) (lv' := [_, _, _, _, _, _, _, _, _, _, _, _, _, _, _, _]) hX dX8_like_32 (Nat.le_of_ble_eq_true rfl) rfl rfl ?_
    refine V_aload_n (pc' := 35) hX dX8_like_34 rfl rfl ?_
    refine V_iload_n (pc' := 36) hX dX8_like_35 rfl rfl ?_
    refine V_iload_n (pc' := 37) hX dX8_like_36 rfl rfl ?_
    refine V_callV (nA := 2) (pc' := 40) (k' := 0) (n' := 0) hX dX8_like_37 (c_Md_shared i j hi hjj hI hM) hM.1 rfl wM_X8_139 wI_X8_shared wL_X8_shared wN_X8 wC_X8_shared rfl hy_X8_shared rfl (Nat.le_of_ble_eq_true rfl) (by decide) (by omega) rfl rfl (by omega) rfl (by omega) rfl ?_
    rintro _ z h0 ⟨rfl, rfl, rfl⟩
    refine V.stk (st' := [_]) rfl ?_
    refine V_i2lN (pc' := 41) hX dX8_like_40 (by omega) rfl ?_
    refine V_lstore (pc' := 43) (lv' := [_, _, _, _, _, _, _, _, _, _, _, _, _, _, _, _]) hX dX8_like_41 (Nat.le_of_ble_eq_true rfl) rfl rfl ?_
    refine V_aload_n (pc' := 44) hX dX8_like_43 rfl rfl ?_
    refine V_lload (pc' := 46) hX dX8_like_44 rfl rfl ?_
    refine V_lload (pc' := 48) hX dX8_like_46 rfl rfl ?_
    refine V_lload (pc' := 50) hX dX8_like_48 rfl rfl ?_
    refine V_callV (nA := 3) (pc' := 53) (k' := 0) (n' := 0) hX dX8_like_50 (c_Md_above (amL W (L i)) (amL W (L j)) (shL W (L i) (L j)) (by omega) hmo hM) hM.1 rfl wM_X8_142 wI_X8_above wL_X8_above wN_X8 wC_X8_above rfl hy_X8_above rfl (Nat.le_of_ble_eq_true rfl) (by decide) (by omega) rfl rfl (by omega) rfl (by omega) rfl ?_
    rintro _ z h0 ⟨rfl, rfl, rfl⟩
    refine V.stk (st' := [_]) rfl ?_
    refine V_lstore (pc' := 55) (lv' := [_, _, _, _, _, _, _, _, _, _, _, _, _, _, _, _]) hX dX8_like_53 (Nat.le_of_ble_eq_true rfl) rfl rfl ?_
    refine V_aload_n (pc' := 56) hX dX8_like_55 rfl rfl ?_
    refine V_lload (pc' := 58) hX dX8_like_56 rfl rfl ?_
    refine V_lload (pc' := 60) hX dX8_like_58 rfl rfl ?_
    refine V_lload (pc' := 62) hX dX8_like_60 rfl rfl ?_
    refine V_callV (nA := 3) (pc' := 65) (k' := 0) (n' := 0) hX dX8_like_62 (c_Md_below (amL W (L i)) (amL W (L j)) (shL W (L i) (L j)) (by omega) ar as hmo hM) hM.1 rfl wM_X8_146 wI_X8_below wL_X8_below wN_X8 wC_X8_below rfl hy_X8_below rfl (Nat.le_of_ble_eq_true rfl) (by decide) (by omega) rfl rfl (by omega) rfl (by omega) rfl ?_
    rintro _ z h0 ⟨rfl, rfl, rfl⟩
    refine V.stk (st' := [_]) rfl ?_
    refine V_lstore (pc' := 67) (lv' := [_, _, _, _, _, _, _, _, _, _, _, _, _, _, _, _]) hX dX8_like_65 (Nat.le_of_ble_eq_true rfl) rfl rfl ?_
    refine V_lload (pc' := 69) hX dX8_like_67 rfl rfl ?_
    refine V_lload (pc' := 71) hX dX8_like_69 rfl rfl ?_
    refine V_callS (nA := 2) (pc' := 74) (k' := 0) (n' := 0) hX dX8_like_71 (c_Md_divisor _ _ l4 l3) wM_X8_133 wS_X8_divisor wN_X8 wC_X8_divisor rfl hy_X8_divisor rfl (Nat.le_of_ble_eq_true rfl) (by decide) (by omega) rfl rfl (by omega) rfl (by omega) rfl ?_
    rintro _ z h0 ⟨rfl, rfl, rfl⟩
    refine V.stk (st' := [_]) rfl ?_
    refine V_lstore (pc' := 76) (lv' := [_, _, _, _, _, _, _, _, _, _, _, _, _, _, _, _]) hX dX8_like_74 (Nat.le_of_ble_eq_true rfl) rfl rfl ?_
    refine V_iload_n (pc' := 77) hX dX8_like_76 rfl rfl ?_
    rcases pk_ix what (n := 5) (by omega) with hsw | hsw | ⟨j, hj, rfl⟩
    · have hsw : what.toInt < 0 ∨ 4 < what.toInt := Or.inl (by rw [i32_lt] at hsw; exact hsw)
      refine V_tableOut (pc' := 151) hX dX8_like_77 hsw rfl ?_
      refine V_ldc2N (pc' := 154) (v' := (-1)) hX dX8_like_151 wK_X8_177 (by decide) rfl ?_
      refine V_lret hX hR dX8_like_154 ?_
      exact ⟨rfl, f0, _, rfl, Or.inr ⟨i, j, rfl, rfl, hi, hjj, hij, (likeV_out hsw).symm⟩, hM⟩
    · have hsw : what.toInt < 0 ∨ 4 < what.toInt := Or.inr (by rw [i32_le, nI_toInt (by omega)] at hsw; omega)
      refine V_tableOut (pc' := 151) hX dX8_like_77 hsw rfl ?_
      refine V_ldc2N (pc' := 154) (v' := (-1)) hX dX8_like_151 wK_X8_177 (by decide) rfl ?_
      refine V_lret hX hR dX8_like_154 ?_
      exact ⟨rfl, f0, _, rfl, Or.inr ⟨i, j, rfl, rfl, hi, hjj, hij, (likeV_out hsw).symm⟩, hM⟩
    · rcases (show j = 0 ∨ j = 1 ∨ j = 2 ∨ j = 3 ∨ j = 4 by omega) with rfl | rfl | rfl | rfl | rfl
      · refine V_tableIn (pc' := 112) hX dX8_like_77 (by decide) (by decide) rfl rfl ?_
        refine V_lload (pc' := 114) hX dX8_like_112 rfl rfl ?_
        refine V_lret hX hR dX8_like_114 ?_
        exact ⟨rfl, f0, _, rfl, Or.inr ⟨i, j, rfl, rfl, hi, hjj, hij, rfl⟩, hM⟩
      · refine V_tableIn (pc' := 115) hX dX8_like_77 (by decide) (by decide) rfl rfl ?_
        refine V_aload_n (pc' := 116) hX dX8_like_115 rfl rfl ?_
        refine V_lload (pc' := 118) hX dX8_like_116 rfl rfl ?_
        refine V_lload (pc' := 120) hX dX8_like_118 rfl rfl ?_
        refine V_callV (nA := 2) (pc' := 123) (k' := 0) (n' := 0) hX dX8_like_120 (c_Md_needed (amL W (L i)) (amL W (L j)) ar as hmo hM) hM.1 rfl wM_X8_165 wI_X8_needed wL_X8_needed wN_X8 wC_X8_needed rfl hy_X8_needed rfl (Nat.le_of_ble_eq_true rfl) (by decide) (by omega) rfl rfl (by omega) rfl (by omega) rfl ?_
        rintro _ z h0 ⟨rfl, rfl, rfl⟩
        refine V.stk (st' := [_]) rfl ?_
        refine V_lret hX hR dX8_like_123 ?_
        exact ⟨rfl, f0, _, rfl, Or.inr ⟨i, j, rfl, rfl, hi, hjj, hij, rfl⟩, hM⟩
      · refine V_tableIn (pc' := 124) hX dX8_like_77 (by decide) (by decide) rfl rfl ?_
        refine V_lload (pc' := 126) hX dX8_like_124 rfl rfl ?_
        refine V_lload (pc' := 128) hX dX8_like_126 rfl rfl ?_
        refine V_ldivN (pc' := 129) hX dX8_like_128 (by omega) gp (by omega) rfl ?_
        refine V_lret hX hR dX8_like_129 ?_
        exact ⟨rfl, f0, _, rfl, Or.inr ⟨i, j, rfl, rfl, hi, hjj, hij, rfl⟩, hM⟩
      · refine V_tableIn (pc' := 130) hX dX8_like_77 (by decide) (by decide) rfl rfl ?_
        refine V_lload (pc' := 132) hX dX8_like_130 rfl rfl ?_
        refine V_lload (pc' := 134) hX dX8_like_132 rfl rfl ?_
        refine V_ldivN (pc' := 135) hX dX8_like_134 (by omega) gp (by omega) rfl ?_
        refine V_lret hX hR dX8_like_135 ?_
        exact ⟨rfl, f0, _, rfl, Or.inr ⟨i, j, rfl, rfl, hi, hjj, hij, rfl⟩, hM⟩
      · refine V_tableIn (pc' := 136) hX dX8_like_77 (by decide) (by decide) rfl rfl ?_
        refine V_aload_n (pc' := 137) hX dX8_like_136 rfl rfl ?_
        refine V_iload_n (pc' := 138) hX dX8_like_137 rfl rfl ?_
        refine V_iload_n (pc' := 139) hX dX8_like_138 rfl rfl ?_
        refine V_callV (nA := 2) (pc' := 142) (k' := 0) (n' := 0) hX dX8_like_139 (c_Md_isPair i j hi hjj hI hM) hM.1 rfl wM_X8_168 wI_X8_isPair wL_X8_isPair wN_X8 wC_X8_isPair rfl hy_X8_isPair rfl (Nat.le_of_ble_eq_true rfl) (by decide) (by omega) rfl rfl (by omega) rfl (by omega) rfl ?_
        rintro _ z h0 ⟨rfl, rfl, rfl⟩
        refine V.stk (st' := [_]) rfl ?_
        refine V_if_eqB (pt := 149) (pc' := 145) hX dX8_like_142 rfl rfl (fun c142 => ?_) (fun c142 => ?_)
        · refine V_lconst (pc' := 150) (v := lN 0) hX dX8_like_149 rfl rfl ?_
          refine V_lret hX hR dX8_like_150 ?_
          exact ⟨rfl, f0, _, rfl, Or.inr ⟨i, j, rfl, rfl, hi, hjj, hij, by show _ = if reachN kd p q (amL W (L i)) (amL W (L j)) (shL W (L i) (L j)) = true then _ else _; rw [if_neg (by rw [c142]; decide)]⟩, hM⟩
        · refine V_lconst (pc' := 146) (v := lN 1) hX dX8_like_145 rfl rfl ?_
          refine V_goto (pc' := 150) hX dX8_like_146 rfl ?_
          refine V_lret hX hR dX8_like_150 ?_
          exact ⟨rfl, f0, _, rfl, Or.inr ⟨i, j, rfl, rfl, hi, hjj, hij, by show _ = if reachN kd p q (amL W (L i)) (amL W (L j)) (shL W (L i) (L j)) = true then _ else _; rw [if_pos c142]⟩, hM⟩
  · refine V_ldc2N (pc' := 17) (v' := (-1)) hX dX8_like_14 wK_X8_177 (by decide) rfl ?_
    refine V_lret hX hR dX8_like_17 ?_
    exact ⟨rfl, f0, _, rfl, Or.inl ⟨c11, rfl⟩, hM⟩
