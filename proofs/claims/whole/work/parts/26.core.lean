set_option maxRecDepth 100000 in
set_option maxHeartbeats 4000000 in
theorem c_Nt_gc_step {G : Gd} {z : Nat} {h : AH} {a : Nat} {ff : Nat → Nat} (k dep ch op be : Nat) (h1 : h a = some (aJ G 60 ff)) (hf : ∀ j, j < 60 → ff j < 2 ^ 60) (hk : dep + k = 20) (hc : ch < 2 ^ 60) (ho : op < 2 ^ 60) (hb : be < 2 ^ 60) (hdep : dep = (bl ch).length) (hlt : ∀ x, x ∈ bl ch → ∀ y, y ∈ bl op → x < y) (IH : ∀ (j : Nat), j + 1 = k → ∀ (dep ch op be : Nat), dep + j = 20 → ch < 2 ^ 60 → op < 2 ^ 60 → be < 2 ^ 60 → dep = (bl ch).length → (∀ x, x ∈ bl ch → ∀ y, y ∈ bl op → x < y) → Ct G yX2_greatestCore cX2_greatestCore 14 (some .long) (j + 2) 0 0 [.ref a, .long (lN ch), .long (lN op), .long (lN be), .int (nI dep)] z h (gcP ff j z h ch op be)) : Ct G yX2_greatestCore cX2_greatestCore 14 (some .long) (k + 2) 0 0 [.ref a, .long (lN ch), .long (lN op), .long (lN be), .int (nI dep)] z h (gcP ff k z h ch op be) := by
  refine Ct.of (lv := [_, _, _, _, _, _, _, _, _, _, _, _, _, _]) (by decide) (Nat.le_of_ble_eq_true rfl) rfl ?_
  rintro X rfl hX hR hnm
  have q1 := popN_le ch 64
  have q2 := popN_le be 64
  have q3 := popN_le op 64
  have jn : ∀ g : Nat, g < 2 ^ 60 → bl g = pickL (bl ch) (bl be) → V X 0 0 z h 18 [some (.ref a), some (.long (lN ch)), none, some (.long (lN op)), none, some (.long (lN be)), none, some (.int (nI dep)), none, none, none, none, none, none] [.long (lN g)] := by
    intro g g1 g2
    refine V_lstore (pc' := 20) (lv' := [_, _, _, _, _, _, _, _, _, _, _, _, _, _]) hX dX2_greatestCore_18 (Nat.le_of_ble_eq_true rfl) rfl rfl ?_
    refine V_iload (pc' := 22) hX dX2_greatestCore_20 rfl rfl ?_
    refine V_bipush (pc' := 24) (v := nI 20) hX dX2_greatestCore_22 (by decide) rfl ?_
    refine V_icmp_ltN (pt := 30) (pc' := 27) hX dX2_greatestCore_24 (by omega) (by omega) rfl rfl (fun c24 => ?_) (fun c24 => ?_)
    · obtain ⟨j, hj⟩ : ∃ j, j + 1 = k := ⟨k - 1, by omega⟩
      refine V_lload_n (pc' := 31) hX dX2_greatestCore_30 rfl rfl ?_
      refine V_lstore (pc' := 33) (lv' := [_, _, _, _, _, _, _, _, _, _, _, _, _, _]) hX dX2_greatestCore_31 (Nat.le_of_ble_eq_true rfl) rfl rfl ?_
      refine V_lload_n (pc' := 34) hX dX2_greatestCore_33 rfl rfl ?_
      refine V_callS (nA := 1) (pc' := 37) (k' := 0) (n' := 0) hX dX2_greatestCore_34 (c_bitCount op (by omega)) wM_X2_21 wS_J13_bitCount_95d88 wN_J13 wC_J13_bitCount_95d88 rfl hy_J13_bitCount_95d88 rfl (Nat.le_of_ble_eq_true rfl) (by decide) (by omega) rfl rfl (by omega) rfl (by omega) rfl ?_
      rintro _ z h ⟨rfl, rfl, rfl⟩
      refine V.stk (st' := [_]) rfl ?_
      refine V_istore (pc' := 39) (lv' := [_, _, _, _, _, _, _, _, _, _, _, _, _, _]) hX dX2_greatestCore_37 (Nat.le_of_ble_eq_true rfl) rfl rfl ?_
      have lp : ∀ (μ : Nat) (rs : List Nat) (rest g : Nat), rest < 2 ^ 60 → g < 2 ^ 60 → bl rest = rs → (∀ x, x ∈ bl ch → ∀ y, y ∈ rs → x < y) → gloop (gcl (adjF ff) j) (adjF ff) (bl ch) rs (bl g) = gcl (adjF ff) k (bl ch) (bl op) (bl be) → rs.length < μ → V X 0 0 z h 39 [some (.ref a), some (.long (lN ch)), none, some (.long (lN op)), none, some (.long (lN be)), none, some (.int (nI dep)), some (.long (lN g)), none, some (.long (lN rest)), none, some (.int (nI rs.length)), none] [] := by
        intro μ
        induction μ with
        | zero => intros; omega
        | succ μ ih =>
          intro rs rest g b1 b2 b3 b4 b5 b6
          have q4 := popN_le g 64
          have q5 : rs.length ≤ 64 := by rw [← b3, ← popN_bl b1]; exact popN_le _ _
          refine V_iload (pc' := 41) hX dX2_greatestCore_39 rfl rfl ?_
          refine V_if_leN (pt := 119) (pc' := 44) hX dX2_greatestCore_41 (by omega) rfl rfl (fun c41 => ?_) (fun c41 => ?_)
          · refine V_lload (pc' := 121) hX dX2_greatestCore_119 rfl rfl ?_
            refine V_lret hX hR dX2_greatestCore_121 ?_
            have e : rs = [] := by
              cases rs with
              | nil => rfl
              | cons x l => simp at c41
            rw [e] at b5
            exact ⟨g, rfl, rfl, rfl, b2, b5⟩
          · refine V_iload (pc' := 46) hX dX2_greatestCore_44 rfl rfl ?_
            refine V_iload (pc' := 48) hX dX2_greatestCore_46 rfl rfl ?_
            refine V_iaddN (pc' := 49) hX dX2_greatestCore_48 rfl ?_
            refine V_lload (pc' := 51) hX dX2_greatestCore_49 rfl rfl ?_
            refine V_callS (nA := 1) (pc' := 54) (k' := 0) (n' := 0) hX dX2_greatestCore_51 (c_bitCount g (by omega)) wM_X2_21 wS_J13_bitCount_95d88 wN_J13 wC_J13_bitCount_95d88 rfl hy_J13_bitCount_95d88 rfl (Nat.le_of_ble_eq_true rfl) (by decide) (by omega) rfl rfl (by omega) rfl (by omega) rfl ?_
            rintro _ z h ⟨rfl, rfl, rfl⟩
            refine V.stk (st' := [_, _]) rfl ?_
            refine V_icmp_leN (pt := 119) (pc' := 57) hX dX2_greatestCore_54 (by omega) (by omega) rfl rfl (fun c54 => ?_) (fun c54 => ?_)
            · refine V_lload (pc' := 121) hX dX2_greatestCore_119 rfl rfl ?_
              refine V_lret hX hR dX2_greatestCore_121 ?_
              refine ⟨g, rfl, rfl, rfl, b2, ?_⟩
              rw [← b5]
              cases rs with
              | nil => rfl
              | cons x l =>
                symm
                show (if _ ≤ _ then _ else _) = _
                rw [if_pos (by rw [← popN_bl b2, ← hdep]; simp at c54; omega)]
            · have hne : rest ≠ 0 := fun e => by rw [e, bl_0] at b3; rw [← b3] at c41; simp at c41
              refine V_lload (pc' := 59) hX dX2_greatestCore_57 rfl rfl ?_
              refine V_callS (nA := 1) (pc' := 62) (k' := 0) (n' := 0) hX dX2_greatestCore_59 (c_Nt_leastOf rest b1) wM_X2_31 wS_X2_leastOf wN_X2 wC_X2_leastOf rfl hy_X2_leastOf rfl (Nat.le_of_ble_eq_true rfl) (by decide) (by omega) rfl rfl (by omega) rfl (by omega) rfl ?_
              rintro _ z h ⟨x, rfl, rfl, rfl, hx⟩
              obtain ⟨i, m, en, hi, rfl⟩ : ∃ i m, rest = 2 ^ i * (2 * m + 1) ∧ i < 60 ∧ x = nI i := by
                rcases hx with ⟨e, -⟩ | hx
                · exact absurd e hne
                · exact hx
              have el : rest &&& (rest - 1) = 2 ^ i * (2 * m) := by rw [en]; exact low_and i m
              obtain ⟨rs', ers'⟩ : ∃ l, l = bl (2 ^ i * (2 * m)) := ⟨_, rfl⟩
              have ers : rs = i :: rs' := by rw [← b3, ers', en]; exact bl_low i m (by rw [← en]; exact b1)
              refine V.stk (st' := [_]) rfl ?_
              refine V_istore (pc' := 64) (lv' := [_, _, _, _, _, _, _, _, _, _, _, _, _, _]) hX dX2_greatestCore_62 (Nat.le_of_ble_eq_true rfl) rfl rfl ?_
              refine V_iload (pc' := 66) hX dX2_greatestCore_64 rfl rfl ?_
              refine V_if_ltN (pt := 76) (pc' := 69) hX dX2_greatestCore_66 (by omega) rfl rfl (fun c66 => ?_) (fun c66 => ?_)
              · omega
              · refine V_iload (pc' := 71) hX dX2_greatestCore_69 rfl rfl ?_
                refine V_aload_n (pc' := 72) hX dX2_greatestCore_71 rfl rfl ?_
                refine V_alenJ (pc' := 73) hX dX2_greatestCore_72 h1 rfl ?_
                refine V_icmp_ltN (pt := 79) (pc' := 76) hX dX2_greatestCore_73 (by omega) (by omega) rfl rfl (fun c73 => ?_) (fun c73 => ?_)
                · refine V_lload (pc' := 81) hX dX2_greatestCore_79 rfl rfl ?_
                  refine V_lload (pc' := 83) hX dX2_greatestCore_81 rfl rfl ?_
                  refine V_lconst (pc' := 84) (v := lN 1) hX dX2_greatestCore_83 rfl rfl ?_
                  refine V_lsubN (pc' := 85) hX dX2_greatestCore_84 (by omega) rfl ?_
                  refine V_land (pc' := 86) hX dX2_greatestCore_85 rfl ?_
                  refine V.eql (lN_and _ _) ?_
                  rw [el]
                  refine V_lstore (pc' := 88) (lv' := [_, _, _, _, _, _, _, _, _, _, _, _, _, _]) hX dX2_greatestCore_86 (Nat.le_of_ble_eq_true rfl) rfl rfl ?_
                  refine V_aload_n (pc' := 89) hX dX2_greatestCore_88 rfl rfl ?_
                  refine V_lload_n (pc' := 90) hX dX2_greatestCore_89 rfl rfl ?_
                  refine V_lconst (pc' := 91) (v := lN 1) hX dX2_greatestCore_90 rfl rfl ?_
                  refine V_iload (pc' := 93) hX dX2_greatestCore_91 rfl rfl ?_
                  refine V_lshl (pc' := 94) hX dX2_greatestCore_93 rfl ?_
                  refine V.eql (lN_bit (by omega)) ?_
                  refine V_lor (pc' := 95) hX dX2_greatestCore_94 rfl ?_
                  refine V.eql (lN_or _ _) ?_
                  refine V_lload (pc' := 97) hX dX2_greatestCore_95 rfl rfl ?_
                  refine V_aload_n (pc' := 98) hX dX2_greatestCore_97 rfl rfl ?_
                  refine V_iload (pc' := 100) hX dX2_greatestCore_98 rfl rfl ?_
                  refine V_laldN (pc' := 101) hX dX2_greatestCore_100 h1 (by omega) (by omega) rfl rfl ?_
                  refine V_land (pc' := 102) hX dX2_greatestCore_101 rfl ?_
                  refine V.eql (lN_and _ _) ?_
                  refine V_lload (pc' := 104) hX dX2_greatestCore_102 rfl rfl ?_
                  refine V_iload (pc' := 106) hX dX2_greatestCore_104 rfl rfl ?_
                  refine V_iconst (pc' := 107) (v := nI 1) hX dX2_greatestCore_106 (by decide) rfl ?_
                  refine V_iaddN (pc' := 108) hX dX2_greatestCore_107 rfl ?_
                  have hlt2 : ∀ x, x ∈ bl (ch ||| 2 ^ i) → ∀ y, y ∈ bl (2 ^ i * (2 * m) &&& ff i) → x < y := by
                    rw [bl_or_high hi (fun y hy => b4 y hy i (by rw [ers]; exact List.mem_cons_self)), bl_and, ← ers']
                    intro x hx y hy
                    have hy' : y ∈ rs' := (List.mem_filter.mp hy).1
                    rcases List.mem_append.mp hx with q | q
                    · exact b4 x q y (by rw [ers]; exact List.mem_cons_of_mem _ hy')
                    · rw [List.mem_singleton.mp q]
                      have ha := bl_asc rest
                      rw [b3, ers, List.pairwise_cons] at ha
                      exact ha.1 y hy'
                  refine V_callS (nA := 5) (pc' := 111) (k' := 0) (n' := 0) hX dX2_greatestCore_108 (IH j hj (dep + 1) (ch ||| 2 ^ i) (2 ^ i * (2 * m) &&& ff i) g (by omega) (Nat.or_lt_two_pow hc (pow_lt60 hi)) (Nat.lt_of_le_of_lt Nat.and_le_right (hf i hi)) b2 (by rw [bl_or_high hi (fun y hy => b4 y hy i (by rw [ers]; exact List.mem_cons_self))]; simp [hdep]) hlt2) wM_X2_34 wS_X2_greatestCore wN_X2 wC_X2_greatestCore rfl hy_X2_greatestCore rfl (Nat.le_of_ble_eq_true rfl) (by decide) (by omega) rfl rfl (by omega) rfl (by omega) rfl ?_
                  rintro _ z h ⟨res, rfl, rfl, rfl, r1, r2⟩
                  rw [bl_or_high hi (fun y hy => b4 y hy i (by rw [ers]; exact List.mem_cons_self)), bl_and, ← ers'] at r2
                  refine V.stk (st' := [_]) rfl ?_
                  refine V_lstore (pc' := 113) (lv' := [_, _, _, _, _, _, _, _, _, _, _, _, _, _]) hX dX2_greatestCore_111 (Nat.le_of_ble_eq_true rfl) rfl rfl ?_
                  refine V_iinc (pc' := 116) (lv' := [_, _, _, _, _, _, _, _, _, _, _, _, _, _]) (v := nI rs'.length) hX dX2_greatestCore_113 rfl (by rw [ers]; exact pk_m1 _) rfl rfl ?_
                  skip
                  refine V_goto (pc' := 39) hX dX2_greatestCore_116 rfl ?_
                  refine V.loc2 (lv' := [some _, some _, none, some _, none, some _, none, some _, some _, none, some _, none, some _, none]) ⟨rfl, rfl, rfl, rfl, rfl, rfl, rfl, rfl, trivial⟩ ?_
                  refine ih rs' _ res (by rw [← el]; exact Nat.lt_of_le_of_lt Nat.and_le_left b1) r1 ers'.symm (fun x hx y hy => b4 x hx y (by rw [ers]; exact List.mem_cons_of_mem _ hy)) ?_ (by rw [ers] at b6; simp at b6; omega)
                  rw [← b5, ers]
                  have e : gloop (gcl (adjF ff) j) (adjF ff) (bl ch) (i :: rs') (bl g) = gloop (gcl (adjF ff) j) (adjF ff) (bl ch) rs' (gcl (adjF ff) j (bl ch ++ [i]) (rs'.filter (adjF ff i)) (bl g)) := by
                    show (if _ ≤ _ then _ else _) = _
                    rw [if_neg (by rw [← popN_bl b2, ← hdep]; rw [ers] at c54; simp at c54; omega)]
                  rw [e, r2]
                  rfl
                · omega
      refine V.loc2 (lv' := [some _, some _, none, some _, none, some _, none, some _, some _, none, some _, none, some _, none]) ⟨rfl, rfl, rfl, rfl, rfl, rfl, rfl, rfl, trivial⟩ ?_
      rw [popN_bl ho]
      refine lp ((bl op).length + 1) (bl op) op g ho g1 rfl hlt ?_ (by omega)
      rw [g2, ← hj]; rfl
    · refine V_lload (pc' := 29) hX dX2_greatestCore_27 rfl rfl ?_
      refine V_lret hX hR dX2_greatestCore_29 ?_
      have e : k = 0 := by omega
      subst e
      exact ⟨g, rfl, rfl, rfl, g1, g2⟩
  refine V_lload_n (pc' := 1) hX dX2_greatestCore_0 rfl rfl ?_
  refine V_callS (nA := 1) (pc' := 4) (k' := 0) (n' := 0) hX dX2_greatestCore_1 (c_bitCount ch (by omega)) wM_X2_21 wS_J13_bitCount_95d88 wN_J13 wC_J13_bitCount_95d88 rfl hy_J13_bitCount_95d88 rfl (Nat.le_of_ble_eq_true rfl) (by decide) (by omega) rfl rfl (by omega) rfl (by omega) rfl ?_
  rintro _ z h ⟨rfl, rfl, rfl⟩
  refine V.stk (st' := [_]) rfl ?_
  refine V_lload (pc' := 6) hX dX2_greatestCore_4 rfl rfl ?_
  refine V_callS (nA := 1) (pc' := 9) (k' := 0) (n' := 0) hX dX2_greatestCore_6 (c_bitCount be (by omega)) wM_X2_21 wS_J13_bitCount_95d88 wN_J13 wC_J13_bitCount_95d88 rfl hy_J13_bitCount_95d88 rfl (Nat.le_of_ble_eq_true rfl) (by decide) (by omega) rfl rfl (by omega) rfl (by omega) rfl ?_
  rintro _ z h ⟨rfl, rfl, rfl⟩
  refine V.stk (st' := [_, _]) rfl ?_
  refine V_icmp_leN (pt := 16) (pc' := 12) hX dX2_greatestCore_9 (by omega) (by omega) rfl rfl (fun c9 => ?_) (fun c9 => ?_)
  · refine V_lload (pc' := 18) hX dX2_greatestCore_16 rfl rfl ?_
    refine V.loc2 (lv' := [some _, some _, none, some _, none, some _, none, some _, none, none, none, none, none, none]) ⟨rfl, rfl, rfl, rfl, rfl, trivial⟩ ?_
    refine jn be hb ?_
    unfold pickL
    rw [if_neg (by rw [← popN_bl hc, ← popN_bl hb]; omega)]
  · refine V_lload_n (pc' := 13) hX dX2_greatestCore_12 rfl rfl ?_
    refine V_goto (pc' := 18) hX dX2_greatestCore_13 rfl ?_
    refine V.loc2 (lv' := [some _, some _, none, some _, none, some _, none, some _, none, none, none, none, none, none]) ⟨rfl, rfl, rfl, rfl, rfl, trivial⟩ ?_
    refine jn ch hc ?_
    unfold pickL
    rw [if_pos (by rw [← popN_bl hc, ← popN_bl hb]; omega)]
theorem c_Nt_gc {G : Gd} {z : Nat} {h : AH} {a : Nat} {ff : Nat → Nat} (h1 : h a = some (aJ G 60 ff)) (hf : ∀ j, j < 60 → ff j < 2 ^ 60) : ∀ (j dep ch op be : Nat), dep + j = 20 → ch < 2 ^ 60 → op < 2 ^ 60 → be < 2 ^ 60 → dep = (bl ch).length → (∀ x, x ∈ bl ch → ∀ y, y ∈ bl op → x < y) → Ct G yX2_greatestCore cX2_greatestCore 14 (some .long) (j + 2) 0 0 [.ref a, .long (lN ch), .long (lN op), .long (lN be), .int (nI dep)] z h (gcP ff j z h ch op be)
  | 0, dep, ch, op, be, a1, a2, a3, a4, a5, a6 => c_Nt_gc_step 0 dep ch op be h1 hf a1 a2 a3 a4 a5 a6 (fun j hj => by omega)
  | k + 1, dep, ch, op, be, a1, a2, a3, a4, a5, a6 => c_Nt_gc_step (k + 1) dep ch op be h1 hf a1 a2 a3 a4 a5 a6 (fun j hj => by
    have e : j = k := by omega
    subst e
    exact c_Nt_gc h1 hf j)
set_option maxRecDepth 100000 in
set_option maxHeartbeats 4000000 in
theorem c_Nt_coreOf {G : Gd} {z : Nat} {h : AH} {a fg : Nat} {ff : Nat → Nat} (fam : Nat) (hfam : fam < 2 ^ 60) (hN : ntAt G h a ff fg) (hO : ntOk ff fg) : Ct G yX2_coreOf cX2_coreOf 3 (some .long) 23 0 0 [.ref a, .long (lN fam)] z h (fun r z' h' => ∃ res, r = some (.long (lN res)) ∧ z' = z ∧ h' = h ∧ res < 2 ^ 60 ∧ bl res = gcl (adjF ff) 20 [] (bl fam) []) := by
  refine Ct.of (lv := [_, _, _]) (by decide) (Nat.le_of_ble_eq_true rfl) rfl ?_
  rintro X rfl hX hR hnm
  obtain ⟨h0, h1⟩ := id hN
  obtain ⟨o1, o2⟩ := id hO
  refine V_aload_n (pc' := 1) hX dX2_coreOf_0 rfl rfl ?_
  refine V_get (pc' := 4) hX dX2_coreOf_1 h0 rfl inX2 0 (by decide) wF_X2_9 rfl rfl ?_
  refine V_lconst (pc' := 5) (v := lN 0) hX dX2_coreOf_4 rfl rfl ?_
  refine V_lload_n (pc' := 6) hX dX2_coreOf_5 rfl rfl ?_
  refine V_lconst (pc' := 7) (v := lN 0) hX dX2_coreOf_6 rfl rfl ?_
  refine V_iconst (pc' := 8) (v := nI 0) hX dX2_coreOf_7 (by decide) rfl ?_
  refine V_callS (nA := 5) (pc' := 11) (k' := 0) (n' := 0) hX dX2_coreOf_8 (c_Nt_gc h1 o1 20 0 0 fam 0 (by omega) (by omega) hfam (by omega) (by rw [bl_0]; rfl) (fun x hx => by rw [bl_0] at hx; cases hx)) wM_X2_34 wS_X2_greatestCore wN_X2 wC_X2_greatestCore rfl hy_X2_greatestCore rfl (Nat.le_of_ble_eq_true rfl) (by decide) (by omega) rfl rfl (by omega) rfl (by omega) rfl ?_
  rintro _ z h ⟨res, rfl, rfl, rfl, r1, r2⟩
  rw [bl_0] at r2
  refine V.stk (st' := [_]) rfl ?_
  refine V_lret hX hR dX2_coreOf_11 ?_
  exact ⟨res, rfl, rfl, rfl, r1, r2⟩
