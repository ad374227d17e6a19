set_option maxRecDepth 100000 in
set_option maxHeartbeats 4000000 in
theorem c_Ms_init {G : Gd} {z : Nat} {h : AH} {m : Nat} (hm : h m = some (oO 1 [.int 0, .int 0, .int 0])) : Ct G yX1_init cX1_init 1 none 1 0 0 [.ref m] z h (fun r z' h' => r = none ∧ z' = z ∧ msAt h' m 1 1 2 ∧ fr m (m + 1) h h') := by
  refine Ct.of (lv := [_]) (by decide) (Nat.le_of_ble_eq_true rfl) rfl ?_
  rintro X rfl hX hR hnm
  refine V_aload_n (pc' := 1) hX dX1_init_0 rfl rfl ?_
  refine V_objInit (pc' := 4) hX dX1_init_1 wM_X1_3 wI_objInit wC_objInit (by omega) rfl rfl rfl ?_
  refine V_aload_n (pc' := 5) hX dX1_init_4 rfl rfl ?_
  refine V_iconst (pc' := 6) (v := nI 1) hX dX1_init_5 (by decide) rfl ?_
  refine V_put (pc' := 9) (fs' := [_, _, _]) (ty0 := tyX1) hX dX1_init_6 hm rfl inX1 tyX1_ok nmX1 0 (by decide) wF_X1_9 rfl (tyX1_ok 0 (by decide)) rfl rfl (Nat.le_of_ble_eq_true rfl) rfl rfl ?_
  refine V_aload_n (pc' := 10) hX dX1_init_9 rfl rfl ?_
  refine V_iconst (pc' := 11) (v := nI 1) hX dX1_init_10 (by decide) rfl ?_
  refine V_put (pc' := 14) (fs' := [_, _, _]) (ty0 := tyX1) hX dX1_init_11 hup_s rfl inX1 tyX1_ok nmX1 1 (by decide) wF_X1_15 rfl (tyX1_ok 1 (by decide)) rfl rfl (Nat.le_of_ble_eq_true rfl) rfl rfl ?_
  refine V_aload_n (pc' := 15) hX dX1_init_14 rfl rfl ?_
  refine V_iconst (pc' := 16) (v := nI 2) hX dX1_init_15 (by decide) rfl ?_
  refine V_put (pc' := 19) (fs' := [_, _, _]) (ty0 := tyX1) hX dX1_init_16 hup_s rfl inX1 tyX1_ok nmX1 2 (by decide) wF_X1_18 rfl (tyX1_ok 2 (by decide)) rfl rfl (Nat.le_of_ble_eq_true rfl) rfl rfl ?_
  refine V_vret hX hR dX1_init_19 ?_
  exact ⟨rfl, rfl, hup_s, (fr.up (fr.up (fr.up fr.rf (by omega) (by omega)) (by omega) (by omega)) (by omega) (by omega))⟩
set_option maxRecDepth 100000 in
set_option maxHeartbeats 4000000 in
theorem c_Ms_isAllowed {G : Gd} {z : Nat} {h : AH} (kd p q : Int32) : Ct G yX1_isAllowed cX1_isAllowed 3 (some .boolean) 0 0 0 [.int kd, .int p, .int q] z h (fun r z' h' => r = some (.int (bI (decide ((kd.toInt = 0 ∧ 1 ≤ p.toInt ∧ p.toInt ≤ 3000 ∧ q.toInt = 1) ∨ (1 ≤ kd.toInt ∧ kd.toInt ≤ 5 ∧ 1 ≤ p.toInt ∧ p.toInt ≤ q.toInt ∧ q.toInt ≤ 1000))))) ∧ z' = z ∧ h' = h) := by
  refine Ct.of (lv := [_, _, _]) (by decide) (Nat.le_of_ble_eq_true rfl) rfl ?_
  rintro X rfl hX hR hnm
  refine V_iload_n (pc' := 1) hX dX1_isAllowed_0 rfl rfl ?_
  refine V_if_ne (pt := 27) (pc' := 4) hX dX1_isAllowed_1 rfl rfl (fun c1 => ?_) (fun c1 => ?_)
  · rw [i32_eq] at c1
    try simp only [show (nI 1).toInt = 1 from rfl, show (nI 5).toInt = 5 from rfl, show (nI 3000).toInt = 3000 from rfl, show (nI 1000).toInt = 1000 from rfl, show (0 : Int32).toInt = 0 from rfl] at c1
    refine V_iload_n (pc' := 28) hX dX1_isAllowed_27 rfl rfl ?_
    refine V_iconst (pc' := 29) (v := nI 1) hX dX1_isAllowed_28 (by decide) rfl ?_
    refine V_icmp_lt (pt := 58) (pc' := 32) hX dX1_isAllowed_29 rfl rfl (fun c29 => ?_) (fun c29 => ?_)
    · rw [i32_lt] at c29
      try simp only [show (nI 1).toInt = 1 from rfl, show (nI 5).toInt = 5 from rfl, show (nI 3000).toInt = 3000 from rfl, show (nI 1000).toInt = 1000 from rfl, show (0 : Int32).toInt = 0 from rfl] at c29
      refine V_iconst (pc' := 59) (v := nI 0) hX dX1_isAllowed_58 (by decide) rfl ?_
      refine V_zret hX hR dX1_isAllowed_59 (by rfl) ?_
      exact ⟨by rw [decide_eq_false (by omega)]; rfl, rfl, rfl⟩
    · rw [i32_lt] at c29
      try simp only [show (nI 1).toInt = 1 from rfl, show (nI 5).toInt = 5 from rfl, show (nI 3000).toInt = 3000 from rfl, show (nI 1000).toInt = 1000 from rfl, show (0 : Int32).toInt = 0 from rfl] at c29
      refine V_iload_n (pc' := 33) hX dX1_isAllowed_32 rfl rfl ?_
      refine V_iconst (pc' := 34) (v := nI 5) hX dX1_isAllowed_33 (by decide) rfl ?_
      refine V_icmp_gt (pt := 58) (pc' := 37) hX dX1_isAllowed_34 rfl rfl (fun c34 => ?_) (fun c34 => ?_)
      · rw [i32_lt] at c34
        try simp only [show (nI 1).toInt = 1 from rfl, show (nI 5).toInt = 5 from rfl, show (nI 3000).toInt = 3000 from rfl, show (nI 1000).toInt = 1000 from rfl, show (0 : Int32).toInt = 0 from rfl] at c34
        refine V_iconst (pc' := 59) (v := nI 0) hX dX1_isAllowed_58 (by decide) rfl ?_
        refine V_zret hX hR dX1_isAllowed_59 (by rfl) ?_
        exact ⟨by rw [decide_eq_false (by omega)]; rfl, rfl, rfl⟩
      · rw [i32_lt] at c34
        try simp only [show (nI 1).toInt = 1 from rfl, show (nI 5).toInt = 5 from rfl, show (nI 3000).toInt = 3000 from rfl, show (nI 1000).toInt = 1000 from rfl, show (0 : Int32).toInt = 0 from rfl] at c34
        refine V_iload_n (pc' := 38) hX dX1_isAllowed_37 rfl rfl ?_
        refine V_iconst (pc' := 39) (v := nI 1) hX dX1_isAllowed_38 (by decide) rfl ?_
        refine V_icmp_lt (pt := 58) (pc' := 42) hX dX1_isAllowed_39 rfl rfl (fun c39 => ?_) (fun c39 => ?_)
        · rw [i32_lt] at c39
          try simp only [show (nI 1).toInt = 1 from rfl, show (nI 5).toInt = 5 from rfl, show (nI 3000).toInt = 3000 from rfl, show (nI 1000).toInt = 1000 from rfl, show (0 : Int32).toInt = 0 from rfl] at c39
          refine V_iconst (pc' := 59) (v := nI 0) hX dX1_isAllowed_58 (by decide) rfl ?_
          refine V_zret hX hR dX1_isAllowed_59 (by rfl) ?_
          exact ⟨by rw [decide_eq_false (by omega)]; rfl, rfl, rfl⟩
        · rw [i32_lt] at c39
          try simp only [show (nI 1).toInt = 1 from rfl, show (nI 5).toInt = 5 from rfl, show (nI 3000).toInt = 3000 from rfl, show (nI 1000).toInt = 1000 from rfl, show (0 : Int32).toInt = 0 from rfl] at c39
          refine V_iload_n (pc' := 43) hX dX1_isAllowed_42 rfl rfl ?_
          refine V_iload_n (pc' := 44) hX dX1_isAllowed_43 rfl rfl ?_
          refine V_icmp_gt (pt := 58) (pc' := 47) hX dX1_isAllowed_44 rfl rfl (fun c44 => ?_) (fun c44 => ?_)
          · rw [i32_lt] at c44
            try simp only [show (nI 1).toInt = 1 from rfl, show (nI 5).toInt = 5 from rfl, show (nI 3000).toInt = 3000 from rfl, show (nI 1000).toInt = 1000 from rfl, show (0 : Int32).toInt = 0 from rfl] at c44
            refine V_iconst (pc' := 59) (v := nI 0) hX dX1_isAllowed_58 (by decide) rfl ?_
            refine V_zret hX hR dX1_isAllowed_59 (by rfl) ?_
            exact ⟨by rw [decide_eq_false (by omega)]; rfl, rfl, rfl⟩
          · rw [i32_lt] at c44
            try simp only [show (nI 1).toInt = 1 from rfl, show (nI 5).toInt = 5 from rfl, show (nI 3000).toInt = 3000 from rfl, show (nI 1000).toInt = 1000 from rfl, show (0 : Int32).toInt = 0 from rfl] at c44
            refine V_iload_n (pc' := 48) hX dX1_isAllowed_47 rfl rfl ?_
            refine V_sipush (pc' := 51) (v := nI 1000) hX dX1_isAllowed_48 (by decide) rfl ?_
            refine V_icmp_gt (pt := 58) (pc' := 54) hX dX1_isAllowed_51 rfl rfl (fun c51 => ?_) (fun c51 => ?_)
            · rw [i32_lt] at c51
              try simp only [show (nI 1).toInt = 1 from rfl, show (nI 5).toInt = 5 from rfl, show (nI 3000).toInt = 3000 from rfl, show (nI 1000).toInt = 1000 from rfl, show (0 : Int32).toInt = 0 from rfl] at c51
              refine V_iconst (pc' := 59) (v := nI 0) hX dX1_isAllowed_58 (by decide) rfl ?_
              refine V_zret hX hR dX1_isAllowed_59 (by rfl) ?_
              exact ⟨by rw [decide_eq_false (by omega)]; rfl, rfl, rfl⟩
            · rw [i32_lt] at c51
              try simp only [show (nI 1).toInt = 1 from rfl, show (nI 5).toInt = 5 from rfl, show (nI 3000).toInt = 3000 from rfl, show (nI 1000).toInt = 1000 from rfl, show (0 : Int32).toInt = 0 from rfl] at c51
              refine V_iconst (pc' := 55) (v := nI 1) hX dX1_isAllowed_54 (by decide) rfl ?_
              refine V_goto (pc' := 59) hX dX1_isAllowed_55 rfl ?_
              refine V_zret hX hR dX1_isAllowed_59 (by rfl) ?_
              exact ⟨by rw [decide_eq_true (by omega)]; rfl, rfl, rfl⟩
  · rw [i32_eq] at c1
    try simp only [show (nI 1).toInt = 1 from rfl, show (nI 5).toInt = 5 from rfl, show (nI 3000).toInt = 3000 from rfl, show (nI 1000).toInt = 1000 from rfl, show (0 : Int32).toInt = 0 from rfl] at c1
    refine V_iload_n (pc' := 5) hX dX1_isAllowed_4 rfl rfl ?_
    refine V_iconst (pc' := 6) (v := nI 1) hX dX1_isAllowed_5 (by decide) rfl ?_
    refine V_icmp_lt (pt := 25) (pc' := 9) hX dX1_isAllowed_6 rfl rfl (fun c6 => ?_) (fun c6 => ?_)
    · rw [i32_lt] at c6
      try simp only [show (nI 1).toInt = 1 from rfl, show (nI 5).toInt = 5 from rfl, show (nI 3000).toInt = 3000 from rfl, show (nI 1000).toInt = 1000 from rfl, show (0 : Int32).toInt = 0 from rfl] at c6
      refine V_iconst (pc' := 26) (v := nI 0) hX dX1_isAllowed_25 (by decide) rfl ?_
      refine V_zret hX hR dX1_isAllowed_26 (by rfl) ?_
      exact ⟨by rw [decide_eq_false (by omega)]; rfl, rfl, rfl⟩
    · rw [i32_lt] at c6
      try simp only [show (nI 1).toInt = 1 from rfl, show (nI 5).toInt = 5 from rfl, show (nI 3000).toInt = 3000 from rfl, show (nI 1000).toInt = 1000 from rfl, show (0 : Int32).toInt = 0 from rfl] at c6
      refine V_iload_n (pc' := 10) hX dX1_isAllowed_9 rfl rfl ?_
      refine V_sipush (pc' := 13) (v := nI 3000) hX dX1_isAllowed_10 (by decide) rfl ?_
      refine V_icmp_gt (pt := 25) (pc' := 16) hX dX1_isAllowed_13 rfl rfl (fun c13 => ?_) (fun c13 => ?_)
      · rw [i32_lt] at c13
        try simp only [show (nI 1).toInt = 1 from rfl, show (nI 5).toInt = 5 from rfl, show (nI 3000).toInt = 3000 from rfl, show (nI 1000).toInt = 1000 from rfl, show (0 : Int32).toInt = 0 from rfl] at c13
        refine V_iconst (pc' := 26) (v := nI 0) hX dX1_isAllowed_25 (by decide) rfl ?_
        refine V_zret hX hR dX1_isAllowed_26 (by rfl) ?_
        exact ⟨by rw [decide_eq_false (by omega)]; rfl, rfl, rfl⟩
      · rw [i32_lt] at c13
        try simp only [show (nI 1).toInt = 1 from rfl, show (nI 5).toInt = 5 from rfl, show (nI 3000).toInt = 3000 from rfl, show (nI 1000).toInt = 1000 from rfl, show (0 : Int32).toInt = 0 from rfl] at c13
        refine V_iload_n (pc' := 17) hX dX1_isAllowed_16 rfl rfl ?_
        refine V_iconst (pc' := 18) (v := nI 1) hX dX1_isAllowed_17 (by decide) rfl ?_
        refine V_icmp_ne (pt := 25) (pc' := 21) hX dX1_isAllowed_18 rfl rfl (fun c18 => ?_) (fun c18 => ?_)
        · rw [i32_eq] at c18
          try simp only [show (nI 1).toInt = 1 from rfl, show (nI 5).toInt = 5 from rfl, show (nI 3000).toInt = 3000 from rfl, show (nI 1000).toInt = 1000 from rfl, show (0 : Int32).toInt = 0 from rfl] at c18
          refine V_iconst (pc' := 26) (v := nI 0) hX dX1_isAllowed_25 (by decide) rfl ?_
          refine V_zret hX hR dX1_isAllowed_26 (by rfl) ?_
          exact ⟨by rw [decide_eq_false (by omega)]; rfl, rfl, rfl⟩
        · rw [i32_eq] at c18
          try simp only [show (nI 1).toInt = 1 from rfl, show (nI 5).toInt = 5 from rfl, show (nI 3000).toInt = 3000 from rfl, show (nI 1000).toInt = 1000 from rfl, show (0 : Int32).toInt = 0 from rfl] at c18
          refine V_iconst (pc' := 22) (v := nI 1) hX dX1_isAllowed_21 (by decide) rfl ?_
          refine V_goto (pc' := 26) hX dX1_isAllowed_22 rfl ?_
          refine V_zret hX hR dX1_isAllowed_26 (by rfl) ?_
          exact ⟨by rw [decide_eq_true (by omega)]; rfl, rfl, rfl⟩
set_option maxRecDepth 100000 in
set_option maxHeartbeats 4000000 in
theorem c_Ms_tell {G : Gd} {z : Nat} {h : AH} {m kd p q : Nat} (k2 p2 q2 : Int32) (hm : msAt h m kd p q) : Ct G yX1_tell cX1_tell 4 (some .boolean) 1 0 0 [.ref m, .int k2, .int p2, .int q2] z h (fun r z' h' => ∃ b : Bool, r = some (.int (bI b)) ∧ z' = z ∧ (b = true ↔ ((k2.toInt = 0 ∧ 1 ≤ p2.toInt ∧ p2.toInt ≤ 3000 ∧ q2.toInt = 1) ∨ (1 ≤ k2.toInt ∧ k2.toInt ≤ 5 ∧ 1 ≤ p2.toInt ∧ p2.toInt ≤ q2.toInt ∧ q2.toInt ≤ 1000))) ∧ (b = false → h' = h) ∧ (b = true → ∃ kd' p' q', k2 = nI kd' ∧ p2 = nI p' ∧ q2 = nI q' ∧ mOk kd' p' q' ∧ msAt h' m kd' p' q' ∧ fr m (m + 1) h h')) := by
  refine Ct.of (lv := [_, _, _, _]) (by decide) (Nat.le_of_ble_eq_true rfl) rfl ?_
  rintro X rfl hX hR hnm
  refine V_iload_n (pc' := 1) hX dX1_tell_0 rfl rfl ?_
  refine V_iload_n (pc' := 2) hX dX1_tell_1 rfl rfl ?_
  refine V_iload_n (pc' := 3) hX dX1_tell_2 rfl rfl ?_
  refine V_callS (nA := 3) (pc' := 6) (k' := 0) (n' := 0) hX dX1_tell_3 (c_Ms_isAllowed k2 p2 q2) wM_X1_21 wS_X1_isAllowed wN_X1 wC_X1_isAllowed rfl hy_X1_isAllowed rfl (Nat.le_of_ble_eq_true rfl) (by decide) (by omega) rfl rfl (by omega) rfl (by omega) rfl ?_
  rintro _ z h ⟨rfl, rfl, rfl⟩
  refine V.stk (st' := [_]) rfl ?_
  refine V_if_neB (pt := 11) (pc' := 9) hX dX1_tell_6 rfl rfl (fun c6 => ?_) (fun c6 => ?_)
  · have hc := of_decide_eq_true c6
    refine V_aload_n (pc' := 12) hX dX1_tell_11 rfl rfl ?_
    refine V_iload_n (pc' := 13) hX dX1_tell_12 rfl rfl ?_
    refine V_put (pc' := 16) (fs' := [_, _, _]) (ty0 := tyX1) hX dX1_tell_13 hm rfl inX1 tyX1_ok nmX1 0 (by decide) wF_X1_9 rfl (tyX1_ok 0 (by decide)) rfl rfl (Nat.le_of_ble_eq_true rfl) rfl rfl ?_
    refine V_aload_n (pc' := 17) hX dX1_tell_16 rfl rfl ?_
    refine V_iload_n (pc' := 18) hX dX1_tell_17 rfl rfl ?_
    refine V_put (pc' := 21) (fs' := [_, _, _]) (ty0 := tyX1) hX dX1_tell_18 hup_s rfl inX1 tyX1_ok nmX1 1 (by decide) wF_X1_15 rfl (tyX1_ok 1 (by decide)) rfl rfl (Nat.le_of_ble_eq_true rfl) rfl rfl ?_
    refine V_aload_n (pc' := 22) hX dX1_tell_21 rfl rfl ?_
    refine V_iload_n (pc' := 23) hX dX1_tell_22 rfl rfl ?_
    refine V_put (pc' := 26) (fs' := [_, _, _]) (ty0 := tyX1) hX dX1_tell_23 hup_s rfl inX1 tyX1_ok nmX1 2 (by decide) wF_X1_18 rfl (tyX1_ok 2 (by decide)) rfl rfl (Nat.le_of_ble_eq_true rfl) rfl rfl ?_
    refine V_iconst (pc' := 27) (v := nI 1) hX dX1_tell_26 (by decide) rfl ?_
    refine V_zret hX hR dX1_tell_27 (by rfl) ?_
    refine ⟨true, rfl, rfl, ⟨fun _ => hc, fun _ => rfl⟩, (fun r => by cases r), fun _ => ?_⟩
    obtain ⟨a, ha, ea⟩ := nI_of (x := k2) (by rw [i32_lt]; show ¬ _ < (0 : Int); omega)
    obtain ⟨b, hb, eb⟩ := nI_of (x := p2) (by rw [i32_lt]; show ¬ _ < (0 : Int); omega)
    obtain ⟨c, hc', ec⟩ := nI_of (x := q2) (by rw [i32_lt]; show ¬ _ < (0 : Int); omega)
    refine ⟨a, b, c, ea, eb, ec, ?_, ?_, (fr.up (fr.up (fr.up fr.rf (by omega) (by omega)) (by omega) (by omega)) (by omega) (by omega))⟩
    · rw [ea, eb, ec, nI_toInt ha, nI_toInt hb, nI_toInt hc'] at hc
      refine ⟨by omega, by omega, by omega, by omega, by omega, fun _ => by omega⟩
    · subst ea; subst eb; subst ec
      exact hup_s
  · have hc := of_decide_eq_false c6
    refine V_iconst (pc' := 10) (v := nI 0) hX dX1_tell_9 (by decide) rfl ?_
    refine V_zret hX hR dX1_tell_10 (by rfl) ?_
    exact ⟨false, rfl, rfl, ⟨(fun r => by cases r), fun r => absurd r hc⟩, fun _ => rfl, (fun r => by cases r)⟩
set_option maxRecDepth 100000 in
set_option maxHeartbeats 4000000 in
theorem c_Ms_quotientUp {G : Gd} {z : Nat} {h : AH} (x y : Nat) (hx : x < 2 ^ 62) (hy0 : 0 < y) (hy : y < 2 ^ 62) : Ct G yX1_quotientUp cX1_quotientUp 4 (some .long) 0 0 0 [.long (lN x), .long (lN y)] z h (fun r z' h' => r = some (.long (lN (upN x y))) ∧ z' = z ∧ h' = h) := by
  refine Ct.of (lv := [_, _, _, _]) (by decide) (Nat.le_of_ble_eq_true rfl) rfl ?_
  rintro X rfl hX hR hnm
  refine V_lload_n (pc' := 1) hX dX1_quotientUp_0 rfl rfl ?_
  refine V_lconst (pc' := 2) (v := lN 0) hX dX1_quotientUp_1 rfl rfl ?_
  refine V_lcmp_gtN (pt := 10) (pc' := 6) hX dX1_quotientUp_2 rfl dX1_quotientUp_3 (by omega) (by omega) rfl rfl (fun c2 => ?_) (fun c2 => ?_)
  · refine V_lload_n (pc' := 11) hX dX1_quotientUp_10 rfl rfl ?_
    refine V_lload_n (pc' := 12) hX dX1_quotientUp_11 rfl rfl ?_
    refine V_laddN (pc' := 13) hX dX1_quotientUp_12 rfl ?_
    refine V_lconst (pc' := 14) (v := lN 1) hX dX1_quotientUp_13 rfl rfl ?_
    refine V_lsubN (pc' := 15) hX dX1_quotientUp_14 (by omega) rfl ?_
    refine V_lload_n (pc' := 16) hX dX1_quotientUp_15 rfl rfl ?_
    refine V_ldivN (pc' := 17) hX dX1_quotientUp_16 (by omega) (by omega) (by omega) rfl ?_
    refine V_lret hX hR dX1_quotientUp_17 ?_
    exact ⟨rfl, rfl, rfl⟩
  · omega
set_option maxRecDepth 100000 in
set_option maxHeartbeats 4000000 in
theorem c_Ms_rootUp {G : Gd} {z : Nat} {h : AH} (x y : Nat) (hx : x < 2 ^ 62) (hy : y ≤ 1000000) : Ct G yX1_rootUp cX1_rootUp 6 (some .long) 0 0 0 [.long (lN x), .long (lN y)] z h (fun r z' h' => r = some (.long (lN (rootN x y 3000 0))) ∧ z' = z ∧ h' = h) := by
  refine Ct.of (lv := [_, _, _, _, _, _]) (by decide) (Nat.le_of_ble_eq_true rfl) rfl ?_
  rintro X rfl hX hR hnm
  refine V_lconst (pc' := 1) (v := lN 0) hX dX1_rootUp_0 rfl rfl ?_
  refine V_lstore (pc' := 3) (lv' := [_, _, _, _, _, _]) hX dX1_rootUp_1 (Nat.le_of_ble_eq_true rfl) rfl rfl ?_
  have lp : ∀ (μ t : Nat), t ≤ 3000 → rootN x y (3000 - t) t = rootN x y 3000 0 → 3000 - t < μ → V X 0 0 z h 3 [some (.long (lN x)), none, some (.long (lN y)), none, some (.long (lN t)), none] [] := by
    intro μ
    induction μ with
    | zero => intros; omega
    | succ μ ih =>
      intro t b1 b2 b3
      have b4 : t * t * y ≤ 3000 * 3000 * 1000000 := mul_bd (mul_bd b1 b1) hy
      refine V_lload (pc' := 5) hX dX1_rootUp_3 rfl rfl ?_
      refine V_ldc2N (pc' := 8) (v' := lN 3000) hX dX1_rootUp_5 wK_X1_46 (by decide) rfl ?_
      refine V_lcmp_geN (pt := 33) (pc' := 12) hX dX1_rootUp_8 rfl dX1_rootUp_9 (by omega) (by omega) rfl rfl (fun c8 => ?_) (fun c8 => ?_)
      · refine V_lload (pc' := 35) hX dX1_rootUp_33 rfl rfl ?_
        refine V_lret hX hR dX1_rootUp_35 ?_
        rw [← b2, show 3000 - t = 0 by omega]; exact ⟨rfl, rfl, rfl⟩
      · refine V_lload (pc' := 14) hX dX1_rootUp_12 rfl rfl ?_
        refine V_lload (pc' := 16) hX dX1_rootUp_14 rfl rfl ?_
        refine V_lmulN (pc' := 17) hX dX1_rootUp_16 rfl ?_
        refine V_lload_n (pc' := 18) hX dX1_rootUp_17 rfl rfl ?_
        refine V_lmulN (pc' := 19) hX dX1_rootUp_18 rfl ?_
        refine V_lload_n (pc' := 20) hX dX1_rootUp_19 rfl rfl ?_
        refine V_lcmp_geN (pt := 33) (pc' := 24) hX dX1_rootUp_20 rfl dX1_rootUp_21 (by omega) (by omega) rfl rfl (fun c20 => ?_) (fun c20 => ?_)
        · refine V_lload (pc' := 35) hX dX1_rootUp_33 rfl rfl ?_
          refine V_lret hX hR dX1_rootUp_35 ?_
          rw [← b2, rootN_done (by omega)]; exact ⟨rfl, rfl, rfl⟩
        · refine V_lload (pc' := 26) hX dX1_rootUp_24 rfl rfl ?_
          refine V_lconst (pc' := 27) (v := lN 1) hX dX1_rootUp_26 rfl rfl ?_
          refine V_laddN (pc' := 28) hX dX1_rootUp_27 rfl ?_
          refine V_lstore (pc' := 30) (lv' := [_, _, _, _, _, _]) hX dX1_rootUp_28 (Nat.le_of_ble_eq_true rfl) rfl rfl ?_
          refine V_goto (pc' := 3) hX dX1_rootUp_30 rfl ?_
          refine V.loc2 (lv' := [some _, none, some _, none, some _, none]) ⟨rfl, rfl, rfl, trivial⟩ ?_
          exact ih (t + 1) (by omega) (by rw [← b2, show 3000 - t = (3000 - (t + 1)) + 1 by omega]; show _ = (if t * t * y < x then _ else _); rw [if_pos (by omega)]) (by omega)
  refine V.loc2 (lv' := [some _, none, some _, none, some _, none]) ⟨rfl, rfl, rfl, trivial⟩ ?_
  exact lp 3001 0 (by omega) rfl (by omega)
set_option maxRecDepth 100000 in
set_option maxHeartbeats 4000000 in
theorem c_Ms_needed {G : Gd} {z : Nat} {h : AH} {m kd p q : Nat} (a b : Nat) (ha : a ≤ 3000) (hb : b ≤ 3000) (hm : msAt h m kd p q) (hM : mOk kd p q) : Ct G yX1_needed cX1_needed 5 (some .long) 1 0 0 [.ref m, .long (lN a), .long (lN b)] z h (fun r z' h' => r = some (.long (lN (neededN kd p q a b))) ∧ z' = z ∧ h' = h) := by
  refine Ct.of (lv := [_, _, _, _, _]) (by decide) (Nat.le_of_ble_eq_true rfl) rfl ?_
  rintro X rfl hX hR hnm
  obtain ⟨m1, m2, m3, m4, m5, m6⟩ := id hM
  have b1 : p * (a + b) ≤ 3000 * 6000 := mul_bd m3 (by omega)
  have b2 : p * min a b ≤ 3000 * 3000 := mul_bd m3 (by omega)
  have b3 : p * p * a * b ≤ 3000 * 3000 * 3000 * 3000 := mul_bd (mul_bd (mul_bd m3 m3) ha) hb
  have b4 : q * q ≤ 1000 * 1000 := mul_bd m5 m5
  refine V_aload_n (pc' := 1) hX dX1_needed_0 rfl rfl ?_
  refine V_get (pc' := 4) hX dX1_needed_1 hm rfl inX1 0 (by decide) wF_X1_9 rfl rfl ?_
  rcases (show kd = 0 ∨ kd = 1 ∨ kd = 2 ∨ kd = 3 ∨ kd = 4 ∨ kd = 5 by omega) with rfl | rfl | rfl | rfl | rfl | rfl
  · refine V_tableIn (pc' := 40) hX dX1_needed_4 (by decide) (by decide) rfl rfl ?_
    refine V_aload_n (pc' := 41) hX dX1_needed_40 rfl rfl ?_
    refine V_get (pc' := 44) hX dX1_needed_41 hm rfl inX1 1 (by decide) wF_X1_15 rfl rfl ?_
    refine V_i2lN (pc' := 45) hX dX1_needed_44 (by omega) rfl ?_
    refine V_lret hX hR dX1_needed_45 ?_
    exact ⟨rfl, rfl, rfl⟩
  · refine V_tableIn (pc' := 118) hX dX1_needed_4 (by decide) (by decide) rfl rfl ?_
    refine V_aload_n (pc' := 119) hX dX1_needed_118 rfl rfl ?_
    refine V_get (pc' := 122) hX dX1_needed_119 hm rfl inX1 1 (by decide) wF_X1_15 rfl rfl ?_
    refine V_i2lN (pc' := 123) hX dX1_needed_122 (by omega) rfl ?_
    refine V_lload_n (pc' := 124) hX dX1_needed_123 rfl rfl ?_
    refine V_lload_n (pc' := 125) hX dX1_needed_124 rfl rfl ?_
    refine V_laddN (pc' := 126) hX dX1_needed_125 rfl ?_
    refine V_lmulN (pc' := 127) hX dX1_needed_126 rfl ?_
    refine V_aload_n (pc' := 128) hX dX1_needed_127 rfl rfl ?_
    refine V_get (pc' := 131) hX dX1_needed_128 hm rfl inX1 1 (by decide) wF_X1_15 rfl rfl ?_
    refine V_aload_n (pc' := 132) hX dX1_needed_131 rfl rfl ?_
    refine V_get (pc' := 135) hX dX1_needed_132 hm rfl inX1 2 (by decide) wF_X1_18 rfl rfl ?_
    refine V_iaddN (pc' := 136) hX dX1_needed_135 rfl ?_
    refine V_i2lN (pc' := 137) hX dX1_needed_136 (by omega) rfl ?_
    refine V_callS (nA := 2) (pc' := 140) (k' := 0) (n' := 0) hX dX1_needed_137 (c_Ms_quotientUp (p * (a + b)) (p + q) (by omega) (by omega) (by omega)) wM_X1_27 wS_X1_quotientUp wN_X1 wC_X1_quotientUp rfl hy_X1_quotientUp rfl (Nat.le_of_ble_eq_true rfl) (by decide) (by omega) rfl rfl (by omega) rfl (by omega) rfl ?_
    rintro _ z h ⟨rfl, rfl, rfl⟩
    refine V.stk (st' := [_]) rfl ?_
    refine V_lret hX hR dX1_needed_140 ?_
    exact ⟨rfl, rfl, rfl⟩
  · refine V_tableIn (pc' := 46) hX dX1_needed_4 (by decide) (by decide) rfl rfl ?_
    refine V_aload_n (pc' := 47) hX dX1_needed_46 rfl rfl ?_
    refine V_get (pc' := 50) hX dX1_needed_47 hm rfl inX1 1 (by decide) wF_X1_15 rfl rfl ?_
    refine V_i2lN (pc' := 51) hX dX1_needed_50 (by omega) rfl ?_
    refine V_lload_n (pc' := 52) hX dX1_needed_51 rfl rfl ?_
    refine V_lload_n (pc' := 53) hX dX1_needed_52 rfl rfl ?_
    refine V_laddN (pc' := 54) hX dX1_needed_53 rfl ?_
    refine V_lmulN (pc' := 55) hX dX1_needed_54 rfl ?_
    refine V_ldc2N (pc' := 58) (v' := lN 2) hX dX1_needed_55 wK_X1_25 (by decide) rfl ?_
    refine V_aload_n (pc' := 59) hX dX1_needed_58 rfl rfl ?_
    refine V_get (pc' := 62) hX dX1_needed_59 hm rfl inX1 2 (by decide) wF_X1_18 rfl rfl ?_
    refine V_i2lN (pc' := 63) hX dX1_needed_62 (by omega) rfl ?_
    refine V_lmulN (pc' := 64) hX dX1_needed_63 rfl ?_
    refine V_callS (nA := 2) (pc' := 67) (k' := 0) (n' := 0) hX dX1_needed_64 (c_Ms_quotientUp (p * (a + b)) (2 * q) (by omega) (by omega) (by omega)) wM_X1_27 wS_X1_quotientUp wN_X1 wC_X1_quotientUp rfl hy_X1_quotientUp rfl (Nat.le_of_ble_eq_true rfl) (by decide) (by omega) rfl rfl (by omega) rfl (by omega) rfl ?_
    rintro _ z h ⟨rfl, rfl, rfl⟩
    refine V.stk (st' := [_]) rfl ?_
    refine V_lret hX hR dX1_needed_67 ?_
    exact ⟨rfl, rfl, rfl⟩
  · refine V_tableIn (pc' := 68) hX dX1_needed_4 (by decide) (by decide) rfl rfl ?_
    refine V_aload_n (pc' := 69) hX dX1_needed_68 rfl rfl ?_
    refine V_get (pc' := 72) hX dX1_needed_69 hm rfl inX1 1 (by decide) wF_X1_15 rfl rfl ?_
    refine V_i2lN (pc' := 73) hX dX1_needed_72 (by omega) rfl ?_
    refine V_aload_n (pc' := 74) hX dX1_needed_73 rfl rfl ?_
    refine V_get (pc' := 77) hX dX1_needed_74 hm rfl inX1 1 (by decide) wF_X1_15 rfl rfl ?_
    refine V_i2lN (pc' := 78) hX dX1_needed_77 (by omega) rfl ?_
    refine V_lmulN (pc' := 79) hX dX1_needed_78 rfl ?_
    refine V_lload_n (pc' := 80) hX dX1_needed_79 rfl rfl ?_
    refine V_lmulN (pc' := 81) hX dX1_needed_80 rfl ?_
    refine V_lload_n (pc' := 82) hX dX1_needed_81 rfl rfl ?_
    refine V_lmulN (pc' := 83) hX dX1_needed_82 rfl ?_
    refine V_aload_n (pc' := 84) hX dX1_needed_83 rfl rfl ?_
    refine V_get (pc' := 87) hX dX1_needed_84 hm rfl inX1 2 (by decide) wF_X1_18 rfl rfl ?_
    refine V_i2lN (pc' := 88) hX dX1_needed_87 (by omega) rfl ?_
    refine V_aload_n (pc' := 89) hX dX1_needed_88 rfl rfl ?_
    refine V_get (pc' := 92) hX dX1_needed_89 hm rfl inX1 2 (by decide) wF_X1_18 rfl rfl ?_
    refine V_i2lN (pc' := 93) hX dX1_needed_92 (by omega) rfl ?_
    refine V_lmulN (pc' := 94) hX dX1_needed_93 rfl ?_
    refine V_callS (nA := 2) (pc' := 97) (k' := 0) (n' := 0) hX dX1_needed_94 (c_Ms_rootUp (p * p * a * b) (q * q) (by omega) (by omega)) wM_X1_31 wS_X1_rootUp wN_X1 wC_X1_rootUp rfl hy_X1_rootUp rfl (Nat.le_of_ble_eq_true rfl) (by decide) (by omega) rfl rfl (by omega) rfl (by omega) rfl ?_
    rintro _ z h ⟨rfl, rfl, rfl⟩
    refine V.stk (st' := [_]) rfl ?_
    refine V_lret hX hR dX1_needed_97 ?_
    exact ⟨rfl, rfl, rfl⟩
  · refine V_tableIn (pc' := 98) hX dX1_needed_4 (by decide) (by decide) rfl rfl ?_
    refine V_aload_n (pc' := 99) hX dX1_needed_98 rfl rfl ?_
    refine V_get (pc' := 102) hX dX1_needed_99 hm rfl inX1 1 (by decide) wF_X1_15 rfl rfl ?_
    refine V_i2lN (pc' := 103) hX dX1_needed_102 (by omega) rfl ?_
    refine V_lload_n (pc' := 104) hX dX1_needed_103 rfl rfl ?_
    refine V_lload_n (pc' := 105) hX dX1_needed_104 rfl rfl ?_
    refine V_minLN (pc' := 108) hX dX1_needed_105 wM_X1_34 (by omega) (by omega) (by omega) (by omega) (by omega) rfl (Nat.le_of_ble_eq_true rfl) rfl ?_
    refine V_lmulN (pc' := 109) hX dX1_needed_108 rfl ?_
    refine V_aload_n (pc' := 110) hX dX1_needed_109 rfl rfl ?_
    refine V_get (pc' := 113) hX dX1_needed_110 hm rfl inX1 2 (by decide) wF_X1_18 rfl rfl ?_
    refine V_i2lN (pc' := 114) hX dX1_needed_113 (by omega) rfl ?_
    refine V_callS (nA := 2) (pc' := 117) (k' := 0) (n' := 0) hX dX1_needed_114 (c_Ms_quotientUp (p * min a b) q (by omega) (by omega) (by omega)) wM_X1_27 wS_X1_quotientUp wN_X1 wC_X1_quotientUp rfl hy_X1_quotientUp rfl (Nat.le_of_ble_eq_true rfl) (by decide) (by omega) rfl rfl (by omega) rfl (by omega) rfl ?_
    rintro _ z h ⟨rfl, rfl, rfl⟩
    refine V.stk (st' := [_]) rfl ?_
    refine V_lret hX hR dX1_needed_117 ?_
    exact ⟨rfl, rfl, rfl⟩
  · refine V_tableOut (pc' := 118) hX dX1_needed_4 (by decide) rfl ?_
    refine V_aload_n (pc' := 119) hX dX1_needed_118 rfl rfl ?_
    refine V_get (pc' := 122) hX dX1_needed_119 hm rfl inX1 1 (by decide) wF_X1_15 rfl rfl ?_
    refine V_i2lN (pc' := 123) hX dX1_needed_122 (by omega) rfl ?_
    refine V_lload_n (pc' := 124) hX dX1_needed_123 rfl rfl ?_
    refine V_lload_n (pc' := 125) hX dX1_needed_124 rfl rfl ?_
    refine V_laddN (pc' := 126) hX dX1_needed_125 rfl ?_
    refine V_lmulN (pc' := 127) hX dX1_needed_126 rfl ?_
    refine V_aload_n (pc' := 128) hX dX1_needed_127 rfl rfl ?_
    refine V_get (pc' := 131) hX dX1_needed_128 hm rfl inX1 1 (by decide) wF_X1_15 rfl rfl ?_
    refine V_aload_n (pc' := 132) hX dX1_needed_131 rfl rfl ?_
    refine V_get (pc' := 135) hX dX1_needed_132 hm rfl inX1 2 (by decide) wF_X1_18 rfl rfl ?_
    refine V_iaddN (pc' := 136) hX dX1_needed_135 rfl ?_
    refine V_i2lN (pc' := 137) hX dX1_needed_136 (by omega) rfl ?_
    refine V_callS (nA := 2) (pc' := 140) (k' := 0) (n' := 0) hX dX1_needed_137 (c_Ms_quotientUp (p * (a + b)) (p + q) (by omega) (by omega) (by omega)) wM_X1_27 wS_X1_quotientUp wN_X1 wC_X1_quotientUp rfl hy_X1_quotientUp rfl (Nat.le_of_ble_eq_true rfl) (by decide) (by omega) rfl rfl (by omega) rfl (by omega) rfl ?_
    rintro _ z h ⟨rfl, rfl, rfl⟩
    refine V.stk (st' := [_]) rfl ?_
    refine V_lret hX hR dX1_needed_140 ?_
    exact ⟨rfl, rfl, rfl⟩
set_option maxRecDepth 100000 in
set_option maxHeartbeats 4000000 in
theorem c_Ms_least {G : Gd} {z : Nat} {h : AH} {m kd p q : Nat} (a : Nat) (ha : a ≤ 3000) (hm : msAt h m kd p q) (hM : mOk kd p q) : Ct G yX1_least cX1_least 3 (some .long) 1 0 0 [.ref m, .long (lN a)] z h (fun r z' h' => r = some (.long (lN (leastN kd p q a))) ∧ z' = z ∧ h' = h) := by
  refine Ct.of (lv := [_, _, _]) (by decide) (Nat.le_of_ble_eq_true rfl) rfl ?_
  rintro X rfl hX hR hnm
  obtain ⟨m1, m2, m3, m4, m5, m6⟩ := id hM
  have b1 : p * a ≤ 3000 * 3000 := mul_bd m3 ha
  have b3 : p * p * a ≤ 3000 * 3000 * 3000 := mul_bd (mul_bd m3 m3) ha
  have b4 : q * q ≤ 1000 * 1000 := mul_bd m5 m5
  have b5 : 0 < q * q := Nat.mul_pos (by omega) (by omega)
  refine V_aload_n (pc' := 1) hX dX1_least_0 rfl rfl ?_
  refine V_get (pc' := 4) hX dX1_least_1 hm rfl inX1 0 (by decide) wF_X1_9 rfl rfl ?_
  rcases (show kd = 0 ∨ kd = 1 ∨ kd = 2 ∨ kd = 3 ∨ kd = 4 ∨ kd = 5 by omega) with rfl | rfl | rfl | rfl | rfl | rfl
  · refine V_tableIn (pc' := 40) hX dX1_least_4 (by decide) (by decide) rfl rfl ?_
    refine V_aload_n (pc' := 41) hX dX1_least_40 rfl rfl ?_
    refine V_get (pc' := 44) hX dX1_least_41 hm rfl inX1 1 (by decide) wF_X1_15 rfl rfl ?_
    refine V_i2lN (pc' := 45) hX dX1_least_44 (by omega) rfl ?_
    refine V_lret hX hR dX1_least_45 ?_
    exact ⟨rfl, rfl, rfl⟩
  · refine V_tableIn (pc' := 102) hX dX1_least_4 (by decide) (by decide) rfl rfl ?_
    refine V_aload_n (pc' := 103) hX dX1_least_102 rfl rfl ?_
    refine V_get (pc' := 106) hX dX1_least_103 hm rfl inX1 1 (by decide) wF_X1_15 rfl rfl ?_
    refine V_i2lN (pc' := 107) hX dX1_least_106 (by omega) rfl ?_
    refine V_lload_n (pc' := 108) hX dX1_least_107 rfl rfl ?_
    refine V_lmulN (pc' := 109) hX dX1_least_108 rfl ?_
    refine V_aload_n (pc' := 110) hX dX1_least_109 rfl rfl ?_
    refine V_get (pc' := 113) hX dX1_least_110 hm rfl inX1 2 (by decide) wF_X1_18 rfl rfl ?_
    refine V_i2lN (pc' := 114) hX dX1_least_113 (by omega) rfl ?_
    refine V_callS (nA := 2) (pc' := 117) (k' := 0) (n' := 0) hX dX1_least_114 (c_Ms_quotientUp (p * a) q (by omega) (by omega) (by omega)) wM_X1_27 wS_X1_quotientUp wN_X1 wC_X1_quotientUp rfl hy_X1_quotientUp rfl (Nat.le_of_ble_eq_true rfl) (by decide) (by omega) rfl rfl (by omega) rfl (by omega) rfl ?_
    rintro _ z h ⟨rfl, rfl, rfl⟩
    refine V.stk (st' := [_]) rfl ?_
    refine V_lret hX hR dX1_least_117 ?_
    exact ⟨rfl, rfl, rfl⟩
  · refine V_tableIn (pc' := 46) hX dX1_least_4 (by decide) (by decide) rfl rfl ?_
    refine V_aload_n (pc' := 47) hX dX1_least_46 rfl rfl ?_
    refine V_get (pc' := 50) hX dX1_least_47 hm rfl inX1 1 (by decide) wF_X1_15 rfl rfl ?_
    refine V_i2lN (pc' := 51) hX dX1_least_50 (by omega) rfl ?_
    refine V_lload_n (pc' := 52) hX dX1_least_51 rfl rfl ?_
    refine V_lmulN (pc' := 53) hX dX1_least_52 rfl ?_
    refine V_ldc2N (pc' := 56) (v' := lN 2) hX dX1_least_53 wK_X1_25 (by decide) rfl ?_
    refine V_aload_n (pc' := 57) hX dX1_least_56 rfl rfl ?_
    refine V_get (pc' := 60) hX dX1_least_57 hm rfl inX1 2 (by decide) wF_X1_18 rfl rfl ?_
    refine V_i2lN (pc' := 61) hX dX1_least_60 (by omega) rfl ?_
    refine V_lmulN (pc' := 62) hX dX1_least_61 rfl ?_
    refine V_aload_n (pc' := 63) hX dX1_least_62 rfl rfl ?_
    refine V_get (pc' := 66) hX dX1_least_63 hm rfl inX1 1 (by decide) wF_X1_15 rfl rfl ?_
    refine V_i2lN (pc' := 67) hX dX1_least_66 (by omega) rfl ?_
    refine V_lsubN (pc' := 68) hX dX1_least_67 (by have := m6 (by omega); omega) rfl ?_
    refine V_callS (nA := 2) (pc' := 71) (k' := 0) (n' := 0) hX dX1_least_68 (c_Ms_quotientUp (p * a) (2 * q - p) (by omega) (by have := m6 (by omega); omega) (by omega)) wM_X1_27 wS_X1_quotientUp wN_X1 wC_X1_quotientUp rfl hy_X1_quotientUp rfl (Nat.le_of_ble_eq_true rfl) (by decide) (by omega) rfl rfl (by omega) rfl (by omega) rfl ?_
    rintro _ z h ⟨rfl, rfl, rfl⟩
    refine V.stk (st' := [_]) rfl ?_
    refine V_lret hX hR dX1_least_71 ?_
    exact ⟨rfl, rfl, rfl⟩
  · refine V_tableIn (pc' := 72) hX dX1_least_4 (by decide) (by decide) rfl rfl ?_
    refine V_aload_n (pc' := 73) hX dX1_least_72 rfl rfl ?_
    refine V_get (pc' := 76) hX dX1_least_73 hm rfl inX1 1 (by decide) wF_X1_15 rfl rfl ?_
    refine V_i2lN (pc' := 77) hX dX1_least_76 (by omega) rfl ?_
    refine V_aload_n (pc' := 78) hX dX1_least_77 rfl rfl ?_
    refine V_get (pc' := 81) hX dX1_least_78 hm rfl inX1 1 (by decide) wF_X1_15 rfl rfl ?_
    refine V_i2lN (pc' := 82) hX dX1_least_81 (by omega) rfl ?_
    refine V_lmulN (pc' := 83) hX dX1_least_82 rfl ?_
    refine V_lload_n (pc' := 84) hX dX1_least_83 rfl rfl ?_
    refine V_lmulN (pc' := 85) hX dX1_least_84 rfl ?_
    refine V_aload_n (pc' := 86) hX dX1_least_85 rfl rfl ?_
    refine V_get (pc' := 89) hX dX1_least_86 hm rfl inX1 2 (by decide) wF_X1_18 rfl rfl ?_
    refine V_i2lN (pc' := 90) hX dX1_least_89 (by omega) rfl ?_
    refine V_aload_n (pc' := 91) hX dX1_least_90 rfl rfl ?_
    refine V_get (pc' := 94) hX dX1_least_91 hm rfl inX1 2 (by decide) wF_X1_18 rfl rfl ?_
    refine V_i2lN (pc' := 95) hX dX1_least_94 (by omega) rfl ?_
    refine V_lmulN (pc' := 96) hX dX1_least_95 rfl ?_
    refine V_callS (nA := 2) (pc' := 99) (k' := 0) (n' := 0) hX dX1_least_96 (c_Ms_quotientUp (p * p * a) (q * q) (by omega) (by omega) (by omega)) wM_X1_27 wS_X1_quotientUp wN_X1 wC_X1_quotientUp rfl hy_X1_quotientUp rfl (Nat.le_of_ble_eq_true rfl) (by decide) (by omega) rfl rfl (by omega) rfl (by omega) rfl ?_
    rintro _ z h ⟨rfl, rfl, rfl⟩
    refine V.stk (st' := [_]) rfl ?_
    refine V_lret hX hR dX1_least_99 ?_
    exact ⟨rfl, rfl, rfl⟩
  · refine V_tableIn (pc' := 100) hX dX1_least_4 (by decide) (by decide) rfl rfl ?_
    refine V_lconst (pc' := 101) (v := lN 1) hX dX1_least_100 rfl rfl ?_
    refine V_lret hX hR dX1_least_101 ?_
    exact ⟨rfl, rfl, rfl⟩
  · refine V_tableOut (pc' := 102) hX dX1_least_4 (by decide) rfl ?_
    refine V_aload_n (pc' := 103) hX dX1_least_102 rfl rfl ?_
    refine V_get (pc' := 106) hX dX1_least_103 hm rfl inX1 1 (by decide) wF_X1_15 rfl rfl ?_
    refine V_i2lN (pc' := 107) hX dX1_least_106 (by omega) rfl ?_
    refine V_lload_n (pc' := 108) hX dX1_least_107 rfl rfl ?_
    refine V_lmulN (pc' := 109) hX dX1_least_108 rfl ?_
    refine V_aload_n (pc' := 110) hX dX1_least_109 rfl rfl ?_
    refine V_get (pc' := 113) hX dX1_least_110 hm rfl inX1 2 (by decide) wF_X1_18 rfl rfl ?_
    refine V_i2lN (pc' := 114) hX dX1_least_113 (by omega) rfl ?_
    refine V_callS (nA := 2) (pc' := 117) (k' := 0) (n' := 0) hX dX1_least_114 (c_Ms_quotientUp (p * a) q (by omega) (by omega) (by omega)) wM_X1_27 wS_X1_quotientUp wN_X1 wC_X1_quotientUp rfl hy_X1_quotientUp rfl (Nat.le_of_ble_eq_true rfl) (by decide) (by omega) rfl rfl (by omega) rfl (by omega) rfl ?_
    rintro _ z h ⟨rfl, rfl, rfl⟩
    refine V.stk (st' := [_]) rfl ?_
    refine V_lret hX hR dX1_least_117 ?_
    exact ⟨rfl, rfl, rfl⟩
set_option maxRecDepth 100000 in
set_option maxHeartbeats 4000000 in
theorem c_Ms_above {G : Gd} {z : Nat} {h : AH} {m kd p q : Nat} (s a b : Nat) (hm : msAt h m kd p q) (hM : mOk kd p q) : Ct G yX1_likenessAbove cX1_likenessAbove 7 (some .long) 0 0 0 [.ref m, .long (lN s), .long (lN a), .long (lN b)] z h (fun r z' h' => r = some (.long (lN (aboveN kd s))) ∧ z' = z ∧ h' = h) := by
  refine Ct.of (lv := [_, _, _, _, _, _, _]) (by decide) (Nat.le_of_ble_eq_true rfl) rfl ?_
  rintro X rfl hX hR hnm
  obtain ⟨m1, m2, m3, m4, m5, m6⟩ := id hM
  refine V_aload_n (pc' := 1) hX dX1_likenessAbove_0 rfl rfl ?_
  refine V_get (pc' := 4) hX dX1_likenessAbove_1 hm rfl inX1 0 (by decide) wF_X1_9 rfl rfl ?_
  rcases (show kd = 0 ∨ kd = 1 ∨ kd = 2 ∨ kd = 3 ∨ kd = 4 ∨ kd = 5 by omega) with rfl | rfl | rfl | rfl | rfl | rfl
  · refine V_lookup (off := 38) (pc' := 42) hX dX1_likenessAbove_4 (by decide) (by decide) rfl ?_
    refine V_lload_n (pc' := 43) hX dX1_likenessAbove_42 rfl rfl ?_
    refine V_lret hX hR dX1_likenessAbove_43 ?_
    exact ⟨rfl, rfl, rfl⟩
  · refine V_lookup (off := 38) (pc' := 42) hX dX1_likenessAbove_4 (by decide) (by decide) rfl ?_
    refine V_lload_n (pc' := 43) hX dX1_likenessAbove_42 rfl rfl ?_
    refine V_lret hX hR dX1_likenessAbove_43 ?_
    exact ⟨rfl, rfl, rfl⟩
  · refine V_lookup (off := 28) (pc' := 32) hX dX1_likenessAbove_4 (by decide) (by decide) rfl ?_
    refine V_ldc2N (pc' := 35) (v' := lN 2) hX dX1_likenessAbove_32 wK_X1_25 (by decide) rfl ?_
    refine V_lload_n (pc' := 36) hX dX1_likenessAbove_35 rfl rfl ?_
    refine V_lmulN (pc' := 37) hX dX1_likenessAbove_36 rfl ?_
    refine V_lret hX hR dX1_likenessAbove_37 ?_
    exact ⟨rfl, rfl, rfl⟩
  · refine V_lookup (off := 34) (pc' := 38) hX dX1_likenessAbove_4 (by decide) (by decide) rfl ?_
    refine V_lload_n (pc' := 39) hX dX1_likenessAbove_38 rfl rfl ?_
    refine V_lload_n (pc' := 40) hX dX1_likenessAbove_39 rfl rfl ?_
    refine V_lmulN (pc' := 41) hX dX1_likenessAbove_40 rfl ?_
    refine V_lret hX hR dX1_likenessAbove_41 ?_
    exact ⟨rfl, rfl, rfl⟩
  · refine V_lookup (off := 38) (pc' := 42) hX dX1_likenessAbove_4 (by decide) (by decide) rfl ?_
    refine V_lload_n (pc' := 43) hX dX1_likenessAbove_42 rfl rfl ?_
    refine V_lret hX hR dX1_likenessAbove_43 ?_
    exact ⟨rfl, rfl, rfl⟩
  · refine V_lookup (off := 38) (pc' := 42) hX dX1_likenessAbove_4 (by decide) (by decide) rfl ?_
    refine V_lload_n (pc' := 43) hX dX1_likenessAbove_42 rfl rfl ?_
    refine V_lret hX hR dX1_likenessAbove_43 ?_
    exact ⟨rfl, rfl, rfl⟩
set_option maxRecDepth 100000 in
set_option maxHeartbeats 4000000 in
theorem c_Ms_below {G : Gd} {z : Nat} {h : AH} {m kd p q : Nat} (s a b : Nat) (hs : s ≤ a + b) (ha : a ≤ 3000) (hb : b ≤ 3000) (hm : msAt h m kd p q) (hM : mOk kd p q) : Ct G yX1_likenessBelow cX1_likenessBelow 7 (some .long) 1 0 0 [.ref m, .long (lN s), .long (lN a), .long (lN b)] z h (fun r z' h' => r = some (.long (lN (belowN kd a b s))) ∧ z' = z ∧ h' = h) := by
  refine Ct.of (lv := [_, _, _, _, _, _, _]) (by decide) (Nat.le_of_ble_eq_true rfl) rfl ?_
  rintro X rfl hX hR hnm
  obtain ⟨m1, m2, m3, m4, m5, m6⟩ := id hM
  refine V_lload_n (pc' := 1) hX dX1_likenessBelow_0 rfl rfl ?_
  refine V_lconst (pc' := 2) (v := lN 0) hX dX1_likenessBelow_1 rfl rfl ?_
  refine V_lcmp_neN (pt := 8) (pc' := 6) hX dX1_likenessBelow_2 rfl dX1_likenessBelow_3 (by omega) (by omega) rfl rfl (fun c2 => ?_) (fun c2 => ?_)
  · refine V_aload_n (pc' := 9) hX dX1_likenessBelow_8 rfl rfl ?_
    refine V_get (pc' := 12) hX dX1_likenessBelow_9 hm rfl inX1 0 (by decide) wF_X1_9 rfl rfl ?_
    rcases (show kd = 0 ∨ kd = 1 ∨ kd = 2 ∨ kd = 3 ∨ kd = 4 ∨ kd = 5 by omega) with rfl | rfl | rfl | rfl | rfl | rfl
    · refine V_tableIn (pc' := 48) hX dX1_likenessBelow_12 (by decide) (by decide) rfl rfl ?_
      refine V_lconst (pc' := 49) (v := lN 1) hX dX1_likenessBelow_48 rfl rfl ?_
      refine V_lret hX hR dX1_likenessBelow_49 ?_
      unfold belowN; rw [if_neg c2]; exact ⟨rfl, rfl, rfl⟩
    · refine V_tableIn (pc' := 67) hX dX1_likenessBelow_12 (by decide) (by decide) rfl rfl ?_
      refine V_lload_n (pc' := 68) hX dX1_likenessBelow_67 rfl rfl ?_
      refine V_lload (pc' := 70) hX dX1_likenessBelow_68 rfl rfl ?_
      refine V_laddN (pc' := 71) hX dX1_likenessBelow_70 rfl ?_
      refine V_lload_n (pc' := 72) hX dX1_likenessBelow_71 rfl rfl ?_
      refine V_lsubN (pc' := 73) hX dX1_likenessBelow_72 (by omega) rfl ?_
      refine V_lret hX hR dX1_likenessBelow_73 ?_
      unfold belowN; rw [if_neg c2]; exact ⟨rfl, rfl, rfl⟩
    · refine V_tableIn (pc' := 50) hX dX1_likenessBelow_12 (by decide) (by decide) rfl rfl ?_
      refine V_lload_n (pc' := 51) hX dX1_likenessBelow_50 rfl rfl ?_
      refine V_lload (pc' := 53) hX dX1_likenessBelow_51 rfl rfl ?_
      refine V_laddN (pc' := 54) hX dX1_likenessBelow_53 rfl ?_
      refine V_lret hX hR dX1_likenessBelow_54 ?_
      unfold belowN; rw [if_neg c2]; exact ⟨rfl, rfl, rfl⟩
    · refine V_tableIn (pc' := 55) hX dX1_likenessBelow_12 (by decide) (by decide) rfl rfl ?_
      refine V_lload_n (pc' := 56) hX dX1_likenessBelow_55 rfl rfl ?_
      refine V_lload (pc' := 58) hX dX1_likenessBelow_56 rfl rfl ?_
      refine V_lmulN (pc' := 59) hX dX1_likenessBelow_58 rfl ?_
      refine V_lret hX hR dX1_likenessBelow_59 ?_
      unfold belowN; rw [if_neg c2]; exact ⟨rfl, rfl, rfl⟩
    · refine V_tableIn (pc' := 60) hX dX1_likenessBelow_12 (by decide) (by decide) rfl rfl ?_
      refine V_lload_n (pc' := 61) hX dX1_likenessBelow_60 rfl rfl ?_
      refine V_lload (pc' := 63) hX dX1_likenessBelow_61 rfl rfl ?_
      refine V_minLN (pc' := 66) hX dX1_likenessBelow_63 wM_X1_34 (by omega) (by omega) (by omega) (by omega) (by omega) rfl (Nat.le_of_ble_eq_true rfl) rfl ?_
      refine V_lret hX hR dX1_likenessBelow_66 ?_
      unfold belowN; rw [if_neg c2]; exact ⟨rfl, rfl, rfl⟩
    · refine V_tableOut (pc' := 67) hX dX1_likenessBelow_12 (by decide) rfl ?_
      refine V_lload_n (pc' := 68) hX dX1_likenessBelow_67 rfl rfl ?_
      refine V_lload (pc' := 70) hX dX1_likenessBelow_68 rfl rfl ?_
      refine V_laddN (pc' := 71) hX dX1_likenessBelow_70 rfl ?_
      refine V_lload_n (pc' := 72) hX dX1_likenessBelow_71 rfl rfl ?_
      refine V_lsubN (pc' := 73) hX dX1_likenessBelow_72 (by omega) rfl ?_
      refine V_lret hX hR dX1_likenessBelow_73 ?_
      unfold belowN; rw [if_neg c2]; exact ⟨rfl, rfl, rfl⟩
  · refine V_lconst (pc' := 7) (v := lN 1) hX dX1_likenessBelow_6 rfl rfl ?_
    refine V_lret hX hR dX1_likenessBelow_7 ?_
    subst c2
    exact ⟨rfl, rfl, rfl⟩
set_option maxRecDepth 100000 in
set_option maxHeartbeats 4000000 in
theorem c_Ms_isReached {G : Gd} {z : Nat} {h : AH} {m kd p q : Nat} (s a b : Nat) (hs : s ≤ a + b) (hs3 : s ≤ 3000) (ha : a ≤ 3000) (hb : b ≤ 3000) (hm : msAt h m kd p q) (hM : mOk kd p q) : Ct G yX1_isReached cX1_isReached 11 (some .boolean) 2 0 0 [.ref m, .long (lN s), .long (lN a), .long (lN b)] z h (fun r z' h' => r = some (.int (bI (reachN kd p q a b s))) ∧ z' = z ∧ h' = h) := by
  refine Ct.of (lv := [_, _, _, _, _, _, _, _, _, _, _]) (by decide) (Nat.le_of_ble_eq_true rfl) rfl ?_
  rintro X rfl hX hR hnm
  obtain ⟨m1, m2, m3, m4, m5, m6⟩ := id hM
  have l1 := limA_bd (kd := kd) m3
  have l2 : limA kd q ≤ 9000000 := limA_bd (by omega)
  have l3 := aboveN_bd (kd := kd) hs3
  have l4 := belowN_bd (kd := kd) (s := s) ha hb
  have l5 : aboveN kd s * limA kd q ≤ 9000000 * 9000000 := mul_bd l3 l2
  have l6 : limA kd p * belowN kd a b s ≤ 9000000 * 9000000 := mul_bd l1 l4
  have j1 :  V X 0 0 z h 27 [some (.ref m), some (.long (lN s)), none, some (.long (lN a)), none, some (.long (lN b)), none, none, none, none, none] [.long (lN (limA kd p))] := by
    skip
    have j2 :  V X 0 0 z h 56 [some (.ref m), some (.long (lN s)), none, some (.long (lN a)), none, some (.long (lN b)), none, some (.long (lN (limA kd p))), none, none, none] [.long (lN (limA kd q))] := by
      skip
      refine V_lstore (pc' := 58) (lv' := [_, _, _, _, _, _, _, _, _, _, _]) hX dX1_isReached_56 (Nat.le_of_ble_eq_true rfl) rfl rfl ?_
      refine V_lload_n (pc' := 59) hX dX1_isReached_58 rfl rfl ?_
      refine V_lconst (pc' := 60) (v := lN 0) hX dX1_isReached_59 rfl rfl ?_
      refine V_lcmp_leN (pt := 94) (pc' := 64) hX dX1_isReached_60 rfl dX1_isReached_61 (by omega) (by omega) rfl rfl (fun c60 => ?_) (fun c60 => ?_)
      · refine V_iconst (pc' := 95) (v := nI 0) hX dX1_isReached_94 (by decide) rfl ?_
        refine V_zret hX hR dX1_isReached_95 (by first | rfl | exact bI_n _) ?_
        unfold reachN; rw [decide_eq_false (by omega)]; exact ⟨rfl, rfl, rfl⟩
      · refine V_aload_n (pc' := 65) hX dX1_isReached_64 rfl rfl ?_
        refine V_lload_n (pc' := 66) hX dX1_isReached_65 rfl rfl ?_
        refine V_lload_n (pc' := 67) hX dX1_isReached_66 rfl rfl ?_
        refine V_lload (pc' := 69) hX dX1_isReached_67 rfl rfl ?_
        refine V_callV (nA := 3) (pc' := 72) (k' := 0) (n' := 0) hX dX1_isReached_69 (c_Ms_above s a b hm hM) hm rfl wM_X1_39 wI_X1_likenessAbove wL_X1_likenessAbove wN_X1 wC_X1_likenessAbove rfl hy_X1_likenessAbove rfl (Nat.le_of_ble_eq_true rfl) (by decide) (by omega) rfl rfl (by omega) rfl (by omega) rfl ?_
        rintro _ z h ⟨rfl, rfl, rfl⟩
        refine V.stk (st' := [_]) rfl ?_
        refine V_lload (pc' := 74) hX dX1_isReached_72 rfl rfl ?_
        refine V_lmulN (pc' := 75) hX dX1_isReached_74 rfl ?_
        refine V_lload (pc' := 77) hX dX1_isReached_75 rfl rfl ?_
        refine V_aload_n (pc' := 78) hX dX1_isReached_77 rfl rfl ?_
        refine V_lload_n (pc' := 79) hX dX1_isReached_78 rfl rfl ?_
        refine V_lload_n (pc' := 80) hX dX1_isReached_79 rfl rfl ?_
        refine V_lload (pc' := 82) hX dX1_isReached_80 rfl rfl ?_
        refine V_callV (nA := 3) (pc' := 85) (k' := 0) (n' := 0) hX dX1_isReached_82 (c_Ms_below s a b hs ha hb hm hM) hm rfl wM_X1_43 wI_X1_likenessBelow wL_X1_likenessBelow wN_X1 wC_X1_likenessBelow rfl hy_X1_likenessBelow rfl (Nat.le_of_ble_eq_true rfl) (by decide) (by omega) rfl rfl (by omega) rfl (by omega) rfl ?_
        rintro _ z h ⟨rfl, rfl, rfl⟩
        refine V.stk (st' := [_, _, _]) rfl ?_
        refine V_lmulN (pc' := 86) hX dX1_isReached_85 rfl ?_
        refine V_lcmp_ltN (pt := 94) (pc' := 90) hX dX1_isReached_86 rfl dX1_isReached_87 (by omega) (by omega) rfl rfl (fun c86 => ?_) (fun c86 => ?_)
        · refine V_iconst (pc' := 95) (v := nI 0) hX dX1_isReached_94 (by decide) rfl ?_
          refine V_zret hX hR dX1_isReached_95 (by first | rfl | exact bI_n _) ?_
          unfold reachN; rw [decide_eq_false (by omega)]; exact ⟨rfl, rfl, rfl⟩
        · refine V_iconst (pc' := 91) (v := nI 1) hX dX1_isReached_90 (by decide) rfl ?_
          refine V_goto (pc' := 95) hX dX1_isReached_91 rfl ?_
          refine V_zret hX hR dX1_isReached_95 (by first | rfl | exact bI_n _) ?_
          unfold reachN; rw [decide_eq_true (by omega)]; exact ⟨rfl, rfl, rfl⟩
    refine V_lstore (pc' := 29) (lv' := [_, _, _, _, _, _, _, _, _, _, _]) hX dX1_isReached_27 (Nat.le_of_ble_eq_true rfl) rfl rfl ?_
    refine V_aload_n (pc' := 30) hX dX1_isReached_29 rfl rfl ?_
    refine V_get (pc' := 33) hX dX1_isReached_30 hm rfl inX1 0 (by decide) wF_X1_9 rfl rfl ?_
    refine V_iconst (pc' := 34) (v := nI 3) hX dX1_isReached_33 (by decide) rfl ?_
    refine V_icmp_neN (pt := 51) (pc' := 37) hX dX1_isReached_34 (by omega) (by omega) rfl rfl (fun c34 => ?_) (fun c34 => ?_)
    · refine V_aload_n (pc' := 52) hX dX1_isReached_51 rfl rfl ?_
      refine V_get (pc' := 55) hX dX1_isReached_52 hm rfl inX1 2 (by decide) wF_X1_18 rfl rfl ?_
      refine V_i2lN (pc' := 56) hX dX1_isReached_55 (by omega) rfl ?_
      refine V.loc2 (lv' := [some _, some _, none, some _, none, some _, none, some _, none, none, none]) ⟨rfl, rfl, rfl, rfl, rfl, trivial⟩ ?_
      first
        | (have e : limA kd q = q * q := if_pos (by omega)
           rw [← e]; exact j2)
        | (have e : limA kd q = q := if_neg (by omega)
           have j := j2
           rw [e] at j; exact j)
    · refine V_aload_n (pc' := 38) hX dX1_isReached_37 rfl rfl ?_
      refine V_get (pc' := 41) hX dX1_isReached_38 hm rfl inX1 2 (by decide) wF_X1_18 rfl rfl ?_
      refine V_i2lN (pc' := 42) hX dX1_isReached_41 (by omega) rfl ?_
      refine V_aload_n (pc' := 43) hX dX1_isReached_42 rfl rfl ?_
      refine V_get (pc' := 46) hX dX1_isReached_43 hm rfl inX1 2 (by decide) wF_X1_18 rfl rfl ?_
      refine V_i2lN (pc' := 47) hX dX1_isReached_46 (by omega) rfl ?_
      refine V_lmulN (pc' := 48) hX dX1_isReached_47 rfl ?_
      refine V_goto (pc' := 56) hX dX1_isReached_48 rfl ?_
      refine V.loc2 (lv' := [some _, some _, none, some _, none, some _, none, some _, none, none, none]) ⟨rfl, rfl, rfl, rfl, rfl, trivial⟩ ?_
      first
        | (have e : limA kd q = q * q := if_pos (by omega)
           rw [← e]; exact j2)
        | (have e : limA kd q = q := if_neg (by omega)
           have j := j2
           rw [e] at j; exact j)
  refine V_aload_n (pc' := 1) hX dX1_isReached_0 rfl rfl ?_
  refine V_get (pc' := 4) hX dX1_isReached_1 hm rfl inX1 0 (by decide) wF_X1_9 rfl rfl ?_
  refine V_iconst (pc' := 5) (v := nI 3) hX dX1_isReached_4 (by decide) rfl ?_
  refine V_icmp_neN (pt := 22) (pc' := 8) hX dX1_isReached_5 (by omega) (by omega) rfl rfl (fun c5 => ?_) (fun c5 => ?_)
  · refine V_aload_n (pc' := 23) hX dX1_isReached_22 rfl rfl ?_
    refine V_get (pc' := 26) hX dX1_isReached_23 hm rfl inX1 1 (by decide) wF_X1_15 rfl rfl ?_
    refine V_i2lN (pc' := 27) hX dX1_isReached_26 (by omega) rfl ?_
    refine V.loc2 (lv' := [some _, some _, none, some _, none, some _, none, none, none, none, none]) ⟨rfl, rfl, rfl, rfl, trivial⟩ ?_
    first
      | (have e : limA kd p = p * p := if_pos (by omega)
         rw [← e]; exact j1)
      | (have e : limA kd p = p := if_neg (by omega)
         have j := j1
         rw [e] at j; exact j)
  · refine V_aload_n (pc' := 9) hX dX1_isReached_8 rfl rfl ?_
    refine V_get (pc' := 12) hX dX1_isReached_9 hm rfl inX1 1 (by decide) wF_X1_15 rfl rfl ?_
    refine V_i2lN (pc' := 13) hX dX1_isReached_12 (by omega) rfl ?_
    refine V_aload_n (pc' := 14) hX dX1_isReached_13 rfl rfl ?_
    refine V_get (pc' := 17) hX dX1_isReached_14 hm rfl inX1 1 (by decide) wF_X1_15 rfl rfl ?_
    refine V_i2lN (pc' := 18) hX dX1_isReached_17 (by omega) rfl ?_
    refine V_lmulN (pc' := 19) hX dX1_isReached_18 rfl ?_
    refine V_goto (pc' := 27) hX dX1_isReached_19 rfl ?_
    refine V.loc2 (lv' := [some _, some _, none, some _, none, some _, none, none, none, none, none]) ⟨rfl, rfl, rfl, rfl, trivial⟩ ?_
    first
      | (have e : limA kd p = p * p := if_pos (by omega)
         rw [← e]; exact j1)
      | (have e : limA kd p = p := if_neg (by omega)
         have j := j1
         rw [e] at j; exact j)
set_option maxRecDepth 100000 in
set_option maxHeartbeats 4000000 in
theorem c_Ms_gcd {G : Gd} {z : Nat} {h : AH} (t x y : Nat) (ht : t < 2 ^ 62) (hx : x ≤ 9000000) (hy0 : 0 < y) (hy : y ≤ 9000000) : Ct G yX1_withoutDivisor cX1_withoutDivisor 13 (some .long) 0 0 0 [.long (lN t), .long (lN x), .long (lN y)] z h (fun r z' h' => r = some (.long (lN (t / Nat.gcd y x))) ∧ z' = z ∧ h' = h) := by
  refine Ct.of (lv := [_, _, _, _, _, _, _, _, _, _, _, _, _]) (by decide) (Nat.le_of_ble_eq_true rfl) rfl ?_
  rintro X rfl hX hR hnm
  have hxy : y * x ≤ 9000000 * 9000000 := mul_bd hy hx
  refine V_lload (pc' := 2) hX dX1_withoutDivisor_0 rfl rfl ?_
  refine V_lstore (pc' := 4) (lv' := [_, _, _, _, _, _, _, _, _, _, _, _, _]) hX dX1_withoutDivisor_2 (Nat.le_of_ble_eq_true rfl) rfl rfl ?_
  refine V_lload_n (pc' := 5) hX dX1_withoutDivisor_4 rfl rfl ?_
  refine V_lstore (pc' := 7) (lv' := [_, _, _, _, _, _, _, _, _, _, _, _, _]) hX dX1_withoutDivisor_5 (Nat.le_of_ble_eq_true rfl) rfl rfl ?_
  refine V_iconst (pc' := 8) (v := nI 0) hX dX1_withoutDivisor_7 (by decide) rfl ?_
  refine V_istore (pc' := 10) (lv' := [_, _, _, _, _, _, _, _, _, _, _, _, _]) hX dX1_withoutDivisor_8 (Nat.le_of_ble_eq_true rfl) rfl rfl ?_
  have lp : ∀ (μ i dv rs : Nat), i ≤ 100 → 0 < dv → dv ≤ 9000000 → rs ≤ 9000000 → Nat.gcd dv rs = Nat.gcd y x → ((i = 0 ∧ dv * rs < 2 ^ 60) ∨ (0 < i ∧ rs ≤ dv ∧ dv * rs < 2 ^ (100 - i))) → 100 - i < μ → V X 0 0 z h 10 [some (.long (lN t)), none, some (.long (lN x)), none, some (.long (lN y)), none, some (.long (lN dv)), none, some (.long (lN rs)), none, some (.int (nI i)), none, none] [] := by
    intro μ
    induction μ with
    | zero => intros; omega
    | succ μ ih =>
      intro i dv rs b1 b2 b3 b4 b5 b6 b7
      refine V_iload (pc' := 12) hX dX1_withoutDivisor_10 rfl rfl ?_
      refine V_bipush (pc' := 14) (v := nI 100) hX dX1_withoutDivisor_12 (by decide) rfl ?_
      refine V_icmp_geN (pt := 45) (pc' := 17) hX dX1_withoutDivisor_14 (by omega) (by omega) rfl rfl (fun c14 => ?_) (fun c14 => ?_)
      · have hrs : rs = 0 := by
          rcases b6 with ⟨e0, e⟩ | ⟨e0, e1, e2⟩
          · omega
          · by_cases hi : i = 100
            · subst hi
              have e3 : dv * rs < 1 := e2
              rcases Nat.eq_zero_or_pos rs with r | r
              · exact r
              · have := Nat.mul_pos b2 r; omega
            · omega
        subst hrs
        rw [Nat.gcd_zero_right] at b5
        subst b5
        refine V_lload (pc' := 47) hX dX1_withoutDivisor_45 rfl rfl ?_
        refine V_lconst (pc' := 48) (v := lN 0) hX dX1_withoutDivisor_47 rfl rfl ?_
        refine V_lcmp_neN (pt := 56) (pc' := 52) hX dX1_withoutDivisor_48 rfl dX1_withoutDivisor_49 (by omega) (by omega) rfl rfl (fun c48 => ?_) (fun c48 => ?_)
        · refine V_lload_n (pc' := 57) hX dX1_withoutDivisor_56 rfl rfl ?_
          refine V_lload (pc' := 59) hX dX1_withoutDivisor_57 rfl rfl ?_
          refine V_ldivN (pc' := 60) hX dX1_withoutDivisor_59 (by omega) (by omega) (by omega) rfl ?_
          refine V_lret hX hR dX1_withoutDivisor_60 ?_
          exact ⟨rfl, rfl, rfl⟩
        · omega
      · refine V_lload (pc' := 19) hX dX1_withoutDivisor_17 rfl rfl ?_
        refine V_lconst (pc' := 20) (v := lN 0) hX dX1_withoutDivisor_19 rfl rfl ?_
        refine V_lcmp_eqN (pt := 45) (pc' := 24) hX dX1_withoutDivisor_20 rfl dX1_withoutDivisor_21 (by omega) (by omega) rfl rfl (fun c20 => ?_) (fun c20 => ?_)
        · have hrs : rs = 0 := by
            rcases b6 with ⟨e0, e⟩ | ⟨e0, e1, e2⟩
            · omega
            · by_cases hi : i = 100
              · subst hi
                have e3 : dv * rs < 1 := e2
                rcases Nat.eq_zero_or_pos rs with r | r
                · exact r
                · have := Nat.mul_pos b2 r; omega
              · omega
          subst hrs
          rw [Nat.gcd_zero_right] at b5
          subst b5
          refine V_lload (pc' := 47) hX dX1_withoutDivisor_45 rfl rfl ?_
          refine V_lconst (pc' := 48) (v := lN 0) hX dX1_withoutDivisor_47 rfl rfl ?_
          refine V_lcmp_neN (pt := 56) (pc' := 52) hX dX1_withoutDivisor_48 rfl dX1_withoutDivisor_49 (by omega) (by omega) rfl rfl (fun c48 => ?_) (fun c48 => ?_)
          · refine V_lload_n (pc' := 57) hX dX1_withoutDivisor_56 rfl rfl ?_
            refine V_lload (pc' := 59) hX dX1_withoutDivisor_57 rfl rfl ?_
            refine V_ldivN (pc' := 60) hX dX1_withoutDivisor_59 (by omega) (by omega) (by omega) rfl ?_
            refine V_lret hX hR dX1_withoutDivisor_60 ?_
            exact ⟨rfl, rfl, rfl⟩
          · omega
        · refine V_lload (pc' := 26) hX dX1_withoutDivisor_24 rfl rfl ?_
          refine V_lload (pc' := 28) hX dX1_withoutDivisor_26 rfl rfl ?_
          refine V_lremN (pc' := 29) hX dX1_withoutDivisor_28 (by omega) (by omega) (by omega) rfl ?_
          refine V_lstore (pc' := 31) (lv' := [_, _, _, _, _, _, _, _, _, _, _, _, _]) hX dX1_withoutDivisor_29 (Nat.le_of_ble_eq_true rfl) rfl rfl ?_
          refine V_lload (pc' := 33) hX dX1_withoutDivisor_31 rfl rfl ?_
          refine V_lstore (pc' := 35) (lv' := [_, _, _, _, _, _, _, _, _, _, _, _, _]) hX dX1_withoutDivisor_33 (Nat.le_of_ble_eq_true rfl) rfl rfl ?_
          refine V_lload (pc' := 37) hX dX1_withoutDivisor_35 rfl rfl ?_
          refine V_lstore (pc' := 39) (lv' := [_, _, _, _, _, _, _, _, _, _, _, _, _]) hX dX1_withoutDivisor_37 (Nat.le_of_ble_eq_true rfl) rfl rfl ?_
          refine V_iincN (pc' := 42) (j := 1) (lv' := [_, _, _, _, _, _, _, _, _, _, _, _, _]) hX dX1_withoutDivisor_39 rfl rfl rfl rfl ?_
          refine V_goto (pc' := 10) hX dX1_withoutDivisor_42 rfl ?_
          refine V.loc2 (lv' := [some _, none, some _, none, some _, none, some _, none, some _, none, some _, none, none]) ⟨rfl, rfl, rfl, rfl, rfl, rfl, trivial⟩ ?_
          have hrs : 0 < rs := by omega
          have hmd : dv % rs < rs := Nat.mod_lt _ hrs
          refine ih (i + 1) rs (dv % rs) (by omega) hrs (by omega) (by omega) ((gcd_go dv rs).trans b5) (Or.inr ⟨by omega, by omega, ?_⟩) (by omega)
          rcases b6 with ⟨rfl, e⟩ | ⟨e0, e1, e2⟩
          · have h1 : rs * (dv % rs) ≤ rs * dv := Nat.mul_le_mul (Nat.le_refl _) (Nat.mod_le _ _)
            rw [Nat.mul_comm rs dv] at h1
            have h2 : (2 : Nat) ^ 60 ≤ 2 ^ (100 - (0 + 1)) := by decide
            omega
          · have h1 := euclid_half e1 hrs
            have h2 : 2 ^ (100 - i) = 2 * 2 ^ (100 - (i + 1)) := by rw [show 100 - i = (100 - (i + 1)) + 1 by omega, Nat.pow_succ]; omega
            omega
  refine V.loc2 (lv' := [some _, none, some _, none, some _, none, some _, none, some _, none, some _, none, none]) ⟨rfl, rfl, rfl, rfl, rfl, rfl, trivial⟩ ?_
  exact lp 101 0 y x (by omega) hy0 hy hx rfl (Or.inl ⟨rfl, by omega⟩) (by omega)
