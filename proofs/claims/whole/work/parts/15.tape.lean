set_option maxRecDepth 100000 in
set_option maxHeartbeats 4000000 in
theorem c_Tp_init {G : Gd} {z : Nat} {h : AH} {t : Nat} (ha : h t = some (oO 6 [.null, .int 0, .null])) (hz : z = t + 1) : Ct G yX6_init cX6_init 1 none 1 2 110 [.ref t] z h (fun r z' h' => r = none ∧ z' = t + 3 ∧ tpAt G h' t (fun _ => 0) (fun _ => 0) 0 ∧ fr t (t + 3) h h') := by
  refine Ct.of (lv := [_]) (by decide) (Nat.le_of_ble_eq_true rfl) rfl ?_
  rintro X rfl hX hR hnm
  subst hz
  refine V_aload_n (pc' := 1) hX dX6_init_0 rfl rfl ?_
  refine V_objInit (pc' := 4) hX dX6_init_1 wM_X6_3 wI_objInit wC_objInit (by omega) rfl rfl rfl ?_
  refine V_aload_n (pc' := 5) hX dX6_init_4 rfl rfl ?_
  refine V_bipush (pc' := 7) (v := nI 80) hX dX6_init_5 (by decide) rfl ?_
  refine V_newIN (pc' := 9) hX dX6_init_7 (by omega) (by omega) (by omega) rfl ?_
  simp only [Nat.zero_add]
  refine V_putF (pc' := 12) (fs' := [_, _, _]) (ty0 := tyX6) hX dX6_init_9 (hnm.trans rfl) ((hup_n (by omega)).trans ha) rfl inX6 tyX6_ok nmX6 0 (by decide) wF_X6_11 rfl rfl (tyX6_ok 0 (by decide)) rfl rfl (Nat.le_of_ble_eq_true rfl) rfl rfl ?_
  refine V_aload_n (pc' := 13) hX dX6_init_12 rfl rfl ?_
  refine V_bipush (pc' := 15) (v := nI 30) hX dX6_init_13 (by decide) rfl ?_
  refine V_newIN (pc' := 17) hX dX6_init_15 (by omega) (by omega) (by omega) rfl ?_
  simp only [Nat.reduceAdd]
  refine V_putF (pc' := 20) (fs' := [_, _, _]) (ty0 := tyX6) hX dX6_init_17 (hnm.trans rfl) ((hup_n (by omega)).trans hup_s) rfl inX6 tyX6_ok nmX6 2 (by decide) wF_X6_15 rfl rfl (tyX6_ok 2 (by decide)) rfl rfl (Nat.le_of_ble_eq_true rfl) rfl rfl ?_
  refine V_vret hX hR dX6_init_20 ?_
  exact ⟨rfl, rfl, ⟨hup_s, ((hup_n (by omega)).trans ((hup_n (by omega)).trans ((hup_n (by omega)).trans hup_s))), ((hup_n (by omega)).trans hup_s)⟩, (fr.up (fr.up (fr.up (fr.up fr.rf (by omega) (by omega)) (by omega) (by omega)) (by omega) (by omega)) (by omega) (by omega))⟩
set_option maxRecDepth 100000 in
set_option maxHeartbeats 4000000 in
theorem c_Tp_hasRoomFor {G : Gd} {z : Nat} {h : AH} {t len : Nat} {bf nf : Nat → Nat} (k : Nat) (hk : k < 1000) (hT : tpAt G h t bf nf len) (hO : tpOk bf len) : Ct G yX6_hasRoomFor cX6_hasRoomFor 2 (some .boolean) 0 0 0 [.ref t, .int (nI k)] z h (fun r z' h' => r = some (.int (bI (decide (len + k ≤ 80)))) ∧ z' = z ∧ h' = h) := by
  refine Ct.of (lv := [_, _]) (by decide) (Nat.le_of_ble_eq_true rfl) rfl ?_
  rintro X rfl hX hR hnm
  obtain ⟨h0, h1, h2⟩ := id hT
  obtain ⟨o1, o2⟩ := id hO
  refine V_aload_n (pc' := 1) hX dX6_hasRoomFor_0 rfl rfl ?_
  refine V_get (pc' := 4) hX dX6_hasRoomFor_1 h0 rfl inX6 1 (by decide) wF_X6_18 rfl rfl ?_
  refine V_iload_n (pc' := 5) hX dX6_hasRoomFor_4 rfl rfl ?_
  refine V_iaddN (pc' := 6) hX dX6_hasRoomFor_5 rfl ?_
  refine V_bipush (pc' := 8) (v := nI 80) hX dX6_hasRoomFor_6 (by decide) rfl ?_
  refine V_icmp_gtN (pt := 15) (pc' := 11) hX dX6_hasRoomFor_8 (by omega) (by omega) rfl rfl (fun c8 => ?_) (fun c8 => ?_)
  · refine V_iconst (pc' := 16) (v := nI 0) hX dX6_hasRoomFor_15 (by decide) rfl ?_
    refine V_zret hX hR dX6_hasRoomFor_16 (by rfl) ?_
    exact ⟨by rw [decide_eq_false (by omega)]; rfl, rfl, rfl⟩
  · refine V_iconst (pc' := 12) (v := nI 1) hX dX6_hasRoomFor_11 (by decide) rfl ?_
    refine V_goto (pc' := 16) hX dX6_hasRoomFor_12 rfl ?_
    refine V_zret hX hR dX6_hasRoomFor_16 (by rfl) ?_
    exact ⟨by rw [decide_eq_true (by omega)]; rfl, rfl, rfl⟩
set_option maxRecDepth 100000 in
set_option maxHeartbeats 4000000 in
theorem c_Tp_append {G : Gd} {z : Nat} {h : AH} {t len : Nat} {bf nf : Nat → Nat} (v : Int32) (hl : len + 4 ≤ 80) (hT : tpAt G h t bf nf len) (hO : tpOk bf len) : Ct G yX6_append cX6_append 3 none 0 0 0 [.ref t, .int v] z h (fun r z' h' => r = none ∧ z' = z ∧ fr t (t + 3) h h' ∧ ∃ bf', tpAt G h' t bf' nf (len + 4) ∧ tpOk bf' (len + 4) ∧ (∀ j, j < len → bf' j = bf j) ∧ ∀ i, i < 4 → bf' (len + i) = byN v (24 - 8 * i)) := by
  refine Ct.of (lv := [_, _, _]) (by decide) (Nat.le_of_ble_eq_true rfl) rfl ?_
  rintro X rfl hX hR hnm
  obtain ⟨h0, h1, h2⟩ := id hT
  obtain ⟨o1, o2⟩ := id hO
  refine V_bipush (pc' := 2) (v := nI 24) hX dX6_append_0 (by decide) rfl ?_
  refine V_istore_n (pc' := 3) (lv' := [_, _, _]) hX dX6_append_2 (Nat.le_of_ble_eq_true rfl) rfl rfl ?_
  have lp : ∀ (μ i : Nat) (hc : AH) (bc : Nat → Nat), i ≤ 4 → fr t (t + 3) h hc → tpAt X.G hc t bc nf (len + i) → (∀ j, j < len → bc j = bf j) → (∀ k, k < i → bc (len + k) = byN v (24 - 8 * k)) → 4 - i < μ → V X 0 0 z hc 3 [some (.ref t), some (.int v), some (.int (shI i))] [] := by
    intro μ
    induction μ with
    | zero => intros; omega
    | succ μ ih =>
      intro i hc bc b1 b2 b3 b4 b5 b6
      obtain ⟨h0, h1, h2⟩ := id b3
      refine V_iload_n (pc' := 4) hX dX6_append_3 rfl rfl ?_
      refine V_if_lt (pt := 48) (pc' := 7) hX dX6_append_4 rfl rfl (fun c4 => ?_) (fun c4 => ?_)
      · have hc4 := (shI_neg i (by omega)).mp c4
        refine V_vret hX hR dX6_append_48 ?_
        have e : i = 4 := by omega
        subst e
        exact ⟨rfl, rfl, b2, bc, b3, ⟨by omega, fun j hj => by
          rcases Nat.lt_or_ge j len with r | r
          · rw [b4 j r]; exact o2 j r
          · have := b5 (j - len) (by omega)
            rw [show len + (j - len) = j by omega] at this
            rw [this]; exact byN_lt _ _⟩, b4, b5⟩
      · have hc4 : i < 4 := by
          have := mt (shI_neg i (by omega)).mpr c4
          omega
        refine V_aload_n (pc' := 8) hX dX6_append_7 rfl rfl ?_
        refine V_get (pc' := 11) hX dX6_append_8 h0 rfl inX6 1 (by decide) wF_X6_18 rfl rfl ?_
        refine V_bipush (pc' := 13) (v := nI 80) hX dX6_append_11 (by decide) rfl ?_
        refine V_icmp_geN (pt := 48) (pc' := 16) hX dX6_append_13 (by omega) (by omega) rfl rfl (fun c13 => ?_) (fun c13 => ?_)
        · omega
        · refine V_aload_n (pc' := 17) hX dX6_append_16 rfl rfl ?_
          refine V_get (pc' := 20) hX dX6_append_17 h0 rfl inX6 0 (by decide) wF_X6_11 rfl rfl ?_
          refine V_aload_n (pc' := 21) hX dX6_append_20 rfl rfl ?_
          refine V_get (pc' := 24) hX dX6_append_21 h0 rfl inX6 1 (by decide) wF_X6_18 rfl rfl ?_
          refine V_iload_n (pc' := 25) hX dX6_append_24 rfl rfl ?_
          refine V_iload_n (pc' := 26) hX dX6_append_25 rfl rfl ?_
          refine V_iushr (pc' := 27) hX dX6_append_26 rfl ?_
          refine V_sipush (pc' := 30) (v := nI 255) hX dX6_append_27 (by decide) rfl ?_
          refine V_iand (pc' := 31) hX dX6_append_30 rfl ?_
          refine V.eqi (by_ushr v hc4) ?_
          refine V_iastN (pc' := 32) hX dX6_append_31 h1 (by omega) (by omega) rfl ?_
          refine V_aload_n (pc' := 33) hX dX6_append_32 rfl rfl ?_
          refine V_dup (pc' := 34) hX dX6_append_33 rfl rfl ?_
          refine V_get (pc' := 37) hX dX6_append_34 ((hup_n (by omega)).trans h0) rfl inX6 1 (by decide) wF_X6_18 rfl rfl ?_
          refine V_iconst (pc' := 38) (v := nI 1) hX dX6_append_37 (by decide) rfl ?_
          refine V_iaddN (pc' := 39) hX dX6_append_38 rfl ?_
          refine V_put (pc' := 42) (fs' := [_, _, _]) (ty0 := tyX6) hX dX6_append_39 ((hup_n (by omega)).trans h0) rfl inX6 tyX6_ok nmX6 1 (by decide) wF_X6_18 rfl (tyX6_ok 1 (by decide)) rfl rfl (Nat.le_of_ble_eq_true rfl) rfl rfl ?_
          refine V_iinc (pc' := 45) (lv' := [_, _, _]) (v := shI (i + 1)) hX dX6_append_42 rfl (shI_step i hc4) rfl rfl ?_
          refine V_goto (pc' := 3) hX dX6_append_45 rfl ?_
          exact ih (i + 1) _ (va_up bc (len + i) (byN v (24 - 8 * i))) (by omega) (b2.tr (fr.up (fr.up fr.rf (by omega) (by omega)) (by omega) (by omega))) ⟨hup_s, ((hup_n (by omega)).trans hup_s), ((hup_n (by omega)).trans ((hup_n (by omega)).trans h2))⟩ (fun j hj => by unfold va_up; rw [if_neg (by omega)]; exact b4 j hj) (fun k hk => by
            unfold va_up
            by_cases e : k = i
            · rw [e, if_pos rfl]
            · rw [if_neg (by omega)]; exact b5 k (by omega)) (by omega)
  exact lp 5 0 h bf (by omega) fr.rf hT (fun _ _ => rfl) (fun k hk => by omega) (by omega)
set_option maxRecDepth 100000 in
set_option maxHeartbeats 4000000 in
theorem c_Tp_cut {G : Gd} {z : Nat} {h : AH} {t len : Nat} {bf nf : Nat → Nat} (n : Int32) (hT : tpAt G h t bf nf len) (hO : tpOk bf len) : Ct G yX6_cut cX6_cut 2 (some .boolean) 0 0 0 [.ref t, .int n] z h (fun r z' h' => ∃ b : Bool, r = some (.int (bI b)) ∧ z' = z ∧ (b = true ↔ (0 ≤ n.toInt ∧ n.toInt ≤ (len : Int))) ∧ (b = false → h' = h) ∧ (b = true → ∃ m, m ≤ len ∧ n = nI m ∧ tpAt G h' t bf nf m ∧ fr t (t + 3) h h')) := by
  refine Ct.of (lv := [_, _]) (by decide) (Nat.le_of_ble_eq_true rfl) rfl ?_
  rintro X rfl hX hR hnm
  obtain ⟨h0, h1, h2⟩ := id hT
  obtain ⟨o1, o2⟩ := id hO
  refine V_iload_n (pc' := 1) hX dX6_cut_0 rfl rfl ?_
  refine V_if_lt (pt := 12) (pc' := 4) hX dX6_cut_1 rfl rfl (fun c1 => ?_) (fun c1 => ?_)
  · have hc : n.toInt < 0 := i32_lt.mp c1
    refine V_iconst (pc' := 13) (v := nI 0) hX dX6_cut_12 (by decide) rfl ?_
    refine V_zret hX hR dX6_cut_13 (by rfl) ?_
    exact ⟨false, rfl, rfl, ⟨(fun r => by cases r), fun r => by omega⟩, fun _ => rfl, (fun r => by cases r)⟩
  · obtain ⟨m, hm, rfl⟩ := nI_of c1
    refine V_iload_n (pc' := 5) hX dX6_cut_4 rfl rfl ?_
    refine V_aload_n (pc' := 6) hX dX6_cut_5 rfl rfl ?_
    refine V_get (pc' := 9) hX dX6_cut_6 h0 rfl inX6 1 (by decide) wF_X6_18 rfl rfl ?_
    refine V_icmp_leN (pt := 14) (pc' := 12) hX dX6_cut_9 hm (by omega) rfl rfl (fun c9 => ?_) (fun c9 => ?_)
    · refine V_aload_n (pc' := 15) hX dX6_cut_14 rfl rfl ?_
      refine V_iload_n (pc' := 16) hX dX6_cut_15 rfl rfl ?_
      refine V_put (pc' := 19) (fs' := [_, _, _]) (ty0 := tyX6) hX dX6_cut_16 h0 rfl inX6 tyX6_ok nmX6 1 (by decide) wF_X6_18 rfl (tyX6_ok 1 (by decide)) rfl rfl (Nat.le_of_ble_eq_true rfl) rfl rfl ?_
      refine V_iconst (pc' := 20) (v := nI 1) hX dX6_cut_19 (by decide) rfl ?_
      refine V_zret hX hR dX6_cut_20 (by rfl) ?_
      exact ⟨true, rfl, rfl, ⟨fun _ => by rw [nI_toInt hm]; omega, fun _ => rfl⟩, (fun r => by cases r), fun _ => ⟨m, c9, rfl, ⟨hup_s, ((hup_n (by omega)).trans h1), ((hup_n (by omega)).trans h2)⟩, (fr.up fr.rf (by omega) (by omega))⟩⟩
    · refine V_iconst (pc' := 13) (v := nI 0) hX dX6_cut_12 (by decide) rfl ?_
      refine V_zret hX hR dX6_cut_13 (by rfl) ?_
      exact ⟨false, rfl, rfl, ⟨(fun r => by cases r), fun r => by rw [nI_toInt hm] at r; omega⟩, fun _ => rfl, (fun r => by cases r)⟩
set_option maxRecDepth 100000 in
set_option maxHeartbeats 4000000 in
theorem c_Tp_pieceAt {G : Gd} {z : Nat} {h : AH} {t len : Nat} {bf nf : Nat → Nat} (q : Nat) (hq : q = 1 ∨ q = 2) (i : Nat) (hi : i + q ≤ len) (hT : tpAt G h t bf nf len) (hO : tpOk bf len) : Ct G yX6_pieceAt cX6_pieceAt 5 (some .int) 0 0 0 [.ref t, .int (nI i), .int (nI q)] z h (fun r z' h' => r = some (.int (nI (pcN bf q i))) ∧ z' = z ∧ h' = h) := by
  refine Ct.of (lv := [_, _, _, _, _]) (by decide) (Nat.le_of_ble_eq_true rfl) rfl ?_
  rintro X rfl hX hR hnm
  obtain ⟨h0, h1, h2⟩ := id hT
  obtain ⟨o1, o2⟩ := id hO
  refine V_iconst (pc' := 1) (v := nI 0) hX dX6_pieceAt_0 (by decide) rfl ?_
  refine V_istore_n (pc' := 2) (lv' := [_, _, _, _, _]) hX dX6_pieceAt_1 (Nat.le_of_ble_eq_true rfl) rfl rfl ?_
  refine V_iload_n (pc' := 3) hX dX6_pieceAt_2 rfl rfl ?_
  refine V_istore (pc' := 5) (lv' := [_, _, _, _, _]) hX dX6_pieceAt_3 (Nat.le_of_ble_eq_true rfl) rfl rfl ?_
  have lp : ∀ (μ k : Nat), k ≤ q → q - k < μ → V X 0 0 z h 5 [some (.ref t), some (.int (nI i)), some (.int (nI q)), some (.int (nI (accN bf i k))), some (.int (nI (i + k)))] [] := by
    intro μ
    induction μ with
    | zero => intros; omega
    | succ μ ih =>
      intro k b1 b2
      refine V_iload (pc' := 7) hX dX6_pieceAt_5 rfl rfl ?_
      refine V_iload_n (pc' := 8) hX dX6_pieceAt_7 rfl rfl ?_
      refine V_iload_n (pc' := 9) hX dX6_pieceAt_8 rfl rfl ?_
      refine V_iaddN (pc' := 10) hX dX6_pieceAt_9 rfl ?_
      refine V_icmp_geN (pt := 41) (pc' := 13) hX dX6_pieceAt_10 (by omega) (by omega) rfl rfl (fun c10 => ?_) (fun c10 => ?_)
      · refine V_iload_n (pc' := 42) hX dX6_pieceAt_41 rfl rfl ?_
        refine V_iret hX hR dX6_pieceAt_42 ?_
        have e : k = q := by omega
        subst e
        have e2 : accN bf i k = pcN bf k i := by
          rcases hq with rfl | rfl <;> simp [accN, pcN]
        rw [e2]
        exact ⟨rfl, rfl, rfl⟩
      · refine V_iload (pc' := 15) hX dX6_pieceAt_13 rfl rfl ?_
        refine V_aload_n (pc' := 16) hX dX6_pieceAt_15 rfl rfl ?_
        refine V_get (pc' := 19) hX dX6_pieceAt_16 h0 rfl inX6 1 (by decide) wF_X6_18 rfl rfl ?_
        refine V_icmp_geN (pt := 41) (pc' := 22) hX dX6_pieceAt_19 (by omega) (by omega) rfl rfl (fun c19 => ?_) (fun c19 => ?_)
        · omega
        · refine V_iload_n (pc' := 23) hX dX6_pieceAt_22 rfl rfl ?_
          refine V_bipush (pc' := 25) (v := nI 8) hX dX6_pieceAt_23 (by decide) rfl ?_
          refine V_ishl (pc' := 26) hX dX6_pieceAt_25 rfl ?_
          refine V_aload_n (pc' := 27) hX dX6_pieceAt_26 rfl rfl ?_
          refine V_get (pc' := 30) hX dX6_pieceAt_27 h0 rfl inX6 0 (by decide) wF_X6_11 rfl rfl ?_
          refine V_iload (pc' := 32) hX dX6_pieceAt_30 rfl rfl ?_
          refine V_ialdN (pc' := 33) hX dX6_pieceAt_32 h1 (by omega) (by omega) rfl rfl ?_
          refine V_ior (pc' := 34) hX dX6_pieceAt_33 rfl ?_
          refine V.eqi (y := nI (accN bf i (k + 1))) ?_ ?_
          · have hb := o2 (i + k) (by omega)
            have ha : accN bf i k * 2 ^ 8 < 2 ^ 32 := by
              have h1 := o2 i (by omega)
              unfold accN
              split
              · omega
              · split <;> omega
            rw [pk_shlN (nI 8 &&& 31) 8 (by decide) ha, show (2 : Nat) ^ 8 = 256 by decide, nI_or8 hb, accN_step (by omega)]
          refine V_istore_n (pc' := 35) (lv' := [_, _, _, _, _]) hX dX6_pieceAt_34 (Nat.le_of_ble_eq_true rfl) rfl rfl ?_
          refine V_iincN (pc' := 38) (j := 1) (lv' := [_, _, _, _, _]) hX dX6_pieceAt_35 rfl rfl rfl rfl ?_
          refine V_goto (pc' := 5) hX dX6_pieceAt_38 rfl ?_
          rw [show i + k + 1 = i + (k + 1) by omega]
          exact ih (k + 1) (by omega) (by omega)
  exact lp 3 0 (by omega) (by omega)
set_option maxRecDepth 100000 in
set_option maxHeartbeats 4000000 in
theorem c_Tp_countLike {G : Gd} {z : Nat} {h : AH} {t len : Nat} {bf nf : Nat → Nat} (q : Nat) (hq : q = 1 ∨ q = 2) (i : Nat) (hi : i + q ≤ len) (hT : tpAt G h t bf nf len) (hO : tpOk bf len) : Ct G yX6_countLikeOnesAhead cX6_countLikeOnesAhead 6 (some .int) 1 0 0 [.ref t, .int (nI i), .int (nI q)] z h (fun r z' h' => r = some (.int (nI (cnL bf q i i))) ∧ z' = z ∧ h' = h) := by
  refine Ct.of (lv := [_, _, _, _, _, _]) (by decide) (Nat.le_of_ble_eq_true rfl) rfl ?_
  rintro X rfl hX hR hnm
  obtain ⟨h0, h1, h2⟩ := id hT
  obtain ⟨o1, o2⟩ := id hO
  refine V_aload_n (pc' := 1) hX dX6_countLikeOnesAhead_0 rfl rfl ?_
  refine V_iload_n (pc' := 2) hX dX6_countLikeOnesAhead_1 rfl rfl ?_
  refine V_iload_n (pc' := 3) hX dX6_countLikeOnesAhead_2 rfl rfl ?_
  refine V_callV (nA := 2) (pc' := 6) (k' := 0) (n' := 0) hX dX6_countLikeOnesAhead_3 (c_Tp_pieceAt q hq i hi hT hO) h0 rfl wM_X6_26 wI_X6_pieceAt wL_X6_pieceAt wN_X6 wC_X6_pieceAt rfl hy_X6_pieceAt rfl (Nat.le_of_ble_eq_true rfl) (by decide) (by omega) rfl rfl (by omega) rfl (by omega) rfl ?_
  rintro _ z h ⟨rfl, rfl, rfl⟩
  refine V.stk (st' := [_]) rfl ?_
  refine V_istore_n (pc' := 7) (lv' := [_, _, _, _, _, _]) hX dX6_countLikeOnesAhead_6 (Nat.le_of_ble_eq_true rfl) rfl rfl ?_
  refine V_iconst (pc' := 8) (v := nI 0) hX dX6_countLikeOnesAhead_7 (by decide) rfl ?_
  refine V_istore (pc' := 10) (lv' := [_, _, _, _, _, _]) hX dX6_countLikeOnesAhead_8 (Nat.le_of_ble_eq_true rfl) rfl rfl ?_
  refine V_iconst (pc' := 11) (v := nI 0) hX dX6_countLikeOnesAhead_10 (by decide) rfl ?_
  refine V_istore (pc' := 13) (lv' := [_, _, _, _, _, _]) hX dX6_countLikeOnesAhead_11 (Nat.le_of_ble_eq_true rfl) rfl rfl ?_
  have lp : ∀ (μ j : Nat), j ≤ i → i - j < μ → V X 0 0 z h 13 [some (.ref t), some (.int (nI i)), some (.int (nI q)), some (.int (nI (pcN bf q i))), some (.int (nI (cnL bf q i j))), some (.int (nI j))] [] := by
    intro μ
    induction μ with
    | zero => intros; omega
    | succ μ ih =>
      intro j b1 b2
      refine V_iload (pc' := 15) hX dX6_countLikeOnesAhead_13 rfl rfl ?_
      refine V_iload_n (pc' := 16) hX dX6_countLikeOnesAhead_15 rfl rfl ?_
      refine V_icmp_geN (pt := 39) (pc' := 19) hX dX6_countLikeOnesAhead_16 (by omega) (by omega) rfl rfl (fun c16 => ?_) (fun c16 => ?_)
      · refine V_iload (pc' := 41) hX dX6_countLikeOnesAhead_39 rfl rfl ?_
        refine V_iret hX hR dX6_countLikeOnesAhead_41 ?_
        have e : j = i := by omega
        subst e
        exact ⟨rfl, rfl, rfl⟩
      · refine V_aload_n (pc' := 20) hX dX6_countLikeOnesAhead_19 rfl rfl ?_
        refine V_iload (pc' := 22) hX dX6_countLikeOnesAhead_20 rfl rfl ?_
        refine V_iload_n (pc' := 23) hX dX6_countLikeOnesAhead_22 rfl rfl ?_
        refine V_callV (nA := 2) (pc' := 26) (k' := 0) (n' := 0) hX dX6_countLikeOnesAhead_23 (c_Tp_pieceAt q hq j (by omega) hT hO) h0 rfl wM_X6_26 wI_X6_pieceAt wL_X6_pieceAt wN_X6 wC_X6_pieceAt rfl hy_X6_pieceAt rfl (Nat.le_of_ble_eq_true rfl) (by decide) (by omega) rfl rfl (by omega) rfl (by omega) rfl ?_
        rintro _ z h ⟨rfl, rfl, rfl⟩
        refine V.stk (st' := [_]) rfl ?_
        refine V_iload_n (pc' := 27) hX dX6_countLikeOnesAhead_26 rfl rfl ?_
        refine V_icmp_neN (pt := 33) (pc' := 30) hX dX6_countLikeOnesAhead_27 (by have := pcN_bd hO hq (i := j) (by omega); omega) (by have := pcN_bd hO hq (i := i) hi; omega) rfl rfl (fun c27 => ?_) (fun c27 => ?_)
        · refine V_iincN (pc' := 36) (j := 1) (lv' := [_, _, _, _, _, _]) hX dX6_countLikeOnesAhead_33 rfl rfl rfl rfl ?_
          refine V_goto (pc' := 13) hX dX6_countLikeOnesAhead_36 rfl ?_
          first
            | (have e : cnL bf q i j + 1 = cnL bf q i (j + 1) := by
                 show _ = cnL bf q i j + if pcN bf q j = pcN bf q i then 1 else 0
                 rw [if_pos c27]
               rw [e]; exact ih (j + 1) (by omega) (by omega))
            | (have e : cnL bf q i j = cnL bf q i (j + 1) := by
                 show _ = cnL bf q i j + if pcN bf q j = pcN bf q i then 1 else 0
                 rw [if_neg c27, Nat.add_zero]
               rw [e]; exact ih (j + 1) (by omega) (by omega))
        · refine V_iincN (pc' := 33) (j := 1) (lv' := [_, _, _, _, _, _]) hX dX6_countLikeOnesAhead_30 rfl rfl rfl rfl ?_
          refine V_iincN (pc' := 36) (j := 1) (lv' := [_, _, _, _, _, _]) hX dX6_countLikeOnesAhead_33 rfl rfl rfl rfl ?_
          refine V_goto (pc' := 13) hX dX6_countLikeOnesAhead_36 rfl ?_
          first
            | (have e : cnL bf q i j + 1 = cnL bf q i (j + 1) := by
                 show _ = cnL bf q i j + if pcN bf q j = pcN bf q i then 1 else 0
                 rw [if_pos c27]
               rw [e]; exact ih (j + 1) (by omega) (by omega))
            | (have e : cnL bf q i j = cnL bf q i (j + 1) := by
                 show _ = cnL bf q i j + if pcN bf q j = pcN bf q i then 1 else 0
                 rw [if_neg c27, Nat.add_zero]
               rw [e]; exact ih (j + 1) (by omega) (by omega))
  exact lp (i + 1) 0 (by omega) (by omega)
set_option maxRecDepth 100000 in
set_option maxHeartbeats 4000000 in
theorem c_Tp_findNumbers {G : Gd} {z : Nat} {h : AH} {t len : Nat} {bf nf : Nat → Nat} (q : Nat) (hq : q = 1 ∨ q = 2) (hT : tpAt G h t bf nf len) (hO : tpOk bf len) : Ct G yX6_findNumbers cX6_findNumbers 5 (some .int) 2 0 0 [.ref t, .int (nI q)] z h (fun r z' h' => z' = z ∧ fr t (t + 3) h h' ∧ ∃ nf', tpAt G h' t bf nf' len ∧ (((tnL bf q (len + 1 - q)).length ≤ 30 ∧ r = some (.int (nI (tnL bf q (len + 1 - q)).length)) ∧ ∀ j, j < (tnL bf q (len + 1 - q)).length → nf' j = (tnL bf q (len + 1 - q)).getD j 0) ∨ (30 < (tnL bf q (len + 1 - q)).length ∧ r = some (.int (-1))))) := by
  refine Ct.of (lv := [_, _, _, _, _]) (by decide) (Nat.le_of_ble_eq_true rfl) rfl ?_
  rintro X rfl hX hR hnm
  obtain ⟨h0, h1, h2⟩ := id hT
  obtain ⟨o1, o2⟩ := id hO
  refine V_iconst (pc' := 1) (v := nI 0) hX dX6_findNumbers_0 (by decide) rfl ?_
  refine V_istore_n (pc' := 2) (lv' := [_, _, _, _, _]) hX dX6_findNumbers_1 (Nat.le_of_ble_eq_true rfl) rfl rfl ?_
  refine V_iconst (pc' := 3) (v := nI 0) hX dX6_findNumbers_2 (by decide) rfl ?_
  refine V_istore_n (pc' := 4) (lv' := [_, _, _, _, _]) hX dX6_findNumbers_3 (Nat.le_of_ble_eq_true rfl) rfl rfl ?_
  have lp : ∀ (μ i : Nat) (hc : AH) (nc : Nat → Nat), i ≤ len + 1 - q → fr t (t + 3) h hc → tpAt X.G hc t bf nc len → (tnL bf q i).length ≤ 30 → (∀ j, j < (tnL bf q i).length → nc j = (tnL bf q i).getD j 0) → len + 1 - q - i < μ → V X 0 0 z hc 4 [some (.ref t), some (.int (nI q)), some (.int (nI (tnL bf q i).length)), some (.int (nI i)), none] [] := by
    intro μ
    induction μ with
    | zero => intros; omega
    | succ μ ih =>
      intro i hc nc b1 b2 b3 b4 b5 b6
      obtain ⟨h0, h1, h2⟩ := id b3
      refine V_iload_n (pc' := 5) hX dX6_findNumbers_4 rfl rfl ?_
      refine V_iload_n (pc' := 6) hX dX6_findNumbers_5 rfl rfl ?_
      refine V_iaddN (pc' := 7) hX dX6_findNumbers_6 rfl ?_
      refine V_aload_n (pc' := 8) hX dX6_findNumbers_7 rfl rfl ?_
      refine V_get (pc' := 11) hX dX6_findNumbers_8 h0 rfl inX6 1 (by decide) wF_X6_18 rfl rfl ?_
      refine V_icmp_gtN (pt := 64) (pc' := 14) hX dX6_findNumbers_11 (by omega) (by omega) rfl rfl (fun c11 => ?_) (fun c11 => ?_)
      · refine V_iload_n (pc' := 65) hX dX6_findNumbers_64 rfl rfl ?_
        refine V_iret hX hR dX6_findNumbers_65 ?_
        have e : i = len + 1 - q := by omega
        subst e
        exact ⟨rfl, b2, nc, b3, Or.inl ⟨b4, rfl, b5⟩⟩
      · refine V_aload_n (pc' := 15) hX dX6_findNumbers_14 rfl rfl ?_
        refine V_iload_n (pc' := 16) hX dX6_findNumbers_15 rfl rfl ?_
        refine V_iload_n (pc' := 17) hX dX6_findNumbers_16 rfl rfl ?_
        refine V_callV (nA := 2) (pc' := 20) (k' := 0) (n' := 0) hX dX6_findNumbers_17 (c_Tp_countLike q hq i (by omega) b3 hO) h0 rfl wM_X6_22 wI_X6_countLikeOnesAhead wL_X6_countLikeOnesAhead wN_X6 wC_X6_countLikeOnesAhead rfl hy_X6_countLikeOnesAhead rfl (Nat.le_of_ble_eq_true rfl) (by decide) (by omega) rfl rfl (by omega) rfl (by omega) rfl ?_
        rintro _ z hc ⟨rfl, rfl, rfl⟩
        have hcn := cnL_le (bf := bf) (q := q) (i := i) i
        refine V.stk (st' := [_]) rfl ?_
        refine V_istore (pc' := 22) (lv' := [_, _, _, _, _]) hX dX6_findNumbers_20 (Nat.le_of_ble_eq_true rfl) rfl rfl ?_
        refine V_iload (pc' := 24) hX dX6_findNumbers_22 rfl rfl ?_
        refine V_bipush (pc' := 26) (v := nI 8) hX dX6_findNumbers_24 (by decide) rfl ?_
        refine V_icmp_geN (pt := 58) (pc' := 29) hX dX6_findNumbers_26 (by omega) (by omega) rfl rfl (fun c26 => ?_) (fun c26 => ?_)
        · refine V_iincN (pc' := 61) (j := 1) (lv' := [_, _, _, _, _]) hX dX6_findNumbers_58 rfl rfl rfl rfl ?_
          refine V_goto (pc' := 4) hX dX6_findNumbers_61 rfl ?_
          refine V.loc2 (lv' := [some _, some _, some _, some _, none]) ⟨rfl, rfl, rfl, rfl, trivial⟩ ?_
          first
            | (have e : tnL bf q (i + 1) = tnL bf q i ++ [8 * pcN bf q i + cnL bf q i i] := by
                 show tnL bf q i ++ (if cnL bf q i i < 8 then _ else _) = _
                 rw [if_pos (by omega)]
               have el : (tnL bf q (i + 1)).length = (tnL bf q i).length + 1 := by rw [e]; simp
               rw [← el]
               exact ih (i + 1) _ (va_up nc (tnL bf q i).length (8 * pcN bf q i + cnL bf q i i)) (by omega) (b2.tr fr.rf) ⟨h0, h1, h2⟩ (by omega) (fun j hj => by
                 rw [e]
                 unfold va_up
                 by_cases ej : j = (tnL bf q i).length
                 · rw [if_pos ej, ej]; simp
                 · rw [if_neg ej, b5 j (by omega), List.getD_eq_getElem?_getD, List.getD_eq_getElem?_getD, List.getElem?_append_left (by omega)]) (by omega))
            | (have e : tnL bf q (i + 1) = tnL bf q i := by
                 show tnL bf q i ++ (if cnL bf q i i < 8 then _ else _) = _
                 rw [if_neg (by omega), List.append_nil]
               rw [← e]
               rw [← e] at b4 b5
               exact ih (i + 1) _ nc (by omega) b2 b3 b4 b5 (by omega))
        · refine V_iload_n (pc' := 30) hX dX6_findNumbers_29 rfl rfl ?_
          refine V_bipush (pc' := 32) (v := nI 30) hX dX6_findNumbers_30 (by decide) rfl ?_
          refine V_icmp_ltN (pt := 37) (pc' := 35) hX dX6_findNumbers_32 (by omega) (by omega) rfl rfl (fun c32 => ?_) (fun c32 => ?_)
          · refine V_aload_n (pc' := 38) hX dX6_findNumbers_37 rfl rfl ?_
            refine V_get (pc' := 41) hX dX6_findNumbers_38 h0 rfl inX6 2 (by decide) wF_X6_15 rfl rfl ?_
            refine V_iload_n (pc' := 42) hX dX6_findNumbers_41 rfl rfl ?_
            refine V_bipush (pc' := 44) (v := nI 8) hX dX6_findNumbers_42 (by decide) rfl ?_
            refine V_aload_n (pc' := 45) hX dX6_findNumbers_44 rfl rfl ?_
            refine V_iload_n (pc' := 46) hX dX6_findNumbers_45 rfl rfl ?_
            refine V_iload_n (pc' := 47) hX dX6_findNumbers_46 rfl rfl ?_
            refine V_callV (nA := 2) (pc' := 50) (k' := 0) (n' := 0) hX dX6_findNumbers_47 (c_Tp_pieceAt q hq i (by omega) b3 hO) h0 rfl wM_X6_26 wI_X6_pieceAt wL_X6_pieceAt wN_X6 wC_X6_pieceAt rfl hy_X6_pieceAt rfl (Nat.le_of_ble_eq_true rfl) (by decide) (by omega) rfl rfl (by omega) rfl (by omega) rfl ?_
            rintro _ z hc ⟨rfl, rfl, rfl⟩
            refine V.stk (st' := [_, _, _, _]) rfl ?_
            refine V_imulN (pc' := 51) hX dX6_findNumbers_50 rfl ?_
            refine V_iload (pc' := 53) hX dX6_findNumbers_51 rfl rfl ?_
            refine V_iaddN (pc' := 54) hX dX6_findNumbers_53 rfl ?_
            refine V_iastN (pc' := 55) hX dX6_findNumbers_54 h2 (by omega) (by omega) rfl ?_
            refine V_iincN (pc' := 58) (j := 1) (lv' := [_, _, _, _, _]) hX dX6_findNumbers_55 rfl rfl rfl rfl ?_
            refine V_iincN (pc' := 61) (j := 1) (lv' := [_, _, _, _, _]) hX dX6_findNumbers_58 rfl rfl rfl rfl ?_
            refine V_goto (pc' := 4) hX dX6_findNumbers_61 rfl ?_
            refine V.loc2 (lv' := [some _, some _, some _, some _, none]) ⟨rfl, rfl, rfl, rfl, trivial⟩ ?_
            first
              | (have e : tnL bf q (i + 1) = tnL bf q i ++ [8 * pcN bf q i + cnL bf q i i] := by
                   show tnL bf q i ++ (if cnL bf q i i < 8 then _ else _) = _
                   rw [if_pos (by omega)]
                 have el : (tnL bf q (i + 1)).length = (tnL bf q i).length + 1 := by rw [e]; simp
                 rw [← el]
                 exact ih (i + 1) _ (va_up nc (tnL bf q i).length (8 * pcN bf q i + cnL bf q i i)) (by omega) (b2.tr (fr.up fr.rf (by omega) (by omega))) ⟨((hup_n (by omega)).trans h0), ((hup_n (by omega)).trans h1), hup_s⟩ (by omega) (fun j hj => by
                   rw [e]
                   unfold va_up
                   by_cases ej : j = (tnL bf q i).length
                   · rw [if_pos ej, ej]; simp
                   · rw [if_neg ej, b5 j (by omega), List.getD_eq_getElem?_getD, List.getD_eq_getElem?_getD, List.getElem?_append_left (by omega)]) (by omega))
              | (have e : tnL bf q (i + 1) = tnL bf q i := by
                   show tnL bf q i ++ (if cnL bf q i i < 8 then _ else _) = _
                   rw [if_neg (by omega), List.append_nil]
                 rw [← e]
                 rw [← e] at b4 b5
                 exact ih (i + 1) _ nc (by omega) b2 b3 b4 b5 (by omega))
          · refine V_iconst (pc' := 36) (v := (-1)) hX dX6_findNumbers_35 (by decide) rfl ?_
            refine V_iret hX hR dX6_findNumbers_36 ?_
            refine ⟨rfl, b2, nc, b3, Or.inr ⟨?_, rfl⟩⟩
            have e : tnL bf q (i + 1) = tnL bf q i ++ [8 * pcN bf q i + cnL bf q i i] := by
              show tnL bf q i ++ (if cnL bf q i i < 8 then _ else _) = _
              rw [if_pos (by omega)]
            have el : (tnL bf q (i + 1)).length = (tnL bf q i).length + 1 := by rw [e]; simp
            have := tnL_mono (bf := bf) (q := q) (show i + 1 ≤ len + 1 - q by omega)
            omega
  refine V.loc2 (lv' := [some _, some _, some _, some _, none]) ⟨rfl, rfl, rfl, rfl, trivial⟩ ?_
  exact lp (len + 2) 0 h nf (by omega) fr.rf hT (by simp [tnL]) (fun j hj => by simp [tnL] at hj) (by omega)
