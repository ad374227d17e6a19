set_option maxRecDepth 100000 in
set_option maxHeartbeats 4000000 in
theorem c_PS_feed {G : Gd} {h : AH} {z x : Nat} {mk : Nat} {sa : Nat → Option Nat} {L : Nat → List Nat} {Fr : Nat → Nat → Nat} {Wr : Nat → Nat → Nat} {fn : Nat → Nat} {fv : Nat → Nat} {fs : Nat} {tn : Nat → Nat} {tv : Nat → Nat} {ts : Nat} {kd : Nat} {p : Nat} {q : Nat} {bf : Nat → Nat} {len : Nat} {ta : Nat → Nat} {sp : Nat} {f1 : Nat → Nat} {f2 : Nat → Nat} {f3 : Nat → Nat} {ks : Nat} {ff : Nat → Nat} {fg : Nat} {co : Nat} (a b c d e : Int32) (hP : psAt G h z x mk sa L Fr Wr fn fv fs tn tv ts kd p q bf len ta sp f1 f2 f3 ks ff fg co) : Ct G yX7_feed cX7_feed 6 (some .int) 1 0 0 [.ref x, .int a, .int b, .int c, .int d, .int e] z h (fun r' z' h' => z' = z ∧ frO x z sa h h' ∧ ((80 < len + 20 ∧ r' = some (.int (-1)) ∧ h' = h) ∨ (len + 20 ≤ 80 ∧ r' = some (.int (nI (len + 20))) ∧ ∃ bf', (∀ j, j < len → bf' j = bf j) ∧ (∀ i, i < 4 → bf' (len + i) = byN a (24 - 8 * i) ∧ bf' (len + 4 + i) = byN b (24 - 8 * i) ∧ bf' (len + 8 + i) = byN c (24 - 8 * i) ∧ bf' (len + 12 + i) = byN d (24 - 8 * i) ∧ bf' (len + 16 + i) = byN e (24 - 8 * i)) ∧ psAt G h' z x mk sa L Fr Wr fn fv fs tn tv ts kd p q (bf') (len + 20) ta sp f1 f2 f3 ks ff fg co))) := by
  refine Ct.of (lv := [_, _, _, _, _, _]) (by decide) (Nat.le_of_ble_eq_true rfl) rfl ?_
  rintro X rfl hX hR hnm
  obtain ⟨⟨hx, hsa⟩, ⟨hF, hFO⟩, ⟨hT, hTO⟩, ⟨hm, hM⟩, ⟨⟨nf, hp⟩, hPO⟩, ⟨s0, s1, s2, ho⟩, ⟨bg, hbg⟩, hta, ⟨⟨ab, bw, hk⟩, hks⟩, ⟨hn, hnO⟩, hS, hmk, hnone, hxz, hco⟩ := id hP
  refine V_aload_n (pc' := 1) hX dX7_feed_0 rfl rfl ?_
  refine V_get (pc' := 4) hX dX7_feed_1 hx rfl inX7 5 (by decide) wF_X7_37 rfl rfl ?_
  refine V_bipush (pc' := 6) (v := nI 20) hX dX7_feed_4 (by decide) rfl ?_
  refine V_callV (nA := 1) (pc' := 9) (k' := 0) (n' := 0) hX dX7_feed_6 (c_Tp_hasRoomFor 20 (by omega) hp hPO) hp.1 rfl wM_X7_106 wI_X6_hasRoomFor wL_X6_hasRoomFor wN_X6 wC_X6_hasRoomFor rfl hy_X6_hasRoomFor rfl (Nat.le_of_ble_eq_true rfl) (by decide) (by omega) rfl rfl (by omega) rfl (by omega) rfl ?_
  rintro _ z h ⟨rfl, rfl, rfl⟩
  refine V.stk (st' := [_]) rfl ?_
  refine V_if_neB (pt := 14) (pc' := 12) hX dX7_feed_9 rfl rfl (fun c9 => ?_) (fun c9 => ?_)
  · have hroom := of_decide_eq_true c9
    refine V_aload_n (pc' := 15) hX dX7_feed_14 rfl rfl ?_
    refine V_get (pc' := 18) hX dX7_feed_15 hx rfl inX7 5 (by decide) wF_X7_37 rfl rfl ?_
    refine V_iload_n (pc' := 19) hX dX7_feed_18 rfl rfl ?_
    refine V_callV (nA := 1) (pc' := 22) (k' := 0) (n' := 0) hX dX7_feed_19 (c_Tp_append a (by omega) hp hPO) hp.1 rfl wM_X7_109 wI_X6_append wL_X6_append wN_X6 wC_X6_append rfl hy_X6_append rfl (Nat.le_of_ble_eq_true rfl) (by decide) (by omega) rfl rfl (by omega) rfl (by omega) rfl ?_
    rintro _ z h1 ⟨rfl, rfl, f1, bf1, a1, o1, b1, d1⟩
    have hP1 := hP.uP a1 o1 f1
    obtain ⟨⟨hx, hsa⟩, ⟨hF, hFO⟩, ⟨hT, hTO⟩, ⟨hm, hM⟩, ⟨⟨nf, hp⟩, hPO⟩, ⟨s0, s1, s2, ho⟩, ⟨bg, hbg⟩, hta, ⟨⟨ab, bw, hk⟩, hks⟩, ⟨hn, hnO⟩, hS, hmk, hnone, hxz, hco⟩ := id hP1
    refine V.stk (st' := []) rfl ?_
    refine V_aload_n (pc' := 23) hX dX7_feed_22 rfl rfl ?_
    refine V_get (pc' := 26) hX dX7_feed_23 hx rfl inX7 5 (by decide) wF_X7_37 rfl rfl ?_
    refine V_iload_n (pc' := 27) hX dX7_feed_26 rfl rfl ?_
    refine V_callV (nA := 1) (pc' := 30) (k' := 0) (n' := 0) hX dX7_feed_27 (c_Tp_append b (by omega) hp hPO) hp.1 rfl wM_X7_109 wI_X6_append wL_X6_append wN_X6 wC_X6_append rfl hy_X6_append rfl (Nat.le_of_ble_eq_true rfl) (by decide) (by omega) rfl rfl (by omega) rfl (by omega) rfl ?_
    rintro _ z h2 ⟨rfl, rfl, f2, bf2, a2, o2, b2, d2⟩
    have hP2 := hP1.uP a2 o2 f2
    obtain ⟨⟨hx, hsa⟩, ⟨hF, hFO⟩, ⟨hT, hTO⟩, ⟨hm, hM⟩, ⟨⟨nf, hp⟩, hPO⟩, ⟨s0, s1, s2, ho⟩, ⟨bg, hbg⟩, hta, ⟨⟨ab, bw, hk⟩, hks⟩, ⟨hn, hnO⟩, hS, hmk, hnone, hxz, hco⟩ := id hP2
    refine V.stk (st' := []) rfl ?_
    refine V_aload_n (pc' := 31) hX dX7_feed_30 rfl rfl ?_
    refine V_get (pc' := 34) hX dX7_feed_31 hx rfl inX7 5 (by decide) wF_X7_37 rfl rfl ?_
    refine V_iload_n (pc' := 35) hX dX7_feed_34 rfl rfl ?_
    refine V_callV (nA := 1) (pc' := 38) (k' := 0) (n' := 0) hX dX7_feed_35 (c_Tp_append c (by omega) hp hPO) hp.1 rfl wM_X7_109 wI_X6_append wL_X6_append wN_X6 wC_X6_append rfl hy_X6_append rfl (Nat.le_of_ble_eq_true rfl) (by decide) (by omega) rfl rfl (by omega) rfl (by omega) rfl ?_
    rintro _ z h3 ⟨rfl, rfl, f3, bf3, a3, o3, b3, d3⟩
    have hP3 := hP2.uP a3 o3 f3
    obtain ⟨⟨hx, hsa⟩, ⟨hF, hFO⟩, ⟨hT, hTO⟩, ⟨hm, hM⟩, ⟨⟨nf, hp⟩, hPO⟩, ⟨s0, s1, s2, ho⟩, ⟨bg, hbg⟩, hta, ⟨⟨ab, bw, hk⟩, hks⟩, ⟨hn, hnO⟩, hS, hmk, hnone, hxz, hco⟩ := id hP3
    refine V.stk (st' := []) rfl ?_
    refine V_aload_n (pc' := 39) hX dX7_feed_38 rfl rfl ?_
    refine V_get (pc' := 42) hX dX7_feed_39 hx rfl inX7 5 (by decide) wF_X7_37 rfl rfl ?_
    refine V_iload (pc' := 44) hX dX7_feed_42 rfl rfl ?_
    refine V_callV (nA := 1) (pc' := 47) (k' := 0) (n' := 0) hX dX7_feed_44 (c_Tp_append d (by omega) hp hPO) hp.1 rfl wM_X7_109 wI_X6_append wL_X6_append wN_X6 wC_X6_append rfl hy_X6_append rfl (Nat.le_of_ble_eq_true rfl) (by decide) (by omega) rfl rfl (by omega) rfl (by omega) rfl ?_
    rintro _ z h4 ⟨rfl, rfl, f4, bf4, a4, o4, b4, d4⟩
    have hP4 := hP3.uP a4 o4 f4
    obtain ⟨⟨hx, hsa⟩, ⟨hF, hFO⟩, ⟨hT, hTO⟩, ⟨hm, hM⟩, ⟨⟨nf, hp⟩, hPO⟩, ⟨s0, s1, s2, ho⟩, ⟨bg, hbg⟩, hta, ⟨⟨ab, bw, hk⟩, hks⟩, ⟨hn, hnO⟩, hS, hmk, hnone, hxz, hco⟩ := id hP4
    refine V.stk (st' := []) rfl ?_
    refine V_aload_n (pc' := 48) hX dX7_feed_47 rfl rfl ?_
    refine V_get (pc' := 51) hX dX7_feed_48 hx rfl inX7 5 (by decide) wF_X7_37 rfl rfl ?_
    refine V_iload (pc' := 53) hX dX7_feed_51 rfl rfl ?_
    refine V_callV (nA := 1) (pc' := 56) (k' := 0) (n' := 0) hX dX7_feed_53 (c_Tp_append e (by omega) hp hPO) hp.1 rfl wM_X7_109 wI_X6_append wL_X6_append wN_X6 wC_X6_append rfl hy_X6_append rfl (Nat.le_of_ble_eq_true rfl) (by decide) (by omega) rfl rfl (by omega) rfl (by omega) rfl ?_
    rintro _ z h5 ⟨rfl, rfl, f5, bf5, a5, o5, b5, d5⟩
    have hP5 := hP4.uP a5 o5 f5
    obtain ⟨⟨hx, hsa⟩, ⟨hF, hFO⟩, ⟨hT, hTO⟩, ⟨hm, hM⟩, ⟨⟨nf, hp⟩, hPO⟩, ⟨s0, s1, s2, ho⟩, ⟨bg, hbg⟩, hta, ⟨⟨ab, bw, hk⟩, hks⟩, ⟨hn, hnO⟩, hS, hmk, hnone, hxz, hco⟩ := id hP5
    refine V.stk (st' := []) rfl ?_
    refine V_aload_n (pc' := 57) hX dX7_feed_56 rfl rfl ?_
    refine V_get (pc' := 60) hX dX7_feed_57 hx rfl inX7 5 (by decide) wF_X7_37 rfl rfl ?_
    refine V_getN (pc' := 63) hX dX7_feed_60 hp.1 rfl inX6 1 (by decide) wFn_X7_112 rfl rfl ?_
    refine V_iret hX hR dX7_feed_63 ?_
    refine ⟨rfl, frO.of ((((f1.tr f2).tr f3).tr f4).tr f5) (by omega) (by omega), Or.inr ⟨by omega, rfl, bf5, fun j hj => ?_, fun i hi => ?_, hP5⟩⟩
    · rw [b5 j (by omega), b4 j (by omega), b3 j (by omega), b2 j (by omega), b1 j hj]
    · refine ⟨?_, ?_, ?_, ?_, ?_⟩
      · rw [b5 _ (by omega), b4 _ (by omega), b3 _ (by omega), b2 _ (by omega)]; exact d1 i hi
      · rw [b5 _ (by omega), b4 _ (by omega), b3 _ (by omega)]; exact d2 i hi
      · rw [b5 _ (by omega), b4 _ (by omega)]; exact d3 i hi
      · rw [b5 _ (by omega)]; exact d4 i hi
      · exact d5 i hi
  · have hroom := of_decide_eq_false c9
    refine V_iconst (pc' := 13) (v := (-1)) hX dX7_feed_12 (by decide) rfl ?_
    refine V_iret hX hR dX7_feed_13 ?_
    exact ⟨rfl, frO.rf, Or.inl ⟨by omega, rfl, rfl⟩⟩
set_option maxRecDepth 100000 in
set_option maxHeartbeats 4000000 in
theorem c_PS_weighAll {G : Gd} {h : AH} {z x : Nat} {mk : Nat} {sa : Nat → Option Nat} {L : Nat → List Nat} {F : Nat → Nat} {W : Nat → Nat} {fn : Nat → Nat} {fv : Nat → Nat} {fs : Nat} {tn : Nat → Nat} {tv : Nat → Nat} {ts : Nat} {kd : Nat} {p : Nat} {q : Nat} {bf : Nat → Nat} {len : Nat} {ta : Nat → Nat} {sp : Nat} {f1 : Nat → Nat} {f2 : Nat → Nat} {f3 : Nat → Nat} {ks : Nat} {ff : Nat → Nat} {fg : Nat} {co : Nat} {W2 : Nat → Nat} (hWe : W2 = wtF kd tn tv ts) (hW1 : ∀ v, 1 ≤ W2 v ∧ W2 v ≤ 100) (hP : psAt G h z x mk sa L (fun _ => F) (fun _ => W) fn fv fs tn tv ts kd p q bf len ta sp f1 f2 f3 ks ff fg co) : Ct G yX7_weighAll cX7_weighAll 4 none 3 0 0 [.ref x] z h (fun r' z' h' => r' = none ∧ z' = z ∧ frO x z sa h h' ∧ ∃ fg', (∀ r, r < mk → fg'.testBit r = true) ∧ psAt G h' z x mk sa L (fun _ => F) (fun _ => W2) fn fv fs tn tv ts kd p q bf len ta sp f1 f2 f3 ks ff (fg') co) := by
  refine Ct.of (lv := [_, _, _, _]) (by decide) (Nat.le_of_ble_eq_true rfl) rfl ?_
  rintro X rfl hX hR hnm
  obtain ⟨⟨hx, hsa⟩, ⟨hF, hFO⟩, ⟨hT, hTO⟩, ⟨hm, hM⟩, ⟨⟨nf, hp⟩, hPO⟩, ⟨s0, s1, s2, ho⟩, ⟨bg, hbg⟩, hta, ⟨⟨ab, bw, hk⟩, hks⟩, ⟨hn, hnO⟩, hS, hmk, hnone, hxz, hco⟩ := id hP
  refine V_iconst (pc' := 1) (v := nI 0) hX dX7_weighAll_0 (by decide) rfl ?_
  refine V_istore_n (pc' := 2) (lv' := [_, _, _, _]) hX dX7_weighAll_1 (Nat.le_of_ble_eq_true rfl) rfl rfl ?_
  have lp : ∀ (μ i : Nat) (h1 : AH) (fg1 : Nat), i ≤ mk → frO x z sa h h1 → psAt X.G h1 z x mk sa L (fun _ => F) (fun s => if s < i then W2 else W) fn fv fs tn tv ts kd p q bf len ta sp f1 f2 f3 ks ff (fg1) co → (∀ r, r < i → fg1.testBit r = true) → mk - i < μ → V X 0 0 z h1 2 [some (.ref x), some (.int (nI i)), none, none] [] := by
    intro μ
    induction μ with
    | zero => intros; omega
    | succ μ ih =>
      intro i h1 fg1 b1 b2 hP b4 b5
      obtain ⟨⟨hx, hsa⟩, ⟨hF, hFO⟩, ⟨hT, hTO⟩, ⟨hm, hM⟩, ⟨⟨nf, hp⟩, hPO⟩, ⟨s0, s1, s2, ho⟩, ⟨bg, hbg⟩, hta, ⟨⟨ab, bw, hk⟩, hks⟩, ⟨hn, hnO⟩, hS, hmk, hnone, hxz, hco⟩ := id hP
      refine V_iload_n (pc' := 3) hX dX7_weighAll_2 rfl rfl ?_
      refine V_aload_n (pc' := 4) hX dX7_weighAll_3 rfl rfl ?_
      refine V_get (pc' := 7) hX dX7_weighAll_4 hx rfl inX7 1 (by decide) wF_X7_69 rfl rfl ?_
      refine V_icmp_geN (pt := 65) (pc' := 10) hX dX7_weighAll_7 (by omega) (by omega) rfl rfl (fun c7 => ?_) (fun c7 => ?_)
      · refine V_vret hX hR dX7_weighAll_65 ?_
        refine ⟨rfl, rfl, b2, fg1, fun r hr => b4 r (by omega), hP.cong (fun r q0 hq => ⟨rfl, fun v hv => ⟨rfl, ?_⟩⟩)⟩
        have hr : r < mk := Nat.lt_of_not_le (fun e => by rw [hnone r e] at hq; cases hq)
        rw [if_pos (by omega)]
      · refine V_aload_n (pc' := 11) hX dX7_weighAll_10 rfl rfl ?_
        refine V_get (pc' := 14) hX dX7_weighAll_11 hx rfl inX7 0 (by decide) wF_X7_11 rfl rfl ?_
        refine V_iload_n (pc' := 15) hX dX7_weighAll_14 rfl rfl ?_
        rcases hs : sa i with _ | q1
        · refine V_aaldN (pc' := 16) (v := .null) hX dX7_weighAll_15 hsa (by omega) (by omega) (by rw [hs]; rfl) rfl ?_
          refine V_astore_nN (pc' := 17) (lv' := [_, _, _, _]) hX dX7_weighAll_16 (Nat.le_of_ble_eq_true rfl) rfl rfl ?_
          have ihO := ih
          refine V_iconst (pc' := 18) (v := nI 0) hX dX7_weighAll_17 (by decide) rfl ?_
          refine V_istore_n (pc' := 19) (lv' := [_, _, _, _]) hX dX7_weighAll_18 (Nat.le_of_ble_eq_true rfl) rfl rfl ?_
          refine V_aload_nN (pc' := 20) hX dX7_weighAll_19 rfl rfl ?_
          refine V_ifnullN (pc' := 51) hX dX7_weighAll_20 rfl ?_
          have hP8 : psAt X.G _ z x mk sa L (fun _ => F) (fun s => if s < i + 1 then W2 else W) fn fv fs tn tv ts kd p q bf len ta sp f1 f2 f3 ks ff (fg1) co := hP.cong (fun r q0 hq => ⟨rfl, fun v hv => ⟨rfl, by
            by_cases e : r = i
            · first
                | (rw [e, hs] at hq; cases hq; done)
                | (rw [e] at hv ⊢; rw [vu_at, if_pos (by omega), show j = (L i).length by omega]; unfold midW; rw [List.take_length, if_pos hv])
            · first
                | rw [vu_ne _ _ e]
                | skip
              by_cases e2 : r < i
              · rw [if_pos e2, if_pos (by omega)]
              · rw [if_neg e2, if_neg (by omega)]⟩⟩)
          obtain ⟨⟨hx, hsa⟩, ⟨hF, hFO⟩, ⟨hT, hTO⟩, ⟨hm, hM⟩, ⟨⟨nf, hp⟩, hPO⟩, ⟨s0, s1, s2, ho⟩, ⟨bg, hbg⟩, hta, ⟨⟨ab, bw, hk⟩, hks⟩, ⟨hn, hnO⟩, hS, hmk, hnone, hxz, hco⟩ := id hP8
          refine V_aload_n (pc' := 52) hX dX7_weighAll_51 rfl rfl ?_
          refine V_get (pc' := 55) hX dX7_weighAll_52 hx rfl inX7 11 (by decide) wF_X7_65 rfl rfl ?_
          refine V_iload_n (pc' := 56) hX dX7_weighAll_55 rfl rfl ?_
          refine V_callV (nA := 1) (pc' := 59) (k' := 0) (n' := 0) hX dX7_weighAll_56 (c_Nt_forget i (by omega) hn hnO) hn.1 rfl wM_X7_78 wI_X2_forget wL_X2_forget wN_X2 wC_X2_forget rfl hy_X2_forget rfl (Nat.le_of_ble_eq_true rfl) (by decide) (by omega) rfl rfl (by omega) rfl (by omega) rfl ?_
          rintro _ z h3 ⟨rfl, rfl, g1, g2⟩
          have hP9 := hP8.uN g1 ⟨hnO.1, Nat.or_lt_two_pow hnO.2 (pow_lt60 (by omega))⟩ g2
          have b9 : frO x z sa h h3 := by first | exact e2.tr (frO.of g2 (by omega) (by omega)) | exact b2.tr (frO.of g2 (by omega) (by omega))
          have b10 : ∀ r, r < i + 1 → (fg1 ||| 2 ^ i).testBit r = true := fun r hr => by
            rw [or_bit]
            by_cases e : i = r
            · rw [decide_eq_true e, Bool.or_true]
            · rw [b4 r (by omega)]; rfl
          refine V.stk (st' := []) rfl ?_
          refine V_iincN (pc' := 62) (j := 1) (lv' := [_, _, _, _]) hX dX7_weighAll_59 rfl rfl rfl rfl ?_
          refine V_goto (pc' := 2) hX dX7_weighAll_62 rfl ?_
          refine V.loc2 (lv' := [some _, some _, none, none]) ⟨rfl, rfl, trivial⟩ ?_
          exact ihO (i + 1) _ _ (by omega) b9 hP9 b10 (by omega)
        · refine V_aaldN (pc' := 16) (v := .ref q1) hX dX7_weighAll_15 hsa (by omega) (by omega) (by rw [hs]; rfl) rfl ?_
          refine V_astore_n (pc' := 17) (lv' := [_, _, _, _]) hX dX7_weighAll_16 (Nat.le_of_ble_eq_true rfl) rfl rfl ?_
          have ihO := ih
          refine V_iconst (pc' := 18) (v := nI 0) hX dX7_weighAll_17 (by decide) rfl ?_
          refine V_istore_n (pc' := 19) (lv' := [_, _, _, _]) hX dX7_weighAll_18 (Nat.le_of_ble_eq_true rfl) rfl rfl ?_
          have lq : ∀ (ν j : Nat) (h2 : AH), j ≤ (L i).length → frO x z sa h h2 → psAt X.G h2 z x mk sa L (fun _ => F) (va_up (fun s => if s < i then W2 else W) i (midW W W2 (L i) j)) fn fv fs tn tv ts kd p q bf len ta sp f1 f2 f3 ks ff (fg1) co → (L i).length - j < ν → V X 0 0 z h2 19 [some (.ref x), some (.int (nI i)), some (.ref q1), some (.int (nI j))] [] := by
            intro μ
            induction μ with
            | zero => intros; omega
            | succ μ ih =>
              intro j h2 e1 e2 hP e4
              obtain ⟨⟨hx, hsa⟩, ⟨hF, hFO⟩, ⟨hT, hTO⟩, ⟨hm, hM⟩, ⟨⟨nf, hp⟩, hPO⟩, ⟨s0, s1, s2, ho⟩, ⟨bg, hbg⟩, hta, ⟨⟨ab, bw, hk⟩, hks⟩, ⟨hn, hnO⟩, hS, hmk, hnone, hxz, hco⟩ := id hP
              obtain ⟨hsN1, hqa1, hqb1⟩ := hS.1 i q1 hs
              obtain ⟨hv1, kf1, wf1, am1, hns1, hO1, hkw1, hw1⟩ := id hsN1
              have ea1 := ns_am hO1 hkw1
              have oa1 := hO1.am
              have hl1 := hsN1.len
              refine V_aload_n (pc' := 20) hX dX7_weighAll_19 rfl rfl ?_
              refine V_ifnull (pc' := 23) hX dX7_weighAll_20 rfl ?_
              refine V_iload_n (pc' := 24) hX dX7_weighAll_23 rfl rfl ?_
              refine V_aload_n (pc' := 25) hX dX7_weighAll_24 rfl rfl ?_
              refine V_getN (pc' := 28) hX dX7_weighAll_25 hns1.1 rfl inX3 2 (by decide) wFn_X7_132 rfl rfl ?_
              refine V_icmp_geN (pt := 51) (pc' := 31) hX dX7_weighAll_28 (by omega) (by omega) rfl rfl (fun c28 => ?_) (fun c28 => ?_)
              · have hP8 : psAt X.G _ z x mk sa L (fun _ => F) (fun s => if s < i + 1 then W2 else W) fn fv fs tn tv ts kd p q bf len ta sp f1 f2 f3 ks ff (fg1) co := hP.cong (fun r q0 hq => ⟨rfl, fun v hv => ⟨rfl, by
                  by_cases e : r = i
                  · first
                      | (rw [e, hs] at hq; cases hq; done)
                      | (rw [e] at hv ⊢; rw [vu_at, if_pos (by omega), show j = (L i).length by omega]; unfold midW; rw [List.take_length, if_pos hv])
                  · first
                      | rw [vu_ne _ _ e]
                      | skip
                    by_cases e2 : r < i
                    · rw [if_pos e2, if_pos (by omega)]
                    · rw [if_neg e2, if_neg (by omega)]⟩⟩)
                obtain ⟨⟨hx, hsa⟩, ⟨hF, hFO⟩, ⟨hT, hTO⟩, ⟨hm, hM⟩, ⟨⟨nf, hp⟩, hPO⟩, ⟨s0, s1, s2, ho⟩, ⟨bg, hbg⟩, hta, ⟨⟨ab, bw, hk⟩, hks⟩, ⟨hn, hnO⟩, hS, hmk, hnone, hxz, hco⟩ := id hP8
                refine V_aload_n (pc' := 52) hX dX7_weighAll_51 rfl rfl ?_
                refine V_get (pc' := 55) hX dX7_weighAll_52 hx rfl inX7 11 (by decide) wF_X7_65 rfl rfl ?_
                refine V_iload_n (pc' := 56) hX dX7_weighAll_55 rfl rfl ?_
                refine V_callV (nA := 1) (pc' := 59) (k' := 0) (n' := 0) hX dX7_weighAll_56 (c_Nt_forget i (by omega) hn hnO) hn.1 rfl wM_X7_78 wI_X2_forget wL_X2_forget wN_X2 wC_X2_forget rfl hy_X2_forget rfl (Nat.le_of_ble_eq_true rfl) (by decide) (by omega) rfl rfl (by omega) rfl (by omega) rfl ?_
                rintro _ z h3 ⟨rfl, rfl, g1, g2⟩
                have hP9 := hP8.uN g1 ⟨hnO.1, Nat.or_lt_two_pow hnO.2 (pow_lt60 (by omega))⟩ g2
                have b9 : frO x z sa h h3 := by first | exact e2.tr (frO.of g2 (by omega) (by omega)) | exact b2.tr (frO.of g2 (by omega) (by omega))
                have b10 : ∀ r, r < i + 1 → (fg1 ||| 2 ^ i).testBit r = true := fun r hr => by
                  rw [or_bit]
                  by_cases e : i = r
                  · rw [decide_eq_true e, Bool.or_true]
                  · rw [b4 r (by omega)]; rfl
                refine V.stk (st' := []) rfl ?_
                refine V_iincN (pc' := 62) (j := 1) (lv' := [_, _, _, _]) hX dX7_weighAll_59 rfl rfl rfl rfl ?_
                refine V_goto (pc' := 2) hX dX7_weighAll_62 rfl ?_
                refine V.loc2 (lv' := [some _, some _, none, none]) ⟨rfl, rfl, trivial⟩ ?_
                exact ihO (i + 1) _ _ (by omega) b9 hP9 b10 (by omega)
              · refine V_aload_n (pc' := 32) hX dX7_weighAll_31 rfl rfl ?_
                refine V_iload_n (pc' := 33) hX dX7_weighAll_32 rfl rfl ?_
                refine V_aload_n (pc' := 34) hX dX7_weighAll_33 rfl rfl ?_
                refine V_aload_n (pc' := 35) hX dX7_weighAll_34 rfl rfl ?_
                refine V_iload_n (pc' := 36) hX dX7_weighAll_35 rfl rfl ?_
                refine V_callV (nA := 1) (pc' := 39) (k' := 0) (n' := 0) hX dX7_weighAll_36 (c_NS_numR j (by omega) hsN1) hns1.1 rfl wM_X7_135 wI_X3_numberAt wL_X3_numberAt wN_X3 wC_X3_numberAt rfl hy_X3_numberAt rfl (Nat.le_of_ble_eq_true rfl) (by decide) (by omega) rfl rfl (by omega) rfl (by omega) rfl ?_
                rintro _ z h2 ⟨rfl, rfl, rfl⟩
                refine V.stk (st' := [_, _, _, _]) rfl ?_
                refine V_callV (nA := 1) (pc' := 42) (k' := 0) (n' := 0) hX dX7_weighAll_39 (c_PS_weightOf ((L i).getD j 0) (hv1 _ (getD_mem (by omega))) hP) hx rfl wM_X7_89 wI_X7_weightOf wL_X7_weightOf wN_X7 wC_X7_weightOf rfl hy_X7_weightOf rfl (Nat.le_of_ble_eq_true rfl) (by decide) (by omega) rfl rfl (by omega) rfl (by omega) rfl ?_
                rintro _ z h2 ⟨rfl, rfl, rfl⟩
                rw [← hWe, ← midW_at (W := W) (W' := W2) (show j < (L i).length by omega)]
                refine V.stk (st' := [_, _, _]) rfl ?_
                refine V_callV (nA := 2) (pc' := 45) (k' := 0) (n' := 0) hX dX7_weighAll_42 (c_NS_rewR (midW W W2 (L i) (j + 1)) j (by omega) (fun k h1 h2 => by rw [vu_at]; exact midW_s hsN1.nd (by omega) h1 h2) (by rw [midW_at (by omega)]; exact hW1 _) hsN1) hns1.1 rfl wM_X7_277 wI_X3_reweigh wL_X3_reweigh wN_X3 wC_X3_reweigh rfl hy_X3_reweigh rfl (Nat.le_of_ble_eq_true rfl) (by decide) (by omega) rfl rfl (by omega) rfl (by omega) rfl ?_
                rintro _ z h3 ⟨rfl, rfl, g1, g2⟩
                have hP9 := hP.uS hs g1 g2
                rw [vu_self, va_up_const, vu_up] at hP9
                refine V.stk (st' := []) rfl ?_
                refine V_iincN (pc' := 48) (j := 1) (lv' := [_, _, _, _]) hX dX7_weighAll_45 rfl rfl rfl rfl ?_
                refine V_goto (pc' := 19) hX dX7_weighAll_48 rfl ?_
                exact ih (j + 1) _ (by omega) (e2.tr (frO.set g2 hs)) hP9 (by omega)
          exact lq ((L i).length + 1) 0 h1 (by omega) b2 (hP.cong (fun r q0 hq => ⟨rfl, fun v hv => ⟨rfl, by
            by_cases e : r = i
            · rw [e, vu_at, midW_0, if_neg (by omega)]
            · rw [vu_ne _ _ e]⟩⟩)) (by omega)
  refine V.loc2 (lv' := [some _, some _, none, none]) ⟨rfl, rfl, trivial⟩ ?_
  exact lp (mk + 1) 0 h fg (by omega) frO.rf (hP.cong (fun r q0 hq => ⟨rfl, fun v hv => ⟨rfl, by rw [if_neg (by omega)]⟩⟩)) (fun r hr => by omega) (by omega)
set_option maxRecDepth 100000 in
set_option maxHeartbeats 4000000 in
theorem c_PS_weight {G : Gd} {h : AH} {z x : Nat} {mk : Nat} {sa : Nat → Option Nat} {L : Nat → List Nat} {F : Nat → Nat} {W : Nat → Nat} {fn : Nat → Nat} {fv : Nat → Nat} {fs : Nat} {tn : Nat → Nat} {tv : Nat → Nat} {ts : Nat} {kd : Nat} {p : Nat} {q : Nat} {bf : Nat → Nat} {len : Nat} {ta : Nat → Nat} {sp : Nat} {f1 : Nat → Nat} {f2 : Nat → Nat} {f3 : Nat → Nat} {ks : Nat} {ff : Nat → Nat} {fg : Nat} {co : Nat} (v w : Int32) (hTv : ∀ u w, tget tn tv ts u = some w → 1 ≤ w ∧ w ≤ 100) (hP : psAt G h z x mk sa L (fun _ => F) (fun _ => W) fn fv fs tn tv ts kd p q bf len ta sp f1 f2 f3 ks ff fg co) : Ct G yX7_weight cX7_weight 3 (some .boolean) 4 0 0 [.ref x, .int v, .int w] z h (fun r' z' h' => z' = z ∧ frO x z sa h h' ∧ (((isNumB v = false ∨ ¬ (1 ≤ w.toInt ∧ w.toInt ≤ 100) ∨ ∃ k, k < 1000000 ∧ v = nI k ∧ tget tn tv ts k = none ∧ ts = 200) ∧ r' = some (.int (bI false)) ∧ psAt G h' z x mk sa L (fun _ => F) (fun _ => W) fn fv fs tn tv ts kd p q bf len ta sp f1 f2 f3 ks ff fg co) ∨ ∃ k wn tn' tv' ts' fg', k < 1000000 ∧ v = nI k ∧ w = nI wn ∧ 1 ≤ wn ∧ wn ≤ 100 ∧ (∀ u, tget tn' tv' ts' u = if u = k then some wn else tget tn tv ts u) ∧ ts' = (if tget tn tv ts k = none then ts + 1 else ts) ∧ (∀ r, r < mk → fg'.testBit r = true) ∧ (tget tn tv ts k = none → ts < 200) ∧ r' = some (.int (bI true)) ∧ psAt G h' z x mk sa L (fun _ => F) (fun _ => wtF kd tn' tv' ts') fn fv fs (tn') (tv') (ts') kd p q bf len ta sp f1 f2 f3 ks ff (fg') co)) := by
  refine Ct.of (lv := [_, _, _]) (by decide) (Nat.le_of_ble_eq_true rfl) rfl ?_
  rintro X rfl hX hR hnm
  obtain ⟨⟨hx, hsa⟩, ⟨hF, hFO⟩, ⟨hT, hTO⟩, ⟨hm, hM⟩, ⟨⟨nf, hp⟩, hPO⟩, ⟨s0, s1, s2, ho⟩, ⟨bg, hbg⟩, hta, ⟨⟨ab, bw, hk⟩, hks⟩, ⟨hn, hnO⟩, hS, hmk, hnone, hxz, hco⟩ := id hP
  refine V_iload_n (pc' := 1) hX dX7_weight_0 rfl rfl ?_
  refine V_callS (nA := 1) (pc' := 4) (k' := 0) (n' := 0) hX dX7_weight_1 (c_PS_isNumber v) wM_X7_81 wS_X7_isNumber wN_X7 wC_X7_isNumber rfl hy_X7_isNumber rfl (Nat.le_of_ble_eq_true rfl) (by decide) (by omega) rfl rfl (by omega) rfl (by omega) rfl ?_
  rintro _ z h ⟨rfl, rfl, rfl⟩
  refine V.stk (st' := [_]) rfl ?_
  refine V_if_eqB (pt := 30) (pc' := 7) hX dX7_weight_4 rfl rfl (fun c4 => ?_) (fun c4 => ?_)
  · refine V_iconst (pc' := 31) (v := nI 0) hX dX7_weight_30 (by decide) rfl ?_
    refine V_zret hX hR dX7_weight_31 (by rfl) ?_
    exact ⟨rfl, frO.rf, Or.inl ⟨Or.inl c4, rfl, hP⟩⟩
  · obtain ⟨k9, hk9, rfl⟩ := isNumB_nI c4
    refine V_iload_n (pc' := 8) hX dX7_weight_7 rfl rfl ?_
    refine V_iconst (pc' := 9) (v := nI 1) hX dX7_weight_8 (by decide) rfl ?_
    refine V_icmp_lt (pt := 30) (pc' := 12) hX dX7_weight_9 rfl rfl (fun c9 => ?_) (fun c9 => ?_)
    · have hc : w.toInt < 1 := i32_lt.mp c9
      refine V_iconst (pc' := 31) (v := nI 0) hX dX7_weight_30 (by decide) rfl ?_
      refine V_zret hX hR dX7_weight_31 (by rfl) ?_
      exact ⟨rfl, frO.rf, Or.inl ⟨Or.inr (Or.inl (by omega)), rfl, hP⟩⟩
    · have hc : ¬ w.toInt < 1 := fun e => c9 (i32_lt.mpr e)
      obtain ⟨wn, hwn, rfl⟩ := nI_of (x := w) (by rw [i32_lt]; show ¬ _ < (0 : Int); omega)
      rw [nI_toInt hwn] at hc
      refine V_iload_n (pc' := 13) hX dX7_weight_12 rfl rfl ?_
      refine V_bipush (pc' := 15) (v := nI 100) hX dX7_weight_13 (by decide) rfl ?_
      refine V_icmp_gtN (pt := 30) (pc' := 18) hX dX7_weight_15 hwn (by omega) rfl rfl (fun c15 => ?_) (fun c15 => ?_)
      · refine V_iconst (pc' := 31) (v := nI 0) hX dX7_weight_30 (by decide) rfl ?_
        refine V_zret hX hR dX7_weight_31 (by rfl) ?_
        exact ⟨rfl, frO.rf, Or.inl ⟨Or.inr (Or.inl (by rw [nI_toInt hwn]; omega)), rfl, hP⟩⟩
      · refine V_aload_n (pc' := 19) hX dX7_weight_18 rfl rfl ?_
        refine V_get (pc' := 22) hX dX7_weight_19 hx rfl inX7 3 (by decide) wF_X7_24 rfl rfl ?_
        refine V_iload_n (pc' := 23) hX dX7_weight_22 rfl rfl ?_
        refine V_iload_n (pc' := 24) hX dX7_weight_23 rfl rfl ?_
        refine V_callV (nA := 2) (pc' := 27) (k' := 0) (n' := 0) hX dX7_weight_24 (c_Table_write k9 wn hk9 hT hTO) hT.1 rfl wM_X7_100 wI_X5_write wL_X5_write wN_X5 wC_X5_write rfl hy_X5_write rfl (Nat.le_of_ble_eq_true rfl) (by decide) (by omega) rfl rfl (by omega) rfl (by omega) rfl ?_
        rintro _ z h1 ⟨b, tn1, tv1, ts1, rfl, rfl, w1, w2, w3, w4, w5, w6⟩
        have hP1 := hP.uT w1 w2 w3
        obtain ⟨⟨hx, hsa⟩, ⟨hF, hFO⟩, ⟨hT, hTO⟩, ⟨hm, hM⟩, ⟨⟨nf, hp⟩, hPO⟩, ⟨s0, s1, s2, ho⟩, ⟨bg, hbg⟩, hta, ⟨⟨ab, bw, hk⟩, hks⟩, ⟨hn, hnO⟩, hS, hmk, hnone, hxz, hco⟩ := id hP1
        refine V.stk (st' := [_]) rfl ?_
        refine V_if_neB (pt := 32) (pc' := 30) hX dX7_weight_27 rfl rfl (fun c27 => ?_) (fun c27 => ?_)
        · refine V_aload_n (pc' := 33) hX dX7_weight_32 rfl rfl ?_
          obtain ⟨w7, w8⟩ := w4 c27
          have hTv1 : ∀ u w, tget tn1 tv1 ts1 u = some w → 1 ≤ w ∧ w ≤ 100 := fun u w e => by
            rw [w7] at e
            by_cases eu : u = k9
            · rw [if_pos eu] at e; cases e; omega
            · rw [if_neg eu] at e; exact hTv u w e
          refine V_callV (nA := 0) (pc' := 36) (k' := 0) (n' := 0) hX dX7_weight_33 (c_PS_weighAll rfl (wtF_bd hTv1) hP1) hx rfl wM_X7_103 wI_X7_weighAll wL_X7_weighAll wN_X7 wC_X7_weighAll rfl hy_X7_weighAll rfl (Nat.le_of_ble_eq_true rfl) (by decide) (by omega) rfl rfl (by omega) rfl (by omega) rfl ?_
          rintro _ z h2 ⟨rfl, rfl, g1, fg', g2, g3⟩
          refine V.stk (st' := []) rfl ?_
          refine V_iconst (pc' := 37) (v := nI 1) hX dX7_weight_36 (by decide) rfl ?_
          refine V_zret hX hR dX7_weight_37 (by rfl) ?_
          exact ⟨rfl, (frO.of w3 (by omega) (by omega)).tr g1, Or.inr ⟨k9, wn, tn1, tv1, ts1, fg', hk9, rfl, rfl, by omega, by omega, w7, w8, g2, (fun e => by rw [if_pos e] at w8; have := w2.1; omega), rfl, g3⟩⟩
        · refine V_iconst (pc' := 31) (v := nI 0) hX dX7_weight_30 (by decide) rfl ?_
          refine V_zret hX hR dX7_weight_31 (by rfl) ?_
          obtain ⟨e1, e2, rfl, rfl, rfl⟩ := w5 c27
          exact ⟨rfl, frO.of w3 (by omega) (by omega), Or.inl ⟨Or.inr (Or.inr ⟨k9, hk9, rfl, e1, e2⟩), rfl, hP1⟩⟩
set_option maxRecDepth 100000 in
set_option maxHeartbeats 4000000 in
theorem c_PS_measure {G : Gd} {h : AH} {z x : Nat} {mk : Nat} {sa : Nat → Option Nat} {L : Nat → List Nat} {F : Nat → Nat} {W : Nat → Nat} {fn : Nat → Nat} {fv : Nat → Nat} {fs : Nat} {tn : Nat → Nat} {tv : Nat → Nat} {ts : Nat} {kd : Nat} {p : Nat} {q : Nat} {bf : Nat → Nat} {len : Nat} {ta : Nat → Nat} {sp : Nat} {f1 : Nat → Nat} {f2 : Nat → Nat} {f3 : Nat → Nat} {ks : Nat} {ff : Nat → Nat} {fg : Nat} {co : Nat} (kd2 p2 q2 : Int32) (hTv : ∀ u w, tget tn tv ts u = some w → 1 ≤ w ∧ w ≤ 100) (hP : psAt G h z x mk sa L (fun _ => F) (fun _ => W) fn fv fs tn tv ts kd p q bf len ta sp f1 f2 f3 ks ff fg co) : Ct G yX7_measure cX7_measure 4 (some .boolean) 4 0 0 [.ref x, .int kd2, .int p2, .int q2] z h (fun r' z' h' => z' = z ∧ frO x z sa h h' ∧ ((¬ msIn kd2 p2 q2 ∧ r' = some (.int (bI false)) ∧ h' = h) ∨ ∃ kd' p' q' fg', msIn kd2 p2 q2 ∧ kd2 = nI kd' ∧ p2 = nI p' ∧ q2 = nI q' ∧ mOk kd' p' q' ∧ (∀ r, r < mk → fg'.testBit r = true) ∧ r' = some (.int (bI true)) ∧ psAt G h' z x mk sa L (fun _ => F) (fun _ => wtF kd' tn tv ts) fn fv fs tn tv ts (kd') (p') (q') bf len ta sp f1 f2 f3 ks ff (fg') co)) := by
  refine Ct.of (lv := [_, _, _, _]) (by decide) (Nat.le_of_ble_eq_true rfl) rfl ?_
  rintro X rfl hX hR hnm
  obtain ⟨⟨hx, hsa⟩, ⟨hF, hFO⟩, ⟨hT, hTO⟩, ⟨hm, hM⟩, ⟨⟨nf, hp⟩, hPO⟩, ⟨s0, s1, s2, ho⟩, ⟨bg, hbg⟩, hta, ⟨⟨ab, bw, hk⟩, hks⟩, ⟨hn, hnO⟩, hS, hmk, hnone, hxz, hco⟩ := id hP
  refine V_aload_n (pc' := 1) hX dX7_measure_0 rfl rfl ?_
  refine V_get (pc' := 4) hX dX7_measure_1 hx rfl inX7 4 (by decide) wF_X7_30 rfl rfl ?_
  refine V_iload_n (pc' := 5) hX dX7_measure_4 rfl rfl ?_
  refine V_iload_n (pc' := 6) hX dX7_measure_5 rfl rfl ?_
  refine V_iload_n (pc' := 7) hX dX7_measure_6 rfl rfl ?_
  refine V_callV (nA := 3) (pc' := 10) (k' := 0) (n' := 0) hX dX7_measure_7 (c_Ms_tell kd2 p2 q2 hm) hm rfl wM_X7_127 wI_X1_tell wL_X1_tell wN_X1 wC_X1_tell rfl hy_X1_tell rfl (Nat.le_of_ble_eq_true rfl) (by decide) (by omega) rfl rfl (by omega) rfl (by omega) rfl ?_
  rintro _ z h1 ⟨b, rfl, rfl, w1, w2, w3⟩
  refine V.stk (st' := [_]) rfl ?_
  refine V_if_neB (pt := 15) (pc' := 13) hX dX7_measure_10 rfl rfl (fun c10 => ?_) (fun c10 => ?_)
  · obtain ⟨kd1, p1, q1, rfl, rfl, rfl, w4, w5, w6⟩ := w3 c10
    have hP1 := hP.uM w5 w4 w6
    obtain ⟨⟨hx, hsa⟩, ⟨hF, hFO⟩, ⟨hT, hTO⟩, ⟨hm, hM⟩, ⟨⟨nf, hp⟩, hPO⟩, ⟨s0, s1, s2, ho⟩, ⟨bg, hbg⟩, hta, ⟨⟨ab, bw, hk⟩, hks⟩, ⟨hn, hnO⟩, hS, hmk, hnone, hxz, hco⟩ := id hP1
    refine V_aload_n (pc' := 16) hX dX7_measure_15 rfl rfl ?_
    refine V_callV (nA := 0) (pc' := 19) (k' := 0) (n' := 0) hX dX7_measure_16 (c_PS_weighAll rfl (wtF_bd hTv) hP1) hx rfl wM_X7_103 wI_X7_weighAll wL_X7_weighAll wN_X7 wC_X7_weighAll rfl hy_X7_weighAll rfl (Nat.le_of_ble_eq_true rfl) (by decide) (by omega) rfl rfl (by omega) rfl (by omega) rfl ?_
    rintro _ z h2 ⟨rfl, rfl, g1, fg', g2, g3⟩
    refine V.stk (st' := []) rfl ?_
    refine V_iconst (pc' := 20) (v := nI 1) hX dX7_measure_19 (by decide) rfl ?_
    refine V_zret hX hR dX7_measure_20 (by rfl) ?_
    exact ⟨rfl, (frO.of w6 (by omega) (by omega)).tr g1, Or.inr ⟨kd1, p1, q1, fg', w1.mp c10, rfl, rfl, rfl, w4, g2, rfl, g3⟩⟩
  · obtain rfl := w2 c10
    refine V_iconst (pc' := 14) (v := nI 0) hX dX7_measure_13 (by decide) rfl ?_
    refine V_zret hX hR dX7_measure_14 (by rfl) ?_
    exact ⟨rfl, frO.rf, Or.inl ⟨(fun e => by rw [w1.mpr e] at c10; cases c10), rfl, rfl⟩⟩
