theorem nI_bit : ∀ k, k < 21 → nI 1 <<< (nI k &&& 31) = nI (2 ^ k) := by decide
theorem nI_sa : ∀ k, k < 32 → ((nI k &&& 31).toBitVec.smod 32).toNat = k := by decide
theorem nI_shr {m k : Nat} (hm : m < 2 ^ 31) (hk : k < 32) : nI m >>> (nI k &&& 31) = nI (m / 2 ^ k) := pk_shrN hm _ k (nI_sa k hk)
/-- the numbers from k on that may have -/
def opL (fm may k : Nat) : List Nat := (List.range fm).filter (fun j => decide (k ≤ j) && may.testBit j)
theorem opL_asc (fm may k : Nat) : (opL fm may k).Pairwise (· < ·) := List.Pairwise.filter _ List.pairwise_lt_range
theorem opL_mem {fm may k j : Nat} : j ∈ opL fm may k ↔ j < fm ∧ k ≤ j ∧ may.testBit j = true := by
  unfold opL
  rw [List.mem_filter, List.mem_range, Bool.and_eq_true, decide_eq_true_iff]
theorem opL_no {fm may k : Nat} (h : may.testBit k = false) : opL fm may k = opL fm may (k + 1) := by
  refine asc_ext (opL_asc _ _ _) (opL_asc _ _ _) (fun x => ?_)
  rw [opL_mem, opL_mem]
  constructor
  · rintro ⟨a, b, c⟩
    have : x ≠ k := fun e => by rw [e, h] at c; cases c
    exact ⟨a, by omega, c⟩
  · rintro ⟨a, b, c⟩; exact ⟨a, by omega, c⟩
theorem opL_yes {fm may k : Nat} (hk : k < fm) (h : may.testBit k = true) : opL fm may k = k :: opL fm may (k + 1) := by
  refine asc_ext (opL_asc _ _ _) (List.pairwise_cons.mpr ⟨fun a ha => by have := (opL_mem.mp ha).2.1; omega, opL_asc _ _ _⟩) (fun x => ?_)
  rw [opL_mem, List.mem_cons, opL_mem]
  constructor
  · rintro ⟨a, b, c⟩
    by_cases e : x = k
    · exact Or.inl e
    · exact Or.inr ⟨a, by omega, c⟩
  · rintro (rfl | ⟨a, b, c⟩)
    · exact ⟨hk, Nat.le_refl _, h⟩
    · exact ⟨a, by omega, c⟩
theorem opL_end {fm may k : Nat} (h : fm ≤ k) : opL fm may k = [] := by
  unfold opL
  rw [List.filter_eq_nil_iff]
  intro j hj
  have := List.mem_range.mp hj
  rw [decide_eq_false (by omega), Bool.false_and]
  decide
theorem opL_and {fm may b k : Nat} (_ : k < fm) : opL fm (may &&& b) (k + 1) = (opL fm may (k + 1)).filter (fun j => b.testBit j) := by
  unfold opL
  rw [List.filter_filter]
  apply List.filter_congr
  intro j _
  rw [Nat.testBit_and]
  cases decide (k + 1 ≤ j) <;> cases may.testBit j <;> cases b.testBit j <;> rfl
theorem popN_half (n : Nat) : ∀ m, popN n (m + 1) = (if n.testBit 0 = true then 1 else 0) + popN (n / 2) m
  | 0 => by rw [popN_s]; simp [popN]
  | m + 1 => by
    rw [popN_s, popN_half n m, popN_s, Nat.testBit_succ]; omega
theorem opL_len {fm may : Nat} (hf : fm ≤ 20) (hm : may < 2 ^ fm) : ∀ k, popN (may / 2 ^ k) 32 = (opL fm may k).length := by
  have key : ∀ t k, fm - k ≤ t → popN (may / 2 ^ k) 32 = (opL fm may k).length := by
    intro t
    induction t with
    | zero =>
      intro k hk
      have h1 : may / 2 ^ k = 0 := Nat.div_eq_of_lt (Nat.lt_of_lt_of_le hm (Nat.pow_le_pow_right (by decide) (by omega)))
      rw [h1, opL_end (by omega)]; decide
    | succ t ih =>
      intro k hk
      rcases Nat.lt_or_ge k fm with q | q
      · have h0 : may / 2 ^ k < 2 ^ 32 := Nat.lt_of_le_of_lt (Nat.div_le_self _ _) (Nat.lt_of_lt_of_le hm (Nat.pow_le_pow_right (by decide) (by omega)))
        have h1 := popN_more h0 1
        have h2 := popN_half (may / 2 ^ k) 32
        have h3 : may / 2 ^ k / 2 = may / 2 ^ (k + 1) := by rw [Nat.div_div_eq_div_mul, Nat.pow_succ]
        have h4 : (may / 2 ^ k).testBit 0 = may.testBit k := by rw [Nat.testBit_div_two_pow, Nat.zero_add]
        rw [h3, h4, ih (k + 1) (by omega)] at h2
        rw [show 32 + 1 = 33 from rfl] at h1
        rw [← h1, h2]
        cases hb : may.testBit k with
        | true => rw [opL_yes q hb, if_pos rfl, List.length_cons]; omega
        | false => rw [opL_no hb, if_neg (by decide)]; omega
      · have h1 : may / 2 ^ k = 0 := Nat.div_eq_of_lt (Nat.lt_of_lt_of_le hm (Nat.pow_le_pow_right (by decide) q))
        rw [h1, opL_end q]; decide
  exact fun k => key fm k (by omega)
theorem pop20 {fm n : Nat} (hf : fm ≤ 20) (h : n < 2 ^ fm) : popN n 32 = (bl n).length := by
  have h20 : n < 2 ^ 20 := Nat.lt_of_lt_of_le h (Nat.pow_le_pow_right (by decide) hf)
  have h1 := popN_more h20 12
  have h2 := popN_more h20 40
  rw [show 20 + 12 = 32 from rfl] at h1
  rw [show 20 + 40 = 60 from rfl] at h2
  rw [h1, ← h2, popN_fil]; rfl
set_option maxRecDepth 100000 in
set_option maxHeartbeats 4000000 in
theorem c_Md_grow_step {G : Gd} {z : Nat} {h : AH} {y : Nat} {th : Int32} {mk : Nat} {ts : Nat} {fs : Nat} {kd : Nat} {p : Nat} {q : Nat} {len : Nat} {ks : Nat} {fm : Nat} {cm : Nat} {be : Nat} {dz : Nat → Bool} {mn : Nat → Nat} {st : Nat → Nat} {tn : Nat → Nat} {tv : Nat → Nat} {fn : Nat → Nat} {fv : Nat → Nat} {on : Nat → Nat} {tw : Nat → Nat} {bf : Nat → Nat} {g1 : Nat → Nat} {g2 : Nat → Nat} {g3 : Nat → Nat} {sv : Nat → Nat} {fa : Nat → Int32} {fy : Nat → Nat} {bs : Nat → Nat} {cf : Nat → Nat} (f fro may in0 n : Nat) (k1 : fm ≤ 20) (k2 : fm - fro ≤ f ∧ fro ≤ fm) (k3 : n = (bl in0).length) (k4 : may < 2 ^ fm) (k5 : in0 < 2 ^ fm) (k6 : be < 2 ^ fm) (k7 : ∀ i, i ∈ bl in0 → i < fro) (k8 : ∀ k, k < fm → bs k < 2 ^ 20) (IH : ∀ j, j + 1 = f → ∀ (h : AH) (be fro may in0 n : Nat), mdC G h y th mk ts fs kd p q len ks fm cm be dz mn st tn tv fn fv on tw bf g1 g2 g3 sv fa fy bs cf → fm ≤ 20 → (fm - fro ≤ j ∧ fro ≤ fm) → n = (bl in0).length → may < 2 ^ fm → in0 < 2 ^ fm → be < 2 ^ fm → (∀ i, i ∈ bl in0 → i < fro) → (∀ k, k < fm → bs k < 2 ^ 20) → Ct G yX8_grow cX8_grow 6 none (j + 1) 0 0 [.ref y, .int (nI fro), .int (nI may), .int (nI in0), .int (nI n)] z h (fun r z' h' => r = none ∧ z' = z ∧ fr y (y + 1) h h' ∧ ∃ be', be' < 2 ^ fm ∧ bl be' = gcl (adjF bs) j (bl in0) (opL fm may fro) (bl be) ∧ mdC G h' y th mk ts fs kd p q len ks fm cm (be') dz mn st tn tv fn fv on tw bf g1 g2 g3 sv fa fy bs cf)) (hM : mdC G h y th mk ts fs kd p q len ks fm cm be dz mn st tn tv fn fv on tw bf g1 g2 g3 sv fa fy bs cf)  : Ct G yX8_grow cX8_grow 6 none (f + 1) 0 0 [.ref y, .int (nI fro), .int (nI may), .int (nI in0), .int (nI n)] z h (fun r z' h' => r = none ∧ z' = z ∧ fr y (y + 1) h h' ∧ ∃ be', be' < 2 ^ fm ∧ bl be' = gcl (adjF bs) f (bl in0) (opL fm may fro) (bl be) ∧ mdC G h' y th mk ts fs kd p q len ks fm cm (be') dz mn st tn tv fn fv on tw bf g1 g2 g3 sv fa fy bs cf) := by
  refine Ct.of (lv := [_, _, _, _, _, _]) (by decide) (Nat.le_of_ble_eq_true rfl) rfl ?_
  rintro X rfl hX hR hnm
  have q20 : 2 ^ fm ≤ 2 ^ 20 := Nat.pow_le_pow_right (by decide) k1
  have q32 : (2 : Nat) ^ 20 < 2 ^ 31 := by decide
  have hp1 := pop20 k1 k6
  have hp2 := pop20 k1 k5
  have hl1 := popN_le be 32
  have hl0 := popN_le in0 32
  have jn : ∀ (hj : AH) (bj : Nat), bj < 2 ^ fm → bl bj = pickL (bl in0) (bl be) → fr y (y + 1) h hj → mdC X.G hj y th mk ts fs kd p q len ks fm cm (bj) dz mn st tn tv fn fv on tw bf g1 g2 g3 sv fa fy bs cf → V X 0 0 z hj 17 [some (.ref y), some (.int (nI fro)), some (.int (nI may)), some (.int (nI in0)), some (.int (nI n)), none] [] := by
    intro hj bj j1 j2 j3 hM
    refine V_iload_n (pc' := 18) hX dX8_grow_17 rfl rfl ?_
    refine V_istore (pc' := 20) (lv' := [_, _, _, _, _, _]) hX dX8_grow_18 (Nat.le_of_ble_eq_true rfl) rfl rfl ?_
    have lp : ∀ (μ k : Nat) (h2 : AH) (b2 : Nat), fro ≤ k → k ≤ fm → b2 < 2 ^ fm → ((f = 0 ∧ fm ≤ k ∧ bl b2 = gcl (adjF bs) f (bl in0) (opL fm may fro) (bl be)) ∨ ∃ j, j + 1 = f ∧ gloop (gcl (adjF bs) j) (adjF bs) (bl in0) (opL fm may k) (bl b2) = gcl (adjF bs) f (bl in0) (opL fm may fro) (bl be)) → fr y (y + 1) h h2 → mdC X.G h2 y th mk ts fs kd p q len ks fm cm (b2) dz mn st tn tv fn fv on tw bf g1 g2 g3 sv fa fy bs cf → fm - k < μ → V X 0 0 z h2 20 [some (.ref y), some (.int (nI fro)), some (.int (nI may)), some (.int (nI in0)), some (.int (nI n)), some (.int (nI k))] [] := by
      intro μ
      induction μ with
      | zero => intros; omega
      | succ μ ih =>
        intro k h2 b2 a1 a6 a2 a3 a4 hM a5
        refine V_iload (pc' := 22) hX dX8_grow_20 rfl rfl ?_
        refine V_aload_n (pc' := 23) hX dX8_grow_22 rfl rfl ?_
        refine V_get (pc' := 26) hX dX8_grow_23 hM.1 rfl inX8 24 (by decide) wF_X8_205 rfl rfl ?_
        refine V_icmp_geN (pt := 95) (pc' := 29) hX dX8_grow_26 (by omega) (by omega) rfl rfl (fun c26 => ?_) (fun c26 => ?_)
        · refine V_vret hX hR dX8_grow_95 ?_
          refine ⟨rfl, rfl, a4, b2, a2, ?_, hM⟩
          rcases a3 with ⟨-, -, e⟩ | ⟨j, -, e⟩
          · exact e
          · rw [opL_end (by omega)] at e; exact e
        · obtain ⟨j, hj, hgl⟩ : ∃ j, j + 1 = f ∧ gloop (gcl (adjF bs) j) (adjF bs) (bl in0) (opL fm may k) (bl b2) = gcl (adjF bs) f (bl in0) (opL fm may fro) (bl be) := by
            rcases a3 with ⟨-, e, -⟩ | e
            · omega
            · exact e
          have hmk : may / 2 ^ k < 2 ^ 31 := Nat.lt_of_le_of_lt (Nat.div_le_self _ _) (by omega)
          have hlen := opL_len k1 k4 k
          have hl2 := popN_le (may / 2 ^ k) 32
          have hp3 := pop20 k1 a2
          have hl3 := popN_le b2 32
          refine V_iload_n (pc' := 30) hX dX8_grow_29 rfl rfl ?_
          refine V_iload (pc' := 32) hX dX8_grow_30 rfl rfl ?_
          refine V_ishr (pc' := 33) hX dX8_grow_32 rfl ?_
          rw [nI_shr (by omega) (by omega)]
          refine V_iconst (pc' := 34) (v := nI 1) hX dX8_grow_33 (by decide) rfl ?_
          refine V_iand (pc' := 35) hX dX8_grow_34 rfl ?_
          rw [nI_and, Nat.and_one_is_mod]
          refine V_if_neN (pt := 41) (pc' := 38) hX dX8_grow_35 (by omega) rfl rfl (fun c35 => ?_) (fun c35 => ?_)
          · have hbit : may.testBit k = true := by rw [Nat.testBit_eq_decide_div_mod_eq]; exact decide_eq_true (by omega)
            refine V_iload (pc' := 43) hX dX8_grow_41 rfl rfl ?_
            refine V_iload_n (pc' := 44) hX dX8_grow_43 rfl rfl ?_
            refine V_iload (pc' := 46) hX dX8_grow_44 rfl rfl ?_
            refine V_ishr (pc' := 47) hX dX8_grow_46 rfl ?_
            rw [nI_shr (by omega) (by omega)]
            refine V_callS (nA := 1) (pc' := 50) (k' := 0) (n' := 0) hX dX8_grow_47 (c_bitCountI (may / 2 ^ k) (by omega)) wM_X8_200 wS_J6_bitCount_0f7a4 wN_J6 wC_J6_bitCount_0f7a4 rfl hy_J6_bitCount_0f7a4 rfl (Nat.le_of_ble_eq_true rfl) (by decide) (by omega) rfl rfl (by omega) rfl (by omega) rfl ?_
            rintro _ z h2 ⟨rfl, rfl, rfl⟩
            refine V.stk (st' := [_, _]) rfl ?_
            refine V_iaddN (pc' := 51) hX dX8_grow_50 rfl ?_
            refine V_aload_n (pc' := 52) hX dX8_grow_51 rfl rfl ?_
            refine V_get (pc' := 55) hX dX8_grow_52 hM.1 rfl inX8 29 (by decide) wF_X8_197 rfl rfl ?_
            refine V_callS (nA := 1) (pc' := 58) (k' := 0) (n' := 0) hX dX8_grow_55 (c_bitCountI b2 (by omega)) wM_X8_200 wS_J6_bitCount_0f7a4 wN_J6 wC_J6_bitCount_0f7a4 rfl hy_J6_bitCount_0f7a4 rfl (Nat.le_of_ble_eq_true rfl) (by decide) (by omega) rfl rfl (by omega) rfl (by omega) rfl ?_
            rintro _ z h2 ⟨rfl, rfl, rfl⟩
            refine V.stk (st' := [_, _]) rfl ?_
            refine V_icmp_gtN (pt := 62) (pc' := 61) hX dX8_grow_58 (by omega) (by omega) rfl rfl (fun c58 => ?_) (fun c58 => ?_)
            · refine V_aload_n (pc' := 63) hX dX8_grow_62 rfl rfl ?_
              refine V_iload (pc' := 65) hX dX8_grow_63 rfl rfl ?_
              refine V_iconst (pc' := 66) (v := nI 1) hX dX8_grow_65 (by decide) rfl ?_
              refine V_iaddN (pc' := 67) hX dX8_grow_66 rfl ?_
              refine V_iload_n (pc' := 68) hX dX8_grow_67 rfl rfl ?_
              refine V_aload_n (pc' := 69) hX dX8_grow_68 rfl rfl ?_
              refine V_get (pc' := 72) hX dX8_grow_69 hM.1 rfl inX8 27 (by decide) wF_X8_69 rfl rfl ?_
              refine V_iload (pc' := 74) hX dX8_grow_72 rfl rfl ?_
              refine V_ialdN (pc' := 75) hX dX8_grow_74 hM.2.2.2.2.2.2.2.2.2.2.2.2.2.2.2.2.2.1 (by omega) (by omega) rfl rfl ?_
              refine V_iand (pc' := 76) hX dX8_grow_75 rfl ?_
              rw [nI_and]
              refine V_iload_n (pc' := 77) hX dX8_grow_76 rfl rfl ?_
              refine V_iconst (pc' := 78) (v := nI 1) hX dX8_grow_77 (by decide) rfl ?_
              refine V_iload (pc' := 80) hX dX8_grow_78 rfl rfl ?_
              refine V_ishl (pc' := 81) hX dX8_grow_80 rfl ?_
              rw [nI_bit k (by omega)]
              refine V_ior (pc' := 82) hX dX8_grow_81 rfl ?_
              rw [nI_or]
              refine V_iload (pc' := 84) hX dX8_grow_82 rfl rfl ?_
              refine V_iconst (pc' := 85) (v := nI 1) hX dX8_grow_84 (by decide) rfl ?_
              refine V_iaddN (pc' := 86) hX dX8_grow_85 rfl ?_
              refine V_callV (nA := 4) (pc' := 89) (k' := 0) (n' := 0) hX dX8_grow_86 (IH j hj h2 b2 (k + 1) (may &&& bs k) (in0 ||| 2 ^ k) (n + 1) hM k1 (by omega) (by rw [bl_or_high (by omega) (fun i hi => by have := k7 i hi; omega), List.length_append, k3]; rfl) (Nat.lt_of_le_of_lt Nat.and_le_left k4) (Nat.or_lt_two_pow k5 (Nat.pow_lt_pow_right (by decide) (by omega))) a2 (fun i hi => by
                rw [bl_or_high (by omega) (fun i hi => by have := k7 i hi; omega)] at hi
                rcases List.mem_append.mp hi with w | w
                · have := k7 i w; omega
                · rw [List.mem_singleton.mp w]; omega) k8) hM.1 rfl wM_X8_208 wI_X8_grow wL_X8_grow wN_X8 wC_X8_grow rfl hy_X8_grow rfl (Nat.le_of_ble_eq_true rfl) (by decide) (by omega) rfl rfl (by omega) rfl (by omega) rfl ?_
              rintro _ z h3 ⟨rfl, rfl, f3, b3, hb3, eb3, hM⟩
              refine V.stk (st' := []) rfl ?_
              refine V_iincN (pc' := 92) (j := 1) (lv' := [_, _, _, _, _, _]) hX dX8_grow_89 rfl rfl rfl rfl ?_
              refine V_goto (pc' := 20) hX dX8_grow_92 rfl ?_
              first
                | (refine ih (k + 1) _ b3 (by omega) (by omega) hb3 (Or.inr ⟨j, hj, ?_⟩) (a4.tr f3) hM (by omega)
                   rw [← hgl, eb3, opL_yes (by omega) hbit, bl_or_high (by omega) (fun i hi => by have := k7 i hi; omega)]
                   show _ = (if (bl in0).length + ((opL fm may (k + 1)).length + 1) ≤ (bl b2).length then _ else _)
                   rw [if_neg (by rw [opL_yes (by omega) hbit] at hlen; rw [List.length_cons] at hlen; omega), opL_and (by omega)]
                   rfl)
                | (refine ih (k + 1) _ b2 (by omega) (by omega) a2 (Or.inr ⟨j, hj, ?_⟩) a4 hM (by omega)
                   rw [← hgl, opL_no hbit])
            · refine V_vret hX hR dX8_grow_61 ?_
              refine ⟨rfl, rfl, a4, b2, a2, ?_, hM⟩
              rw [← hgl, opL_yes (by omega) hbit]
              symm
              show (if (bl in0).length + ((opL fm may (k + 1)).length + 1) ≤ (bl b2).length then _ else _) = _
              rw [if_pos (by rw [opL_yes (by omega) hbit] at hlen; rw [List.length_cons] at hlen; omega)]
          · have hbit : may.testBit k = false := by rw [Nat.testBit_eq_decide_div_mod_eq]; exact decide_eq_false (by omega)
            refine V_goto (pc' := 89) hX dX8_grow_38 rfl ?_
            refine V_iincN (pc' := 92) (j := 1) (lv' := [_, _, _, _, _, _]) hX dX8_grow_89 rfl rfl rfl rfl ?_
            refine V_goto (pc' := 20) hX dX8_grow_92 rfl ?_
            first
              | (refine ih (k + 1) _ b3 (by omega) (by omega) hb3 (Or.inr ⟨j, hj, ?_⟩) (a4.tr f3) hM (by omega)
                 rw [← hgl, eb3, opL_yes (by omega) hbit, bl_or_high (by omega) (fun i hi => by have := k7 i hi; omega)]
                 show _ = (if (bl in0).length + ((opL fm may (k + 1)).length + 1) ≤ (bl b2).length then _ else _)
                 rw [if_neg (by rw [opL_yes (by omega) hbit] at hlen; rw [List.length_cons] at hlen; omega), opL_and (by omega)]
                 rfl)
              | (refine ih (k + 1) _ b2 (by omega) (by omega) a2 (Or.inr ⟨j, hj, ?_⟩) a4 hM (by omega)
                 rw [← hgl, opL_no hbit])
    refine lp (fm + 1) fro hj bj (Nat.le_refl _) k2.2 j1 ?_ j3 hM (by omega)
    cases f with
    | zero => exact Or.inl ⟨rfl, by omega, j2⟩
    | succ j => exact Or.inr ⟨j, rfl, by rw [j2]; rfl⟩
  refine V_iload (pc' := 2) hX dX8_grow_0 rfl rfl ?_
  refine V_aload_n (pc' := 3) hX dX8_grow_2 rfl rfl ?_
  refine V_get (pc' := 6) hX dX8_grow_3 hM.1 rfl inX8 29 (by decide) wF_X8_197 rfl rfl ?_
  refine V_callS (nA := 1) (pc' := 9) (k' := 0) (n' := 0) hX dX8_grow_6 (c_bitCountI be (by omega)) wM_X8_200 wS_J6_bitCount_0f7a4 wN_J6 wC_J6_bitCount_0f7a4 rfl hy_J6_bitCount_0f7a4 rfl (Nat.le_of_ble_eq_true rfl) (by decide) (by omega) rfl rfl (by omega) rfl (by omega) rfl ?_
  rintro _ z h ⟨rfl, rfl, rfl⟩
  refine V.stk (st' := [_, _]) rfl ?_
  refine V_icmp_leN (pt := 17) (pc' := 12) hX dX8_grow_9 (by omega) (by omega) rfl rfl (fun c9 => ?_) (fun c9 => ?_)
  · refine V.loc2 (lv' := [some _, some _, some _, some _, some _, none]) ⟨rfl, rfl, rfl, rfl, rfl, trivial⟩ ?_
    first
      | (refine jn _ in0 k5 ?_ fu hM2
         unfold pickL; rw [if_pos (by omega)])
      | (refine jn h be k6 ?_ fr.rf hM
         unfold pickL; rw [if_neg (by omega)])
  · refine V_aload_n (pc' := 13) hX dX8_grow_12 rfl rfl ?_
    refine V_iload_n (pc' := 14) hX dX8_grow_13 rfl rfl ?_
    refine V_put (pc' := 17) (fs' := [_, _, _, _, _, _, _, _, _, _, _, _, _, _, _, _, _, _, _, _, _, _, _, _, _, _, _, _, _, _]) (ty0 := tyX8) hX dX8_grow_14 hM.1 rfl inX8 tyX8_ok nmX8 29 (by decide) wF_X8_197 rfl (tyX8_ok 29 (by decide)) rfl rfl (Nat.le_of_ble_eq_true rfl) rfl rfl ?_
    refine V.gen (fun hu ehu => ?_)
    have fu := fr.of_up ehu
    have hM2 := hM.u0 (up_at ehu) fu
    refine V.loc2 (lv' := [some _, some _, some _, some _, some _, none]) ⟨rfl, rfl, rfl, rfl, rfl, trivial⟩ ?_
    first
      | (refine jn _ in0 k5 ?_ fu hM2
         unfold pickL; rw [if_pos (by omega)])
      | (refine jn h be k6 ?_ fr.rf hM
         unfold pickL; rw [if_neg (by omega)])
theorem c_Md_grow {G : Gd} {z : Nat} {y : Nat} {th : Int32} {mk : Nat} {ts : Nat} {fs : Nat} {kd : Nat} {p : Nat} {q : Nat} {len : Nat} {ks : Nat} {fm : Nat} {cm : Nat} {dz : Nat → Bool} {mn : Nat → Nat} {st : Nat → Nat} {tn : Nat → Nat} {tv : Nat → Nat} {fn : Nat → Nat} {fv : Nat → Nat} {on : Nat → Nat} {tw : Nat → Nat} {bf : Nat → Nat} {g1 : Nat → Nat} {g2 : Nat → Nat} {g3 : Nat → Nat} {sv : Nat → Nat} {fa : Nat → Int32} {fy : Nat → Nat} {bs : Nat → Nat} {cf : Nat → Nat} : ∀ (f : Nat) (h : AH) (be fro may in0 n : Nat), mdC G h y th mk ts fs kd p q len ks fm cm be dz mn st tn tv fn fv on tw bf g1 g2 g3 sv fa fy bs cf → fm ≤ 20 → (fm - fro ≤ f ∧ fro ≤ fm) → n = (bl in0).length → may < 2 ^ fm → in0 < 2 ^ fm → be < 2 ^ fm → (∀ i, i ∈ bl in0 → i < fro) → (∀ k, k < fm → bs k < 2 ^ 20) → Ct G yX8_grow cX8_grow 6 none (f + 1) 0 0 [.ref y, .int (nI fro), .int (nI may), .int (nI in0), .int (nI n)] z h (fun r z' h' => r = none ∧ z' = z ∧ fr y (y + 1) h h' ∧ ∃ be', be' < 2 ^ fm ∧ bl be' = gcl (adjF bs) f (bl in0) (opL fm may fro) (bl be) ∧ mdC G h' y th mk ts fs kd p q len ks fm cm (be') dz mn st tn tv fn fv on tw bf g1 g2 g3 sv fa fy bs cf)
  | 0, h, be, fro, may, in0, n, hM, k1, k2, k3, k4, k5, k6, k7, k8 => c_Md_grow_step 0 fro may in0 n k1 k2 k3 k4 k5 k6 k7 k8 (fun j hj => by omega) hM
  | f + 1, h, be, fro, may, in0, n, hM, k1, k2, k3, k4, k5, k6, k7, k8 => c_Md_grow_step (f + 1) fro may in0 n k1 k2 k3 k4 k5 k6 k7 k8 (fun j hj => by
    have e : j = f := by omega
    subst e
    exact c_Md_grow j) hM
